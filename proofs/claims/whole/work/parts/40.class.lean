/-! THE CLASS: touch; settings -/
def lfr (w : SS) : Int := fnd (clF w) (w.1 7).toNat
def bfM (w : SS) : SS := if lfr w < 0 then cfM w else w
def bfR (w : SS) : Int := if lfr w < 0 then cfR w else 0
def brM (u : SS) (p : Nat) : SS := ptM (bfM (detM u p)) p (lfr (bfM (detM u p)))
def brR (u : SS) (p : Nat) : Int := sfC (u.2 23 p) + bfR (detM u p)
theorem lfr_b {u : SS} (I : CI u) : -1 ≤ lfr u ∧ lfr u < u.1 7 ∧ lfr u < 16 := by
  have i7 := I.s7
  have h := fnd_bd (p := clF u) (u.1 7).toNat
  unfold lfr
  omega
theorem lfr_all {u : SS} (h : lfr u < 0) : ∀ f : Nat, (f : Int) < u.1 7 → 0 ≤ u.2 2 f := fun f h2 => by
  have := fnd_all h f (by omega)
  unfold clF at this
  simp at this
  omega
theorem lfr_ex {u : SS} {f : Nat} (h1 : (f : Int) < u.1 7) (h2 : u.2 2 f < 0) : 0 ≤ lfr u := by
  apply Classical.byContradiction
  intro hn
  have := lfr_all (u := u) (by omega) f h1
  omega
theorem cfM_S {u : SS} {s : Nat} (h1 : s ≠ 10) (h2 : s ≠ 11) (h3 : s ≠ 6) (h4 : s ≠ 12) (h5 : s ≠ 8) : (cfM u).1 s = u.1 s := by
  show (tiM _ _).1 s = _
  rw [tiM_S h1 h2 h3 h4, cf0_S h5]
theorem cfM_A {u : SS} {a j : Nat} (h0 : a ≠ 0) (h1 : a ≠ 23) (h2 : a ≠ 24) (h3 : a ≠ 25) (h4 : a ≠ 3) (h5 : a ≠ 2) : (cfM u).2 a j = u.2 a j := by
  show (tiM _ _).2 a j = _
  rw [tiM_A h0 h1 h2 h3 h4, cf0_A h3 h5]
theorem cfM_2 {u : SS} {j : Nat} : (cfM u).2 2 j = if j = cfH u then -1 else u.2 2 j := by
  show (tiM _ _).2 2 j = _
  rw [tiM_A (by decide) (by decide) (by decide) (by decide) (by decide), cf0_2]
theorem CI_cf {u : SS} (I : CI u) (hh : u.1 8 < u.1 7) (hal : ∀ f : Nat, (f : Int) < u.1 7 → 0 ≤ u.2 2 f) (h47 : u.1 11 ≤ 47) : CI (cfM u) :=
  CI_ti (CI_cf0 I hh) (by rw [cf0_S (by decide)]; exact (cfP_b I hh hal).1) (by rw [cf0_S (by decide)]; exact h47)
theorem cfR_b {u : SS} (I : CI u) (hh : u.1 8 < u.1 7) : 1 ≤ cfR u ∧ cfR u ≤ 241 := tiR_b (CI_cf0 I hh) _
theorem bfM_I {w : SS} (I : CI w) (hh : w.1 8 < w.1 7) (h47 : w.1 11 ≤ 47) : CI (bfM w) ∧ 0 ≤ lfr (bfM w) ∧ (bfM w).1 14 = w.1 14 ∧ (bfM w).1 7 = w.1 7 := by
  unfold bfM
  by_cases h : lfr w < 0
  · rw [if_pos h]
    have hal := lfr_all h
    have hP := cfP_b I hh hal
    have e7 : (cfM w).1 7 = w.1 7 := cfM_S (by decide) (by decide) (by decide) (by decide) (by decide)
    exact ⟨CI_cf I hh hal h47, lfr_ex (f := cfH w) (by rw [e7]; exact hP.2.1) (by rw [cfM_2, if_pos rfl]; decide), cfM_S (by decide) (by decide) (by decide) (by decide) (by decide), e7⟩
  · rw [if_neg h]
    exact ⟨I, by omega, rfl, rfl⟩
theorem bfR_b {w : SS} (I : CI w) (hh : w.1 8 < w.1 7) : 0 ≤ bfR w ∧ bfR w ≤ 241 := by
  unfold bfR
  have := cfR_b I hh
  split <;> omega
theorem sfC_b (c : Int) : 1 ≤ sfC c ∧ sfC c ≤ 10 := by
  unfold sfC
  split
  · decide
  · split <;> decide
theorem CI_pt {u : SS} {p : Nat} {f : Int} (I : CI u) (hp : (p : Int) < 8 * u.1 14) (hf : 0 ≤ f ∧ f ≤ 15) : CI (ptM u p f) := CI_mf (CI_A2 I (by omega)) (pg48 I hp) hf
theorem brM_I {u : SS} {p : Nat} (I : CI u) (hp : (p : Int) < 8 * u.1 14) (hh : u.1 8 < u.1 7) (h47 : (detM u p).1 11 ≤ 47) : CI (brM u p) := by
  have J := CI_det I p
  have e8 : (detM u p).1 8 = u.1 8 := detM_S (by decide) (by decide)
  have e7 : (detM u p).1 7 = u.1 7 := detM_S (by decide) (by decide)
  have e14 : (detM u p).1 14 = u.1 14 := detM_S (by decide) (by decide)
  have h := bfM_I J (by omega) h47
  have hb := lfr_b h.1
  exact CI_pt h.1 (by rw [h.2.2.1, e14]; exact hp) (by omega)
theorem brR_b {u : SS} {p : Nat} (I : CI u) (hh : u.1 8 < u.1 7) : 1 ≤ brR u p ∧ brR u p ≤ 251 := by
  have e8 : (detM u p).1 8 = u.1 8 := detM_S (by decide) (by decide)
  have e7 : (detM u p).1 7 = u.1 7 := detM_S (by decide) (by decide)
  have h1 := bfR_b (CI_det I p) (by omega)
  have h2 := sfC_b (u.2 23 p)
  unfold brR
  omega
set_option maxHeartbeats 4000000 in
set_option maxRecDepth 100000 in
theorem c_X6_bringIntoFrame {u v : SS} {g : GH} (I : CI u) {p : Nat} (hp : (p : Int) < 8 * u.1 14) (hg : NR g) (hh : u.1 8 < u.1 7) (h102 : u.2 23 p ≠ 102) (h47 : (detM u p).1 11 ≤ 47) : Cn yX6_bringIntoFrame (wsy yX6_bringIntoFrame cX6_bringIntoFrame 4 (some .int)) 9 1 73 nwG [vR (some 1000), vR (some (3000 + p))] (mk u v g) (.inl (some (vI (brR u p)), mk (brM u p) v g)) := by
  refine con_k2 (lv := [(0, vR (some 1000)), (1, vR (some (3000 + p)))]) (by decide) (by unfold nwG; decide) (fun ad => Nat.le_of_ble_eq_true rfl) (fun ad => rfl) rfl ?_
  intro k C hr hkG hlv hmc hms hw hPo hPx htab
  have ic := I.a23 p
  have J := CI_det I p
  have e8 : (detM u p).1 8 = u.1 8 := detM_S (by decide) (by decide)
  have e7 : (detM u p).1 7 = u.1 7 := detM_S (by decide) (by decide)
  have e14 : (detM u p).1 14 = u.1 14 := detM_S (by decide) (by decide)
  have h48 := pg48 I hp
  have hl := lfr_b J
  have hsf := sfC_b (u.2 23 p)
  have hB := bfM_I J (by omega) h47
  have hB1 := hB.1
  have hB2 := hB.2.2.1
  have hlB := lfr_b hB.1
  have hl0 := hB.2.1
  refine ev_s C dX6_bringIntoFrame_0 (q := 1) rfl rfl ?_
  refine cgp_3 C dX6_bringIntoFrame_1 kf_X6_112 (q := 4) rfl (by show (_ : Int) < 8 * u.1 14; omega) ?_
  refine ev_cS C dX6_bringIntoFrame_4 (q := 7) rfl km_X6_285 ks_X6_stallsFrom kc_X6_stallsFrom (c_X6_stallsFrom (by unfold rg; omega)) rfl rfl (by rw [hlv]; first | decide | omega) (by decide) (Nat.le_of_ble_eq_true rfl) (by first | exact Nat.zero_le _ | (rw [hmc]; decide) | (rw [hmc]; omega)) (by first | exact Nat.zero_le _ | (rw [hms]; decide) | (rw [hms]; omega)) ?_
  refine ev_s C dX6_bringIntoFrame_7 (q := 8) rfl rfl ?_
  refine ev_s C dX6_bringIntoFrame_8 (q := 9) rfl rfl ?_
  refine ev_s C dX6_bringIntoFrame_9 (q := 10) rfl rfl ?_
  refine ev_cV C dX6_bringIntoFrame_10 (q := 13) rfl km_X6_288 kv_X6_detach kc_X6_detach (c_X6_detach I hp (fun h => absurd h h102)) rfl rfl vcX6 rfl (by rw [hlv]; first | decide | omega) (by decide) (Nat.le_of_ble_eq_true rfl) (by first | exact Nat.zero_le _ | (rw [hmc]; decide) | (rw [hmc]; omega)) (by first | exact Nat.zero_le _ | (rw [hms]; decide) | (rw [hms]; omega)) ?_
  refine ev_s C dX6_bringIntoFrame_13 (q := 14) rfl rfl ?_
  refine cg_1000_1 C dX6_bringIntoFrame_14 kf_X6_19 (q := 17) rfl ?_
  refine ev_cV C dX6_bringIntoFrame_17 (q := 20) rfl km_X6_292 kv_X0_lowestFree kc_X0_lowestFree (c_X0_lowestFree J) rfl rfl vcX0 rfl (by rw [hlv]; first | decide | omega) (by decide) (Nat.le_of_ble_eq_true rfl) (by first | exact Nat.zero_le _ | (rw [hmc]; decide) | (rw [hmc]; omega)) (by first | exact Nat.zero_le _ | (rw [hms]; decide) | (rw [hms]; omega)) ?_
  refine ev_s C dX6_bringIntoFrame_20 (q := 21) rfl rfl ?_
  refine ev_s C dX6_bringIntoFrame_21 (q := 22) rfl rfl ?_
  refine ev_s C dX6_bringIntoFrame_22 (q := 23) rfl rfl ?_
  show EV k 23 _ (vI (-1) :: vI (lfr (detM u p)) :: []) _ _ _
  refine ev_icmp_ne C dX6_bringIntoFrame_23 (tgt := 41) (q := 26) (by decide) rfl (by first | decide | (unfold rg; omega)) (by first | decide | (unfold rg; omega)) (fun b0 => ?_) (fun b0 => ?_)
  · have b9 : ¬ lfr (detM u p) < 0 := by omega
    refine ev_eq (G := mk (bfM (detM u p)) v g) (by unfold bfM; rw [if_neg b9]) ?_
    refine ev_eqL (lv := [(0, vR (some 1000)), (1, vR (some (3000 + p))), (2, vI (sfC (u.2 23 p))), (3, vI (lfr (bfM (detM u p))))]) (by unfold bfM; rw [if_neg b9]; rfl) ?_
    refine ev_s C dX6_bringIntoFrame_41 (q := 42) rfl rfl ?_
    refine cg_1000_1 C dX6_bringIntoFrame_42 kf_X6_19 (q := 45) rfl ?_
    refine ev_s C dX6_bringIntoFrame_45 (q := 46) rfl rfl ?_
    refine ev_s C dX6_bringIntoFrame_46 (q := 47) rfl rfl ?_
    refine ev_cV C dX6_bringIntoFrame_47 (q := 50) rfl km_X6_298 kv_X0_put kc_X0_put (c_X0_put (u := bfM (detM u p)) hB1 (p := p) (by omega) h48 (f := lfr (bfM (detM u p))) (by omega)) rfl rfl vcX0 rfl (by rw [hlv]; first | decide | omega) (by decide) (Nat.le_of_ble_eq_true rfl) (by first | exact Nat.zero_le _ | (rw [hmc]; decide) | (rw [hmc]; omega)) (by first | exact Nat.zero_le _ | (rw [hms]; decide) | (rw [hms]; omega)) ?_
    refine ev_s C dX6_bringIntoFrame_50 (q := 51) rfl rfl ?_
    exact ev_iret C hr dX6_bringIntoFrame_51 (by rw [hmc]; decide) (by rw [hms]; omega) (po_1 hPo (by unfold brR bfR; first | (rw [if_pos b9]; done) | (rw [if_neg b9, Int.add_zero])) rfl)
  · have b9 : lfr (detM u p) < 0 := by omega
    refine ev_s C dX6_bringIntoFrame_26 (q := 27) rfl rfl ?_
    refine ev_s C dX6_bringIntoFrame_27 (q := 28) rfl rfl ?_
    refine ev_cVn C dX6_bringIntoFrame_28 (q := 31) rfl km_X6_295 kv_X6_clearFrame kc_X6_clearFrame (c_X6_clearFrame J (by omega) (lfr_all b9) hg h47) rfl rfl vcX6 rfl (by rw [hlv]; first | decide | omega) (by decide) (Nat.le_of_ble_eq_true rfl) (by first | exact Nat.zero_le _ | (rw [hmc]; decide) | (rw [hmc]; omega)) (by first | exact Nat.zero_le _ | (rw [hms]; decide) | (rw [hms]; omega)) (by rw [hw]; exact fun _ h => h) (by repeat' (first | exact nvA_0 | exact nvB_0 | apply nvA_c | apply nvB_c | exact nv_I | exact nv_L | exact nv_N | exact nv_R (by unfold nwG; omega) | exact nv_I' | exact nv_L' | exact nv_N' | exact nv_R' (by unfold nwG; omega))) (by repeat' (first | exact nvA_0 | exact nvB_0 | apply nvA_c | apply nvB_c | exact nv_I | exact nv_L | exact nv_N | exact nv_R (by unfold nwG; omega) | exact nv_I' | exact nv_L' | exact nv_N' | exact nv_R' (by unfold nwG; omega))) ?_
    refine ev_s C dX6_bringIntoFrame_31 (q := 32) rfl rfl ?_
    refine ev_s C dX6_bringIntoFrame_32 (q := 33) rfl rfl ?_
    refine ev_eq (G := mk (bfM (detM u p)) v g) (by unfold bfM; rw [if_pos b9]) ?_
    refine ev_s C dX6_bringIntoFrame_33 (q := 34) rfl rfl ?_
    refine cg_1000_1 C dX6_bringIntoFrame_34 kf_X6_19 (q := 37) rfl ?_
    refine ev_cV C dX6_bringIntoFrame_37 (q := 40) rfl km_X6_292 kv_X0_lowestFree kc_X0_lowestFree (c_X0_lowestFree hB1) rfl rfl vcX0 rfl (by rw [hlv]; first | decide | omega) (by decide) (Nat.le_of_ble_eq_true rfl) (by first | exact Nat.zero_le _ | (rw [hmc]; decide) | (rw [hmc]; omega)) (by first | exact Nat.zero_le _ | (rw [hms]; decide) | (rw [hms]; omega)) ?_
    refine ev_s C dX6_bringIntoFrame_40 (q := 41) rfl rfl ?_
    refine ev_s C dX6_bringIntoFrame_41 (q := 42) rfl rfl ?_
    refine cg_1000_1 C dX6_bringIntoFrame_42 kf_X6_19 (q := 45) rfl ?_
    refine ev_s C dX6_bringIntoFrame_45 (q := 46) rfl rfl ?_
    refine ev_s C dX6_bringIntoFrame_46 (q := 47) rfl rfl ?_
    refine ev_cV C dX6_bringIntoFrame_47 (q := 50) rfl km_X6_298 kv_X0_put kc_X0_put (c_X0_put (u := bfM (detM u p)) hB1 (p := p) (by omega) h48 (f := lfr (bfM (detM u p))) (by omega)) rfl rfl vcX0 rfl (by rw [hlv]; first | decide | omega) (by decide) (Nat.le_of_ble_eq_true rfl) (by first | exact Nat.zero_le _ | (rw [hmc]; decide) | (rw [hmc]; omega)) (by first | exact Nat.zero_le _ | (rw [hms]; decide) | (rw [hms]; omega)) ?_
    refine ev_s C dX6_bringIntoFrame_50 (q := 51) rfl rfl ?_
    exact ev_iret C hr dX6_bringIntoFrame_51 (by rw [hmc]; decide) (by rw [hms]; omega) (po_1 hPo (by unfold brR bfR; first | (rw [if_pos b9]; done) | (rw [if_neg b9, Int.add_zero])) rfl)
def ct1 (u : SS) (x : Int) : SS := if x = 0 then stS (stS u 3 (u.1 3 + 1)) 4 (u.1 4 + 1) else stS u 3 (u.1 3 + 1)
def ct2 (u : SS) (s : Nat) (x : Int) : SS := stA (stS (ct1 u x) 5 (u.1 5 + x)) 19 s (u.2 19 s + x)
def ctM (u : SS) (s : Nat) (x : Int) : SS := addM (ct2 u s x) x
def cBT (u : SS) : Prop := u.1 3 + 1 ≤ 1000000 ∧ u.1 4 + 1 ≤ 1000000 ∧ u.1 5 + 310 ≤ 1000000000 ∧ (∀ j, u.2 19 j + 310 ≤ 1000000000) ∧ u.2 4 0 + 310 ≤ 1000000
theorem ct1_S {u : SS} {x : Int} {s : Nat} (h3 : s ≠ 3) (h4 : s ≠ 4) : (ct1 u x).1 s = u.1 s := by
  unfold ct1
  split
  · rw [stS_1, if_neg h4, stS_1, if_neg h3]
  · rw [stS_1, if_neg h3]
theorem ct1_2 {u : SS} {x : Int} : (ct1 u x).2 = u.2 := by
  unfold ct1
  split <;> rfl
theorem CI_ct1 {u : SS} {x : Int} (I : CI u) (h : cBT u) : CI (ct1 u x) := by
  have i3 := I.s3
  have i4 := I.s4
  obtain ⟨h3, h4, -⟩ := h
  have J : CI (stS u 3 (u.1 3 + 1)) := CI_S I (Or.inr (Or.inr (by show 0 ≤ u.1 3 + 1 ∧ u.1 3 + 1 ≤ 1000000; omega))) (by decide) (by decide) (by decide) (by decide)
  unfold ct1
  split
  · exact CI_S J (Or.inr (Or.inr (by show 0 ≤ u.1 4 + 1 ∧ u.1 4 + 1 ≤ 1000000; omega))) (by decide) (by decide) (by decide) (by decide)
  · exact J
theorem CI_ct2 {u : SS} {s : Nat} {x : Int} (I : CI u) (h : cBT u) (hx : 0 ≤ x ∧ x ≤ 310) : CI (ct2 u s x) := by
  have i5 := I.s5
  have i19 := I.a19 s
  have h19 := h.2.2.2.1 s
  have h5 := h.2.2.1
  exact CI_A (CI_S (CI_ct1 I h) (Or.inr (Or.inr (by show 0 ≤ u.1 5 + x ∧ u.1 5 + x ≤ 1000000000; omega))) (by decide) (by decide) (by decide) (by decide)) (by show 0 ≤ u.2 19 s + x ∧ u.2 19 s + x ≤ 1000000000; omega) (by decide) (by decide)
theorem ct2_4 {u : SS} {s : Nat} {x : Int} {j : Nat} : (ct2 u s x).2 4 j = u.2 4 j := by
  unfold ct2
  rw [stA_2, if_neg (by decide)]
  show (ct1 u x).2 4 j = _
  rw [ct1_2]
theorem CI_ct {u : SS} {s : Nat} {x : Int} (I : CI u) (h : cBT u) (hx : 0 ≤ x ∧ x ≤ 310) : CI (ctM u s x) := by
  have h4 := h.2.2.2.2
  have i4 := I.a4 0
  have e : (ct2 u s x).2 4 0 = u.2 4 0 := ct2_4
  exact CI_A (CI_ct2 I h hx) (by rw [e]; show 0 ≤ u.2 4 0 + x ∧ u.2 4 0 + x ≤ 1000000; omega) (by decide) (by decide)
set_option maxHeartbeats 4000000 in
set_option maxRecDepth 100000 in
theorem c_X6_countTouch {u v : SS} {g : GH} (I : CI u) {s : Nat} (hs : (s : Int) < u.1 14) {x : Int} (hb : cBT u) (hx : 0 ≤ x ∧ x ≤ 310) : Cn yX6_countTouch (wsy yX6_countTouch cX6_countTouch 3 none) 1 0 0 nn [vR (some 1000), vR (some (2000 + s)), vI x] (mk u v g) (.inl (none, mk (ctM u s x) v g)) := by
  refine con_j (lv := [(0, vR (some 1000)), (1, vR (some (2000 + s))), (2, vI x)]) (by decide) (fun ad => Nat.le_of_ble_eq_true rfl) (fun ad => rfl) rfl ?_
  intro k C hr hlv hmc hms hPo hPx htab
  have i14 := I.s14
  have e14 : (ct1 u x).1 14 = u.1 14 := ct1_S (by decide) (by decide)
  have e5 : (ct1 u x).1 5 = u.1 5 := ct1_S (by decide) (by decide)
  have e19 : (ct1 u x).2 19 s = u.2 19 s := by rw [ct1_2]
  have hJ := CI_ct2 (s := s) I hb hx
  refine ev_s C dX6_countTouch_0 (q := 1) rfl rfl ?_
  refine ev_s C dX6_countTouch_1 (q := 2) rfl rfl ?_
  refine cg_1000_8 C dX6_countTouch_2 kf_X6_251 (q := 5) rfl ?_
  refine ev_s C dX6_countTouch_5 (q := 6) rfl rfl ?_
  refine ev_s C dX6_countTouch_6 (q := 7) rfl rfl ?_
  refine cp_1000_8 C dX6_countTouch_7 kf_X6_251 (q := 10) rfl (fit_I _) ?_
  refine ev_s C dX6_countTouch_10 (q := 11) rfl rfl ?_
  refine ev_if_ne C dX6_countTouch_11 (tgt := 24) (q := 14) (by decide) rfl (by first | decide | (unfold rg; omega)) (fun b0 => ?_) (fun b0 => ?_)
  · refine ev_eq (G := mk (ct1 u x) v g) (by unfold ct1; first | (rw [if_pos (by assumption)]; rfl) | (rw [if_neg (by assumption)])) ?_
    refine ev_s C dX6_countTouch_24 (q := 25) rfl rfl ?_
    refine ev_s C dX6_countTouch_25 (q := 26) rfl rfl ?_
    refine cg_1000_10 C dX6_countTouch_26 kf_X6_262 (q := 29) rfl ?_
    refine ev_s C dX6_countTouch_29 (q := 30) rfl rfl ?_
    refine ev_i2l C dX6_countTouch_30 (q := 31) rfl (by first | decide | (unfold rg; omega)) ?_
    skip
    refine ev_s C dX6_countTouch_31 (q := 32) rfl rfl ?_
    refine cp_1000_10 C dX6_countTouch_32 kf_X6_262 (q := 35) rfl (fit_L _) ?_
    refine ev_s C dX6_countTouch_35 (q := 36) rfl rfl ?_
    refine ev_s C dX6_countTouch_36 (q := 37) rfl rfl ?_
    refine cgs_9 C dX6_countTouch_37 kf_X6_213 (q := 40) rfl (by show (s : Int) < (ct1 u x).1 14; omega) (by omega) ?_
    refine ev_s C dX6_countTouch_40 (q := 41) rfl rfl ?_
    refine ev_i2l C dX6_countTouch_41 (q := 42) rfl (by first | decide | (unfold rg; omega)) ?_
    refine ev_s C dX6_countTouch_42 (q := 43) rfl rfl ?_
    refine cps_9 C dX6_countTouch_43 kf_X6_213 (q := 46) rfl (fit_L _) (by show (s : Int) < (ct1 u x).1 14; omega) (by omega) ?_
    refine ev_eq (G := mk (ct2 u s x) v g) (by unfold ct2; rw [← e5, ← e19]; rfl) ?_
    refine ev_s C dX6_countTouch_46 (q := 47) rfl rfl ?_
    refine cg_1000_3 C dX6_countTouch_47 kf_X6_33 (q := 50) rfl ?_
    refine ev_s C dX6_countTouch_50 (q := 51) rfl rfl ?_
    refine ev_cV C dX6_countTouch_51 (q := 54) rfl km_X6_309 kv_X3_add kc_X3_add (c_X3_add (u := ct2 u s x) hJ) rfl rfl vcX3 rfl (by rw [hlv]; first | decide | omega) (by decide) (Nat.le_of_ble_eq_true rfl) (by first | exact Nat.zero_le _ | (rw [hmc]; decide) | (rw [hmc]; omega)) (by first | exact Nat.zero_le _ | (rw [hms]; decide) | (rw [hms]; omega)) ?_
    exact ev_vret C hr dX6_countTouch_54 (Nat.zero_le _) (Nat.zero_le _) (po_0 hPo rfl)
  · refine ev_s C dX6_countTouch_14 (q := 15) rfl rfl ?_
    refine ev_s C dX6_countTouch_15 (q := 16) rfl rfl ?_
    refine cg_1000_9 C dX6_countTouch_16 kf_X6_259 (q := 19) rfl ?_
    refine ev_s C dX6_countTouch_19 (q := 20) rfl rfl ?_
    refine ev_s C dX6_countTouch_20 (q := 21) rfl rfl ?_
    refine cp_1000_9 C dX6_countTouch_21 kf_X6_259 (q := 24) rfl (fit_I _) ?_
    refine ev_eq (G := mk (ct1 u x) v g) (by unfold ct1; first | (rw [if_pos (by assumption)]; rfl) | (rw [if_neg (by assumption)])) ?_
    refine ev_s C dX6_countTouch_24 (q := 25) rfl rfl ?_
    refine ev_s C dX6_countTouch_25 (q := 26) rfl rfl ?_
    refine cg_1000_10 C dX6_countTouch_26 kf_X6_262 (q := 29) rfl ?_
    refine ev_s C dX6_countTouch_29 (q := 30) rfl rfl ?_
    refine ev_i2l C dX6_countTouch_30 (q := 31) rfl (by first | decide | (unfold rg; omega)) ?_
    skip
    refine ev_s C dX6_countTouch_31 (q := 32) rfl rfl ?_
    refine cp_1000_10 C dX6_countTouch_32 kf_X6_262 (q := 35) rfl (fit_L _) ?_
    refine ev_s C dX6_countTouch_35 (q := 36) rfl rfl ?_
    refine ev_s C dX6_countTouch_36 (q := 37) rfl rfl ?_
    refine cgs_9 C dX6_countTouch_37 kf_X6_213 (q := 40) rfl (by show (s : Int) < (ct1 u x).1 14; omega) (by omega) ?_
    refine ev_s C dX6_countTouch_40 (q := 41) rfl rfl ?_
    refine ev_i2l C dX6_countTouch_41 (q := 42) rfl (by first | decide | (unfold rg; omega)) ?_
    refine ev_s C dX6_countTouch_42 (q := 43) rfl rfl ?_
    refine cps_9 C dX6_countTouch_43 kf_X6_213 (q := 46) rfl (fit_L _) (by show (s : Int) < (ct1 u x).1 14; omega) (by omega) ?_
    refine ev_eq (G := mk (ct2 u s x) v g) (by unfold ct2; rw [← e5, ← e19]; rfl) ?_
    refine ev_s C dX6_countTouch_46 (q := 47) rfl rfl ?_
    refine cg_1000_3 C dX6_countTouch_47 kf_X6_33 (q := 50) rfl ?_
    refine ev_s C dX6_countTouch_50 (q := 51) rfl rfl ?_
    refine ev_cV C dX6_countTouch_51 (q := 54) rfl km_X6_309 kv_X3_add kc_X3_add (c_X3_add (u := ct2 u s x) hJ) rfl rfl vcX3 rfl (by rw [hlv]; first | decide | omega) (by decide) (Nat.le_of_ble_eq_true rfl) (by first | exact Nat.zero_le _ | (rw [hmc]; decide) | (rw [hmc]; omega)) (by first | exact Nat.zero_le _ | (rw [hms]; decide) | (rw [hms]; omega)) ?_
    exact ev_vret C hr dX6_countTouch_54 (Nat.zero_le _) (Nat.zero_le _) (po_0 hPo rfl)
def to1 (u : SS) (p : Nat) : SS := if u.2 23 p = 102 then stA u 25 p 1 else brM u p
def toR (u : SS) (p : Nat) : Int := if u.2 23 p = 102 then 0 else brR u p
def tcM (u : SS) (s p : Nat) : SS := ctM (to1 u (8 * s + p)) s (toR u (8 * s + p))
theorem to1_I {u : SS} {p : Nat} (I : CI u) (hp : (p : Int) < 8 * u.1 14) (hh : u.1 8 < u.1 7) (h47 : (detM u p).1 11 ≤ 47) : CI (to1 u p) := by
  unfold to1
  split
  · exact CI_A I (by decide) (by decide) (by decide)
  · exact brM_I I hp hh h47
theorem toR_b {u : SS} {p : Nat} (I : CI u) (hh : u.1 8 < u.1 7) : 0 ≤ toR u p ∧ toR u p ≤ 251 := by
  have := brR_b (p := p) I hh
  unfold toR
  split <;> omega
theorem bfM_S {w : SS} {s : Nat} (h1 : s ≠ 10) (h2 : s ≠ 11) (h3 : s ≠ 6) (h4 : s ≠ 12) (h5 : s ≠ 8) : (bfM w).1 s = w.1 s := by
  unfold bfM
  split
  · exact cfM_S h1 h2 h3 h4 h5
  · rfl
theorem brM_S {u : SS} {p s : Nat} (h1 : s ≠ 10) (h2 : s ≠ 11) (h3 : s ≠ 6) (h4 : s ≠ 12) (h5 : s ≠ 8) : (brM u p).1 s = u.1 s := by
  show (mfM _ _ _).1 s = _
  rw [mfM_S h3]
  show (bfM _).1 s = _
  rw [bfM_S h1 h2 h3 h4 h5, detM_S h1 h2]
theorem bfM_A {w : SS} {a j : Nat} (h0 : a ≠ 0) (h1 : a ≠ 23) (h2 : a ≠ 24) (h3 : a ≠ 25) (h4 : a ≠ 3) (h5 : a ≠ 2) : (bfM w).2 a j = w.2 a j := by
  unfold bfM
  split
  · exact cfM_A h0 h1 h2 h3 h4 h5
  · rfl
theorem brM_A {u : SS} {p a j : Nat} (h0 : a ≠ 0) (h1 : a ≠ 23) (h2 : a ≠ 24) (h3 : a ≠ 25) (h4 : a ≠ 3) (h5 : a ≠ 2) : (brM u p).2 a j = u.2 a j := by
  show (mfM _ _ _).2 a j = _
  rw [mfM_A h0 h1 h2 h3, stA_2, if_neg h5, bfM_A h0 h1 h2 h3 h4 h5, detM_A h4 h5]
theorem to1_S {u : SS} {p s : Nat} (h1 : s ≠ 10) (h2 : s ≠ 11) (h3 : s ≠ 6) (h4 : s ≠ 12) (h5 : s ≠ 8) : (to1 u p).1 s = u.1 s := by
  unfold to1
  split
  · rfl
  · exact brM_S h1 h2 h3 h4 h5
theorem to1_A {u : SS} {p a j : Nat} (h0 : a ≠ 0) (h1 : a ≠ 23) (h2 : a ≠ 24) (h3 : a ≠ 25) (h4 : a ≠ 3) (h5 : a ≠ 2) : (to1 u p).2 a j = u.2 a j := by
  unfold to1
  split
  · rw [stA_2, if_neg h3]
  · exact brM_A h0 h1 h2 h3 h4 h5
theorem to1_BT {u : SS} {p : Nat} (h : cBT u) : cBT (to1 u p) := by
  obtain ⟨h3, h4, h5, h6, h7⟩ := h
  refine ⟨?_, ?_, ?_, fun j => ?_, ?_⟩
  · rw [to1_S (by decide) (by decide) (by decide) (by decide) (by decide)]; exact h3
  · rw [to1_S (by decide) (by decide) (by decide) (by decide) (by decide)]; exact h4
  · rw [to1_S (by decide) (by decide) (by decide) (by decide) (by decide)]; exact h5
  · rw [to1_A (by decide) (by decide) (by decide) (by decide) (by decide) (by decide)]; exact h6 j
  · rw [to1_A (by decide) (by decide) (by decide) (by decide) (by decide) (by decide)]; exact h7
set_option maxHeartbeats 4000000 in
set_option maxRecDepth 100000 in
theorem c_X6_touch_x1 {u v : SS} {g : GH} (I : CI u) {s p : Int} (hs : rg s) (h : ¬ (0 ≤ s ∧ s < u.1 14)) : Cn yX6_touch (wsy yX6_touch cX6_touch 5 (some .int)) 10 1 6 nn [vR (some 1000), vI s, vI p] (mk u v g) (.inr ("java/lang/IndexOutOfBoundsException", mk u v g)) := by
  refine con_j (lv := [(0, vR (some 1000)), (1, vI s), (2, vI p)]) (by decide) (fun ad => Nat.le_of_ble_eq_true rfl) (fun ad => rfl) rfl ?_
  intro k C hr hlv hmc hms hPo hPx htab
  refine ev_s C dX6_touch_0 (q := 1) rfl rfl ?_
  refine ev_s C dX6_touch_1 (q := 2) rfl rfl ?_
  refine ev_s C dX6_touch_2 (q := 3) rfl rfl ?_
  refine ev_cVx C dX6_touch_3 (q := 6) rfl km_X6_108 kv_X6_pageAt kc_X6_pageAt (c_X6_pageAt_x1 I hs h) rfl rfl vcX6 rfl (by rw [hlv]; first | decide | omega) (by decide) (Nat.le_of_ble_eq_true rfl) (by first | exact Nat.zero_le _ | (rw [hmc]; decide) | (rw [hmc]; omega)) (by first | exact Nat.zero_le _ | (rw [hms]; decide) | (rw [hms]; omega)) (fun E G1 h => by cases h; exact ex_out C htab (by first | exact Nat.zero_le _ | (rw [hmc]; decide) | (rw [hmc]; omega)) (by first | exact Nat.zero_le _ | (rw [hms]; decide) | (rw [hms]; omega)) (px_1 hPx rfl rfl)) (fun a G1 h => nomatch h)
set_option maxHeartbeats 4000000 in
set_option maxRecDepth 100000 in
theorem c_X6_touch_x2 {u v : SS} {g : GH} (I : CI u) {s : Nat} (hs : (s : Int) < u.1 14) {p : Int} (hp : rg p) (h : ¬ (0 ≤ p ∧ p < 8)) : Cn yX6_touch (wsy yX6_touch cX6_touch 5 (some .int)) 10 1 6 nn [vR (some 1000), vI (s : Int), vI p] (mk u v g) (.inr ("java/lang/IndexOutOfBoundsException", mk u v g)) := by
  refine con_j (lv := [(0, vR (some 1000)), (1, vI (s : Int)), (2, vI p)]) (by decide) (fun ad => Nat.le_of_ble_eq_true rfl) (fun ad => rfl) rfl ?_
  intro k C hr hlv hmc hms hPo hPx htab
  refine ev_s C dX6_touch_0 (q := 1) rfl rfl ?_
  refine ev_s C dX6_touch_1 (q := 2) rfl rfl ?_
  refine ev_s C dX6_touch_2 (q := 3) rfl rfl ?_
  refine ev_cVx C dX6_touch_3 (q := 6) rfl km_X6_108 kv_X6_pageAt kc_X6_pageAt (c_X6_pageAt_x2 I hs hp h) rfl rfl vcX6 rfl (by rw [hlv]; first | decide | omega) (by decide) (Nat.le_of_ble_eq_true rfl) (by first | exact Nat.zero_le _ | (rw [hmc]; decide) | (rw [hmc]; omega)) (by first | exact Nat.zero_le _ | (rw [hms]; decide) | (rw [hms]; omega)) (fun E G1 h => by cases h; exact ex_out C htab (by first | exact Nat.zero_le _ | (rw [hmc]; decide) | (rw [hmc]; omega)) (by first | exact Nat.zero_le _ | (rw [hms]; decide) | (rw [hms]; omega)) (px_1 hPx rfl rfl)) (fun a G1 h => nomatch h)
set_option maxHeartbeats 4000000 in
set_option maxRecDepth 100000 in
theorem c_X6_touch_x3 {u v : SS} {g : GH} (I : CI u) {s : Nat} (hs : (s : Int) < u.1 14) {p : Nat} (hp : p < 8) (h : irB u s = false) : Cn yX6_touch (wsy yX6_touch cX6_touch 5 (some .int)) 10 1 6 nn [vR (some 1000), vI (s : Int), vI (p : Int)] (mk u v g) (.inr ("java/lang/IllegalStateException", mk u v g)) := by
  refine con_j (lv := [(0, vR (some 1000)), (1, vI (s : Int)), (2, vI (p : Int))]) (by decide) (fun ad => Nat.le_of_ble_eq_true rfl) (fun ad => rfl) rfl ?_
  intro k C hr hlv hmc hms hPo hPx htab
  refine ev_s C dX6_touch_0 (q := 1) rfl rfl ?_
  refine ev_s C dX6_touch_1 (q := 2) rfl rfl ?_
  refine ev_s C dX6_touch_2 (q := 3) rfl rfl ?_
  refine ev_cV C dX6_touch_3 (q := 6) rfl km_X6_108 kv_X6_pageAt kc_X6_pageAt (c_X6_pageAt I hs hp) rfl rfl vcX6 rfl (by rw [hlv]; first | decide | omega) (by decide) (Nat.le_of_ble_eq_true rfl) (by first | exact Nat.zero_le _ | (rw [hmc]; decide) | (rw [hmc]; omega)) (by first | exact Nat.zero_le _ | (rw [hms]; decide) | (rw [hms]; omega)) ?_
  refine ev_s C dX6_touch_6 (q := 7) rfl rfl ?_
  refine ev_s C dX6_touch_7 (q := 8) rfl rfl ?_
  refine ev_s C dX6_touch_8 (q := 9) rfl rfl ?_
  refine ev_cV C dX6_touch_9 (q := 12) rfl km_X6_142 kv_X6_isRunning kc_X6_isRunning (c_X6_isRunning I hs) rfl rfl vcX6 rfl (by rw [hlv]; first | decide | omega) (by decide) (Nat.le_of_ble_eq_true rfl) (by first | exact Nat.zero_le _ | (rw [hmc]; decide) | (rw [hmc]; omega)) (by first | exact Nat.zero_le _ | (rw [hms]; decide) | (rw [hms]; omega)) ?_
  refine ev_ifB_ne C dX6_touch_12 (tgt := 25) (q := 15) (by decide) rfl (fun b0 => ?_) (fun b0 => ?_)
  · exact absurd (h.symm.trans b0) (by decide)
  · exact ev_throw C htab kt_63_67 (text := "the service does not run") (by decide) dX6_touch_15 dX6_touch_18 dX6_touch_19 dX6_touch_21 dX6_touch_24 (Nat.le_of_ble_eq_true rfl) (by rw [hmc]; decide) (by rw [hms]; decide) (px_1 hPx rfl rfl)
set_option maxHeartbeats 4000000 in
set_option maxRecDepth 100000 in
theorem c_X6_touch {u v : SS} {g : GH} (I : CI u) {s : Nat} (hs : (s : Int) < u.1 14) {p : Nat} (hp : p < 8) (h : irB u s = true) (hg : NR g) (hh : u.1 8 < u.1 7) (hb : cBT u) (h47 : (detM u (8 * s + p)).1 11 ≤ 47) : Cn yX6_touch (wsy yX6_touch cX6_touch 5 (some .int)) 10 1 73 nwG [vR (some 1000), vI (s : Int), vI (p : Int)] (mk u v g) (.inl (some (vI (toR u (8 * s + p))), mk (tcM u s p) v g)) := by
  refine con_k2 (lv := [(0, vR (some 1000)), (1, vI (s : Int)), (2, vI (p : Int))]) (by decide) (by unfold nwG; decide) (fun ad => Nat.le_of_ble_eq_true rfl) (fun ad => rfl) rfl ?_
  intro k C hr hkG hlv hmc hms hw hPo hPx htab
  have i14 := I.s14
  have hP : ((8 * s + p : Nat) : Int) < 8 * u.1 14 := by omega
  have ic := I.a23 (8 * s + p)
  have hb1 := to1_BT (p := 8 * s + p) hb
  have hI1 := to1_I I hP hh h47
  have hr1 := toR_b (p := 8 * s + p) I hh
  have e14 : (to1 u (8 * s + p)).1 14 = u.1 14 := to1_S (by decide) (by decide) (by decide) (by decide) (by decide)
  refine ev_s C dX6_touch_0 (q := 1) rfl rfl ?_
  refine ev_s C dX6_touch_1 (q := 2) rfl rfl ?_
  refine ev_s C dX6_touch_2 (q := 3) rfl rfl ?_
  refine ev_cV C dX6_touch_3 (q := 6) rfl km_X6_108 kv_X6_pageAt kc_X6_pageAt (c_X6_pageAt I hs hp) rfl rfl vcX6 rfl (by rw [hlv]; first | decide | omega) (by decide) (Nat.le_of_ble_eq_true rfl) (by first | exact Nat.zero_le _ | (rw [hmc]; decide) | (rw [hmc]; omega)) (by first | exact Nat.zero_le _ | (rw [hms]; decide) | (rw [hms]; omega)) ?_
  refine ev_s C dX6_touch_6 (q := 7) rfl rfl ?_
  refine ev_s C dX6_touch_7 (q := 8) rfl rfl ?_
  refine ev_s C dX6_touch_8 (q := 9) rfl rfl ?_
  refine ev_cV C dX6_touch_9 (q := 12) rfl km_X6_142 kv_X6_isRunning kc_X6_isRunning (c_X6_isRunning I hs) rfl rfl vcX6 rfl (by rw [hlv]; first | decide | omega) (by decide) (Nat.le_of_ble_eq_true rfl) (by first | exact Nat.zero_le _ | (rw [hmc]; decide) | (rw [hmc]; omega)) (by first | exact Nat.zero_le _ | (rw [hms]; decide) | (rw [hms]; omega)) ?_
  refine ev_ifB_ne C dX6_touch_12 (tgt := 25) (q := 15) (by decide) rfl (fun b0 => ?_) (fun b0 => ?_)
  · refine ev_s C dX6_touch_25 (q := 26) rfl rfl ?_
    refine ev_s C dX6_touch_26 (q := 28) rfl rfl ?_
    refine ev_s C dX6_touch_28 (q := 29) rfl rfl ?_
    refine cgp_3 C dX6_touch_29 kf_X6_112 (q := 32) rfl (by show (_ : Int) < 8 * u.1 14; omega) ?_
    refine ev_s C dX6_touch_32 (q := 34) rfl rfl ?_
    refine ev_icmp_ne C dX6_touch_34 (tgt := 45) (q := 37) (by decide) rfl (by first | decide | (unfold rg; omega) | assumption | exact bAnd_rg _ _) (by first | decide | (unfold rg; omega) | assumption | exact bAnd_rg _ _) (fun b1 => ?_) (fun b1 => ?_)
    · have b9 : u.2 23 (8 * s + p) ≠ 102 := b1
      refine ev_s C dX6_touch_45 (q := 46) rfl rfl ?_
      refine ev_s C dX6_touch_46 (q := 47) rfl rfl ?_
      refine ev_cVn C dX6_touch_47 (q := 50) rfl km_X6_152 kv_X6_bringIntoFrame kc_X6_bringIntoFrame (c_X6_bringIntoFrame I (p := 8 * s + p) hP hg hh b9 h47) rfl rfl vcX6 rfl (by rw [hlv]; first | decide | omega) (by decide) (Nat.le_of_ble_eq_true rfl) (by first | exact Nat.zero_le _ | (rw [hmc]; decide) | (rw [hmc]; omega)) (by first | exact Nat.zero_le _ | (rw [hms]; decide) | (rw [hms]; omega)) (by rw [hw]; exact fun _ h => h) (by repeat' (first | exact nvA_0 | exact nvB_0 | apply nvA_c | apply nvB_c | exact nv_I | exact nv_L | exact nv_N | exact nv_R (by unfold nwG; omega) | exact nv_I' | exact nv_L' | exact nv_N' | exact nv_R' (by unfold nwG; omega))) (by repeat' (first | exact nvA_0 | exact nvB_0 | apply nvA_c | apply nvB_c | exact nv_I | exact nv_L | exact nv_N | exact nv_R (by unfold nwG; omega) | exact nv_I' | exact nv_L' | exact nv_N' | exact nv_R' (by unfold nwG; omega))) ?_
      refine ev_s C dX6_touch_50 (q := 52) rfl rfl ?_
      refine ev_eq (G := mk (to1 u (8 * s + p)) v g) (by unfold to1; first | (rw [if_pos b9]; done) | (rw [if_neg b9]; done)) ?_
      refine ev_eqL (lv := [(0, vR (some 1000)), (1, vI (s : Int)), (2, vI (p : Int)), (3, vR (some (3000 + (8 * s + p)))), (4, vI (toR u (8 * s + p)))]) (by unfold toR; first | (rw [if_pos b9]; rfl) | (rw [if_neg b9]; rfl)) ?_
      refine ev_s C dX6_touch_52 (q := 53) rfl rfl ?_
      refine ev_s C dX6_touch_53 (q := 54) rfl rfl ?_
      refine ev_s C dX6_touch_54 (q := 55) rfl rfl ?_
      refine ev_cV C dX6_touch_55 (q := 58) rfl km_X6_77 kv_X6_serviceAt kc_X6_serviceAt (c_X6_serviceAt hI1 (s := s) (by omega)) rfl rfl vcX6 rfl (by rw [hlv]; first | decide | omega) (by decide) (Nat.le_of_ble_eq_true rfl) (by first | exact Nat.zero_le _ | (rw [hmc]; decide) | (rw [hmc]; omega)) (by first | exact Nat.zero_le _ | (rw [hms]; decide) | (rw [hms]; omega)) ?_
      refine ev_s C dX6_touch_58 (q := 60) rfl rfl ?_
      refine ev_cV C dX6_touch_60 (q := 63) rfl km_X6_155 kv_X6_countTouch kc_X6_countTouch (c_X6_countTouch hI1 (s := s) (by omega) hb1 (by omega)) rfl rfl vcX6 rfl (by rw [hlv]; first | decide | omega) (by decide) (Nat.le_of_ble_eq_true rfl) (by first | exact Nat.zero_le _ | (rw [hmc]; decide) | (rw [hmc]; omega)) (by first | exact Nat.zero_le _ | (rw [hms]; decide) | (rw [hms]; omega)) ?_
      refine ev_s C dX6_touch_63 (q := 65) rfl rfl ?_
      exact ev_iret C hr dX6_touch_65 (by rw [hmc]; decide) (by rw [hms]; omega) (po_1 hPo rfl rfl)
    · have b9 : u.2 23 (8 * s + p) = 102 := b1
      refine ev_s C dX6_touch_37 (q := 38) rfl rfl ?_
      refine ev_s C dX6_touch_38 (q := 39) rfl rfl ?_
      refine cpp_5 C dX6_touch_39 kf_X6_148 (q := 42) rfl (fit_Z (by first | decide | exact bI_01 _ | assumption)) (by show (_ : Int) < 8 * u.1 14; omega) ?_
      refine ev_goto C dX6_touch_42 (tgt := 52) (by decide) ?_
      refine ev_eq (G := mk (to1 u (8 * s + p)) v g) (by unfold to1; first | (rw [if_pos b9]; done) | (rw [if_neg b9]; done)) ?_
      refine ev_eqL (lv := [(0, vR (some 1000)), (1, vI (s : Int)), (2, vI (p : Int)), (3, vR (some (3000 + (8 * s + p)))), (4, vI (toR u (8 * s + p)))]) (by unfold toR; first | (rw [if_pos b9]; rfl) | (rw [if_neg b9]; rfl)) ?_
      refine ev_s C dX6_touch_52 (q := 53) rfl rfl ?_
      refine ev_s C dX6_touch_53 (q := 54) rfl rfl ?_
      refine ev_s C dX6_touch_54 (q := 55) rfl rfl ?_
      refine ev_cV C dX6_touch_55 (q := 58) rfl km_X6_77 kv_X6_serviceAt kc_X6_serviceAt (c_X6_serviceAt hI1 (s := s) (by omega)) rfl rfl vcX6 rfl (by rw [hlv]; first | decide | omega) (by decide) (Nat.le_of_ble_eq_true rfl) (by first | exact Nat.zero_le _ | (rw [hmc]; decide) | (rw [hmc]; omega)) (by first | exact Nat.zero_le _ | (rw [hms]; decide) | (rw [hms]; omega)) ?_
      refine ev_s C dX6_touch_58 (q := 60) rfl rfl ?_
      refine ev_cV C dX6_touch_60 (q := 63) rfl km_X6_155 kv_X6_countTouch kc_X6_countTouch (c_X6_countTouch hI1 (s := s) (by omega) hb1 (by omega)) rfl rfl vcX6 rfl (by rw [hlv]; first | decide | omega) (by decide) (Nat.le_of_ble_eq_true rfl) (by first | exact Nat.zero_le _ | (rw [hmc]; decide) | (rw [hmc]; omega)) (by first | exact Nat.zero_le _ | (rw [hms]; decide) | (rw [hms]; omega)) ?_
      refine ev_s C dX6_touch_63 (q := 65) rfl rfl ?_
      exact ev_iret C hr dX6_touch_65 (by rw [hmc]; decide) (by rw [hms]; omega) (po_1 hPo rfl rfl)
  · exact absurd (h.symm.trans b0) (by decide)
