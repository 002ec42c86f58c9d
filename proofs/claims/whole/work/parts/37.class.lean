/-! THE CLASS: pages, history, frames, stalls -/
def evc (p c : Int) : Int := bOr (bShl p 8) c
theorem evc_d : ∀ p : Fin 48, ∀ c ∈ ([45, 100, 102, 115] : List Int), evc (p.val : Int) c = 256 * (p.val : Int) + c ∧ bShr (evc (p.val : Int) c) 8 = (p.val : Int) ∧ bAnd (evc (p.val : Int) c) 255 = c := by decide +kernel
def plC (c : Int) : Prop := c = 45 ∨ c = 100 ∨ c = 102 ∨ c = 115
theorem evc_b {p : Nat} {c : Int} (hp : p < 48) (hc : plC c) : evc (p : Int) c = 256 * (p : Int) + c ∧ bShr (evc (p : Int) c) 8 = (p : Int) ∧ bAnd (evc (p : Int) c) 255 = c := by
  refine evc_d ⟨p, hp⟩ c ?_
  rcases hc with rfl | rfl | rfl | rfl <;> decide
def recM (u : SS) (p c : Int) : SS := if u.1 6 < 2048 then stS (stA u 0 (u.1 6).toNat (evc p c)) 6 (u.1 6 + 1) else u
def mvM (u : SS) (p : Nat) (c : Int) : SS := recM (stA (stA (stA u 23 p c) 24 p (-1)) 25 p 0) p c
def mfM (u : SS) (p : Nat) (f : Int) : SS := stA (stA (mvM u p 102) 24 p f) 25 p 1
theorem recM_S {u : SS} {p c : Int} {s : Nat} (h : s ≠ 6) : (recM u p c).1 s = u.1 s := by
  unfold recM
  split
  · rw [stS_1, if_neg h]; rfl
  · rfl
theorem recM_A {u : SS} {p c : Int} {a j : Nat} (h : a ≠ 0) : (recM u p c).2 a j = u.2 a j := by
  unfold recM
  split
  · show (stA u 0 _ _).2 a j = _; rw [stA_2, if_neg h]
  · rfl
theorem mvM_S {u : SS} {p : Nat} {c : Int} {s : Nat} (h : s ≠ 6) : (mvM u p c).1 s = u.1 s := by unfold mvM; rw [recM_S h]; rfl
theorem mvM_A {u : SS} {p : Nat} {c : Int} {a j : Nat} (h0 : a ≠ 0) (h1 : a ≠ 23) (h2 : a ≠ 24) (h3 : a ≠ 25) : (mvM u p c).2 a j = u.2 a j := by
  unfold mvM
  rw [recM_A h0, stA_2, if_neg h3, stA_2, if_neg h2, stA_2, if_neg h1]
theorem mfM_S {u : SS} {p : Nat} {c : Int} {s : Nat} (h : s ≠ 6) : (mfM u p c).1 s = u.1 s := mvM_S h
theorem mfM_A {u : SS} {p : Nat} {c : Int} {a j : Nat} (h0 : a ≠ 0) (h1 : a ≠ 23) (h2 : a ≠ 24) (h3 : a ≠ 25) : (mfM u p c).2 a j = u.2 a j := by
  unfold mfM
  rw [stA_2, if_neg h3, stA_2, if_neg h2, mvM_A h0 h1 h2 h3]
theorem plC_b {c : Int} (h : plC c) : 45 ≤ c ∧ c ≤ 115 := by
  rcases h with rfl | rfl | rfl | rfl <;> decide
theorem CI_rec {u : SS} {p : Nat} {c : Int} (I : CI u) (hp : p < 48) (hc : plC c) : CI (recM u p c) := by
  have i6 := I.s6
  have hb := plC_b hc
  have he := (evc_b hp hc).1
  unfold recM
  split
  · exact CI_S (CI_A I (by show 0 ≤ evc p c ∧ evc p c ≤ 12287; omega) (by decide) (by decide)) (Or.inr (Or.inr (by show 0 ≤ u.1 6 + 1 ∧ u.1 6 + 1 ≤ 2048; omega))) (by decide) (by decide) (by decide) (by decide)
  · exact I
theorem CI_mv {u : SS} {p : Nat} {c : Int} (I : CI u) (hp : p < 48) (hc : plC c) : CI (mvM u p c) := by
  have hb := plC_b hc
  exact CI_rec (CI_A (CI_A (CI_A I (by show 0 ≤ c ∧ c ≤ 65535; omega) (by decide) (by decide)) (by decide) (by decide) (by decide)) (by decide) (by decide) (by decide)) hp hc
theorem CI_mf {u : SS} {p : Nat} {f : Int} (I : CI u) (hp : p < 48) (hf : 0 ≤ f ∧ f ≤ 15) : CI (mfM u p f) :=
  CI_A (CI_A (CI_mv I hp (Or.inr (Or.inr (Or.inl rfl)))) (by show -1 ≤ f ∧ f ≤ 15; omega) (by decide) (by decide)) (by decide) (by decide) (by decide)
set_option maxHeartbeats 4000000 in
set_option maxRecDepth 100000 in
theorem c_X1_record {u v : SS} {g : GH} (I : CI u) {p c : Int} : Cn yX1_record (wsy yX1_record cX1_record 3 none) 0 0 0 nn [vR (some 1001), vI p, vI c] (mk u v g) (.inl (none, mk (recM u p c) v g)) := by
  refine con_j (lv := [(0, vR (some 1001)), (1, vI p), (2, vI c)]) (by decide) (fun ad => Nat.le_of_ble_eq_true rfl) (fun ad => rfl) rfl ?_
  intro k C hr hlv hmc hms hPo hPx htab
  have i6 := I.s6
  refine ev_s C dX1_record_0 (q := 1) rfl rfl ?_
  refine cg_1001_1 C dX1_record_1 kf_X1_19 (q := 4) rfl ?_
  refine ev_s C dX1_record_4 (q := 5) rfl rfl ?_
  refine cg_1001_0 C dX1_record_5 kf_X1_9 (q := 8) rfl ?_
  refine cn_1002 C dX1_record_8 (q := 9) rfl ?_
  refine ev_icmp_ge C dX1_record_9 (tgt := 37) (q := 12) (by decide) rfl (by first | decide | (unfold rg; omega) | assumption | exact bAnd_rg _ _) (by first | decide | (unfold rg; omega) | assumption | exact bAnd_rg _ _) (fun b0 => ?_) (fun b0 => ?_)
  · exact ev_vret C hr dX1_record_37 (Nat.zero_le _) (Nat.zero_le _) (po_0 hPo (by unfold recM; first | (rw [if_pos (by omega)]; rfl) | (rw [if_neg (by omega)])))
  · refine ev_s C dX1_record_12 (q := 13) rfl rfl ?_
    refine cg_1001_0 C dX1_record_13 kf_X1_9 (q := 16) rfl ?_
    refine ev_s C dX1_record_16 (q := 17) rfl rfl ?_
    refine cg_1001_1 C dX1_record_17 kf_X1_19 (q := 20) rfl ?_
    refine ev_s C dX1_record_20 (q := 21) rfl rfl ?_
    refine ev_s C dX1_record_21 (q := 23) rfl rfl ?_
    refine ev_s C dX1_record_23 (q := 24) rfl rfl ?_
    refine ev_s C dX1_record_24 (q := 25) rfl rfl ?_
    refine ev_s C dX1_record_25 (q := 26) rfl rfl ?_
    refine cs_1002 C dX1_record_26 (q := 27) rfl (by omega) ?_
    refine ev_s C dX1_record_27 (q := 28) rfl rfl ?_
    refine ev_s C dX1_record_28 (q := 29) rfl rfl ?_
    refine cg_1001_1 C dX1_record_29 kf_X1_19 (q := 32) rfl ?_
    refine ev_s C dX1_record_32 (q := 33) rfl rfl ?_
    refine ev_s C dX1_record_33 (q := 34) rfl rfl ?_
    refine cp_1001_1 C dX1_record_34 kf_X1_19 (q := 37) rfl (fit_I _) ?_
    exact ev_vret C hr dX1_record_37 (Nat.zero_le _) (Nat.zero_le _) (po_0 hPo (by unfold recM; first | (rw [if_pos (by omega)]; rfl) | (rw [if_neg (by omega)])))
set_option maxHeartbeats 4000000 in
set_option maxRecDepth 100000 in
theorem c_X2_moveTo {u v : SS} {g : GH} (I : CI u) {p : Nat} (hp : (p : Int) < 8 * u.1 14) {c : Int} (hc : 0 ≤ c ∧ c < 65536) : Cn yX2_moveTo (wsy yX2_moveTo cX2_moveTo 2 none) 1 0 0 nn [vR (some (3000 + p)), vI c] (mk u v g) (.inl (none, mk (mvM u p c) v g)) := by
  refine con_j (lv := [(0, vR (some (3000 + p))), (1, vI c)]) (by decide) (fun ad => Nat.le_of_ble_eq_true rfl) (fun ad => rfl) rfl ?_
  intro k C hr hlv hmc hms hPo hPx htab
  refine ev_s C dX2_moveTo_0 (q := 1) rfl rfl ?_
  refine ev_s C dX2_moveTo_1 (q := 2) rfl rfl ?_
  refine cpp_3 C dX2_moveTo_2 kf_X2_15 (q := 5) rfl (fit_C (by first | decide | omega | assumption)) (by show (_ : Int) < 8 * u.1 14; omega) ?_
  refine ev_s C dX2_moveTo_5 (q := 6) rfl rfl ?_
  refine ev_s C dX2_moveTo_6 (q := 7) rfl rfl ?_
  refine cpp_4 C dX2_moveTo_7 kf_X2_19 (q := 10) rfl (fit_I _) (by show (_ : Int) < 8 * u.1 14; omega) ?_
  refine ev_s C dX2_moveTo_10 (q := 11) rfl rfl ?_
  refine ev_s C dX2_moveTo_11 (q := 12) rfl rfl ?_
  refine cpp_5 C dX2_moveTo_12 kf_X2_33 (q := 15) rfl (fit_Z (by first | decide | exact bI_01 _ | assumption)) (by show (_ : Int) < 8 * u.1 14; omega) ?_
  refine ev_s C dX2_moveTo_15 (q := 16) rfl rfl ?_
  refine cgp_1 C dX2_moveTo_16 kf_X2_25 (q := 19) rfl (by show (_ : Int) < 8 * u.1 14; omega) ?_
  refine ev_s C dX2_moveTo_19 (q := 20) rfl rfl ?_
  refine cgp_0 C dX2_moveTo_20 kf_X2_22 (q := 23) rfl (by show (_ : Int) < 8 * u.1 14; omega) ?_
  refine ev_s C dX2_moveTo_23 (q := 24) rfl rfl ?_
  refine ev_cV C dX2_moveTo_24 (q := 27) rfl km_X2_37 kv_X1_record kc_X1_record (c_X1_record ((CI_A (CI_A (CI_A I (by show 0 ≤ c ∧ c ≤ 65535; omega) (by decide) (by decide)) (by decide) (by decide) (by decide)) (by decide) (by decide) (by decide)))) rfl rfl vcX1 rfl (by rw [hlv]; first | decide | omega) (by decide) (Nat.le_of_ble_eq_true rfl) (by first | exact Nat.zero_le _ | (rw [hmc]; decide) | (rw [hmc]; omega)) (by first | exact Nat.zero_le _ | (rw [hms]; decide) | (rw [hms]; omega)) ?_
  exact ev_vret C hr dX2_moveTo_27 (Nat.zero_le _) (Nat.zero_le _) (po_0 hPo rfl)
set_option maxHeartbeats 4000000 in
set_option maxRecDepth 100000 in
theorem c_X2_moveIntoFrame {u v : SS} {g : GH} (I : CI u) {p : Nat} (hp : (p : Int) < 8 * u.1 14) (h48 : p < 48) {f : Int} : Cn yX2_moveIntoFrame (wsy yX2_moveIntoFrame cX2_moveIntoFrame 2 none) 2 0 0 nn [vR (some (3000 + p)), vI f] (mk u v g) (.inl (none, mk (mfM u p f) v g)) := by
  refine con_j (lv := [(0, vR (some (3000 + p))), (1, vI f)]) (by decide) (fun ad => Nat.le_of_ble_eq_true rfl) (fun ad => rfl) rfl ?_
  intro k C hr hlv hmc hms hPo hPx htab
  refine ev_s C dX2_moveIntoFrame_0 (q := 1) rfl rfl ?_
  refine ev_s C dX2_moveIntoFrame_1 (q := 3) rfl rfl ?_
  refine ev_cV C dX2_moveIntoFrame_3 (q := 6) rfl km_X2_29 kv_X2_moveTo kc_X2_moveTo (c_X2_moveTo I hp (by decide)) rfl rfl vcX2 (gp_ (by first | exact hp | (show (p : Int) < 8 * (mvM u p 102).1 14; omega))) (by rw [hlv]; first | decide | omega) (by decide) (Nat.le_of_ble_eq_true rfl) (by first | exact Nat.zero_le _ | (rw [hmc]; decide) | (rw [hmc]; omega)) (by first | exact Nat.zero_le _ | (rw [hms]; decide) | (rw [hms]; omega)) ?_
  have e14 : (mvM u p 102).1 14 = u.1 14 := mvM_S (by decide)
  refine ev_s C dX2_moveIntoFrame_6 (q := 7) rfl rfl ?_
  refine ev_s C dX2_moveIntoFrame_7 (q := 8) rfl rfl ?_
  refine cpp_4 C dX2_moveIntoFrame_8 kf_X2_19 (q := 11) rfl (fit_I _) (by first | exact hp | (show (p : Int) < 8 * (mvM u p 102).1 14; omega)) ?_
  refine ev_s C dX2_moveIntoFrame_11 (q := 12) rfl rfl ?_
  refine ev_s C dX2_moveIntoFrame_12 (q := 13) rfl rfl ?_
  refine cpp_5 C dX2_moveIntoFrame_13 kf_X2_33 (q := 16) rfl (fit_Z (by first | decide | exact bI_01 _ | assumption)) (by first | exact hp | (show (p : Int) < 8 * (mvM u p 102).1 14; omega)) ?_
  exact ev_vret C hr dX2_moveIntoFrame_16 (Nat.zero_le _) (Nat.zero_le _) (po_0 hPo rfl)
def clF (u : SS) (f : Nat) : Bool := decide (u.2 2 f < 0)
def clI (u : SS) (f : Nat) : Int := bI (clF u f)
theorem clI_bd (u : SS) (n : Nat) : 0 ≤ sumN n (clI u) ∧ sumN n (clI u) ≤ n := by
  have := sumN_bd (N := n) (p := clI u) (a := 0) (b := 1) (fun z _ => by have := bI_01 (clF u z); unfold clI; omega)
  omega
set_option maxHeartbeats 4000000 in
set_option maxRecDepth 100000 in
theorem l_X0_lowestFree {k : Kx} (C : CX k RX0 cX0_lowestFree 2) {u v : SS} {g : GH} (I : CI u) {N : Nat} (hN : u.1 7 = (N : Int)) (hr : (kmeth k).sig.returnType = some .int) (hPo : kPo k = PoR (.inl (some (vI (fnd (clF u) N)), mk u v g))) : ∀ (m z : Nat), z ≤ N → N < z + m → (∀ j, j < z → clF u j = false) → EV k 2 [(0, vR (some 1004)), (1, vI (z : Int))] [] (mk u v g) 0 0 := by
  intro m
  induction m with
  | zero =>
    intros
    exfalso
    omega
  | succ m ih =>
    intro z h1 h2 h3
    have i7 := I.s7
    refine ev_s C dX0_lowestFree_2 (q := 3) rfl rfl ?_
    refine ev_s C dX0_lowestFree_3 (q := 4) rfl rfl ?_
    refine cg_1004_0 C dX0_lowestFree_4 kf_X0_11 (q := 7) rfl ?_
    refine cn_1005 C dX0_lowestFree_7 (q := 8) rfl ?_
    refine ev_icmp_ge C dX0_lowestFree_8 (tgt := 36) (q := 11) (by decide) rfl (by first | decide | (unfold rg; omega) | assumption | exact bAnd_rg _ _) (by first | decide | (unfold rg; omega) | assumption | exact bAnd_rg _ _) (fun b0 => ?_) (fun b0 => ?_)
    · refine ev_s C dX0_lowestFree_36 (q := 37) rfl rfl ?_
      exact ev_iret C hr dX0_lowestFree_37 (Nat.zero_le _) (Nat.zero_le _) (po_1 hPo (by (obtain rfl : z = N := (by omega)); rw [fnd_none h3]) rfl)
    · refine ev_s C dX0_lowestFree_11 (q := 12) rfl rfl ?_
      refine ev_s C dX0_lowestFree_12 (q := 13) rfl rfl ?_
      refine cg_1004_1 C dX0_lowestFree_13 kf_X0_17 (q := 16) rfl ?_
      refine ev_icmp_ge C dX0_lowestFree_16 (tgt := 36) (q := 19) (by decide) rfl (by first | decide | (unfold rg; omega) | assumption | exact bAnd_rg _ _) (by first | decide | (unfold rg; omega) | assumption | exact bAnd_rg _ _) (fun b1 => ?_) (fun b1 => ?_)
      · refine ev_s C dX0_lowestFree_36 (q := 37) rfl rfl ?_
        exact ev_iret C hr dX0_lowestFree_37 (Nat.zero_le _) (Nat.zero_le _) (po_1 hPo (by (obtain rfl : z = N := (by omega)); rw [fnd_none h3]) rfl)
      · refine ev_s C dX0_lowestFree_19 (q := 20) rfl rfl ?_
        refine cg_1004_0 C dX0_lowestFree_20 kf_X0_11 (q := 23) rfl ?_
        refine ev_s C dX0_lowestFree_23 (q := 24) rfl rfl ?_
        refine cl_1005 C dX0_lowestFree_24 (q := 25) rfl (by omega) ?_
        refine ev_ifnonnull C dX0_lowestFree_25 (tgt := 30) (q := 28) (by decide) rfl (fun b2 => ?_) (fun b2 => ?_)
        · obtain ⟨n9, hn9⟩ := b2
          have h9 := (pgo_s hn9).1
          have h9 : 0 ≤ u.2 2 z := h9
          refine ev_s C dX0_lowestFree_30 (q := 33) rfl rfl ?_
          refine ev_goto C dX0_lowestFree_33 (tgt := 2) (by decide) ?_
          exact ih (z + 1) (by omega) (by omega) (fun j hj => by
            by_cases e : j = z
            · subst e; unfold clF; simp; omega
            · exact h3 j (by omega))
        · have h9 := pgo_n b2
          have h9 : u.2 2 z < 0 := h9
          refine ev_s C dX0_lowestFree_28 (q := 29) rfl rfl ?_
          exact ev_iret C hr dX0_lowestFree_29 (Nat.zero_le _) (Nat.zero_le _) (po_1 hPo (by rw [fnd_hit (z := z) h3 (by unfold clF; simp; omega) (by omega)]) rfl)
set_option maxHeartbeats 4000000 in
set_option maxRecDepth 100000 in
theorem c_X0_lowestFree {u v : SS} {g : GH} (I : CI u) : Cn yX0_lowestFree (wsy yX0_lowestFree cX0_lowestFree 2 (some .int)) 0 0 0 nn [vR (some 1004)] (mk u v g) (.inl (some (vI (fnd (clF u) (u.1 7).toNat)), mk u v g)) := by
  refine con_j (lv := [(0, vR (some 1004))]) (by decide) (fun ad => Nat.le_of_ble_eq_true rfl) (fun ad => rfl) rfl ?_
  intro k C hr hlv hmc hms hPo hPx htab
  refine ev_s C dX0_lowestFree_0 (q := 1) rfl rfl ?_
  refine ev_s C dX0_lowestFree_1 (q := 2) rfl rfl ?_
  have i7 := I.s7
  exact l_X0_lowestFree C I (N := (u.1 7).toNat) (by omega) hr hPo ((u.1 7).toNat + 1) 0 (Nat.zero_le _) (by omega) (fun j hj => absurd hj (Nat.not_lt_zero _))
set_option maxHeartbeats 4000000 in
set_option maxRecDepth 100000 in
theorem l_X0_countFree {k : Kx} (C : CX k RX0 cX0_countFree 3) {u v : SS} {g : GH} (I : CI u) {N : Nat} (hN : u.1 7 = (N : Int)) (hr : (kmeth k).sig.returnType = some .int) (hPo : kPo k = PoR (.inl (some (vI (sumN N (clI u))), mk u v g))) : ∀ (m z : Nat) (a iz : Int), iz = z → a = sumN z (clI u) → z ≤ N → N < z + m → EV k 4 [(0, vR (some 1004)), (1, vI a), (2, vI iz)] [] (mk u v g) 0 0 := by
  intro m
  induction m with
  | zero =>
    intros
    exfalso
    omega
  | succ m ih =>
    intro z a iz e0 ea h1 h2
    have i7 := I.s7
    have hsum := clI_bd u z
    subst e0
    refine ev_s C dX0_countFree_4 (q := 5) rfl rfl ?_
    refine ev_s C dX0_countFree_5 (q := 6) rfl rfl ?_
    refine cg_1004_0 C dX0_countFree_6 kf_X0_11 (q := 9) rfl ?_
    refine cn_1005 C dX0_countFree_9 (q := 10) rfl ?_
    refine ev_icmp_ge C dX0_countFree_10 (tgt := 39) (q := 13) (by decide) rfl (by first | decide | (unfold rg; omega) | assumption | exact bAnd_rg _ _) (by first | decide | (unfold rg; omega) | assumption | exact bAnd_rg _ _) (fun b0 => ?_) (fun b0 => ?_)
    · refine ev_s C dX0_countFree_39 (q := 40) rfl rfl ?_
      exact ev_iret C hr dX0_countFree_40 (Nat.zero_le _) (Nat.zero_le _) (po_1 hPo (by (obtain rfl : z = N := (by omega)); rw [ea]) rfl)
    · refine ev_s C dX0_countFree_13 (q := 14) rfl rfl ?_
      refine ev_s C dX0_countFree_14 (q := 15) rfl rfl ?_
      refine cg_1004_1 C dX0_countFree_15 kf_X0_17 (q := 18) rfl ?_
      refine ev_icmp_ge C dX0_countFree_18 (tgt := 39) (q := 21) (by decide) rfl (by first | decide | (unfold rg; omega) | assumption | exact bAnd_rg _ _) (by first | decide | (unfold rg; omega) | assumption | exact bAnd_rg _ _) (fun b1 => ?_) (fun b1 => ?_)
      · refine ev_s C dX0_countFree_39 (q := 40) rfl rfl ?_
        exact ev_iret C hr dX0_countFree_40 (Nat.zero_le _) (Nat.zero_le _) (po_1 hPo (by (obtain rfl : z = N := (by omega)); rw [ea]) rfl)
      · refine ev_s C dX0_countFree_21 (q := 22) rfl rfl ?_
        refine cg_1004_0 C dX0_countFree_22 kf_X0_11 (q := 25) rfl ?_
        refine ev_s C dX0_countFree_25 (q := 26) rfl rfl ?_
        refine cl_1005 C dX0_countFree_26 (q := 27) rfl (by omega) ?_
        refine ev_ifnonnull C dX0_countFree_27 (tgt := 33) (q := 30) (by decide) rfl (fun b2 => ?_) (fun b2 => ?_)
        · obtain ⟨n9, hn9⟩ := b2
          have h9 := (pgo_s hn9).1
          have h9 : 0 ≤ u.2 2 z := h9
          refine ev_s C dX0_countFree_33 (q := 36) rfl rfl ?_
          refine ev_goto C dX0_countFree_36 (tgt := 4) (by decide) ?_
          exact ih (z + 1) _ _ (by omega) (by show _ = sumN z (clI u) + clI u z; rw [ea]; unfold clI clF; first | (rw [decide_eq_true (show u.2 2 z < 0 from h9)]; rfl) | (rw [decide_eq_false (show ¬ u.2 2 z < 0 by omega), bI_f]; omega)) (by omega) (by omega)
        · have h9 := pgo_n b2
          have h9 : u.2 2 z < 0 := h9
          refine ev_s C dX0_countFree_30 (q := 33) rfl rfl ?_
          refine ev_s C dX0_countFree_33 (q := 36) rfl rfl ?_
          refine ev_goto C dX0_countFree_36 (tgt := 4) (by decide) ?_
          exact ih (z + 1) _ _ (by omega) (by show _ = sumN z (clI u) + clI u z; rw [ea]; unfold clI clF; first | (rw [decide_eq_true (show u.2 2 z < 0 from h9)]; rfl) | (rw [decide_eq_false (show ¬ u.2 2 z < 0 by omega), bI_f]; omega)) (by omega) (by omega)
set_option maxHeartbeats 4000000 in
set_option maxRecDepth 100000 in
theorem c_X0_countFree {u v : SS} {g : GH} (I : CI u) : Cn yX0_countFree (wsy yX0_countFree cX0_countFree 3 (some .int)) 0 0 0 nn [vR (some 1004)] (mk u v g) (.inl (some (vI (sumN (u.1 7).toNat (clI u))), mk u v g)) := by
  refine con_j (lv := [(0, vR (some 1004))]) (by decide) (fun ad => Nat.le_of_ble_eq_true rfl) (fun ad => rfl) rfl ?_
  intro k C hr hlv hmc hms hPo hPx htab
  refine ev_s C dX0_countFree_0 (q := 1) rfl rfl ?_
  refine ev_s C dX0_countFree_1 (q := 2) rfl rfl ?_
  refine ev_s C dX0_countFree_2 (q := 3) rfl rfl ?_
  refine ev_s C dX0_countFree_3 (q := 4) rfl rfl ?_
  have i7 := I.s7
  exact l_X0_countFree C I (N := (u.1 7).toNat) (by omega) hr hPo ((u.1 7).toNat + 1) 0 _ _ rfl rfl (Nat.zero_le _) (by omega)
def ptM (u : SS) (p : Nat) (f : Int) : SS := mfM (stA u 2 f.toNat (p : Int)) p f
set_option maxHeartbeats 4000000 in
set_option maxRecDepth 100000 in
theorem c_X0_put {u v : SS} {g : GH} (I : CI u) {p : Nat} (hp : (p : Int) < 8 * u.1 14) (h48 : p < 48) {f : Int} (hf : 0 ≤ f ∧ f < 16) : Cn yX0_put (wsy yX0_put cX0_put 3 none) 3 0 0 nn [vR (some 1004), vR (some (3000 + p)), vI f] (mk u v g) (.inl (none, mk (ptM u p f) v g)) := by
  refine con_j (lv := [(0, vR (some 1004)), (1, vR (some (3000 + p))), (2, vI f)]) (by decide) (fun ad => Nat.le_of_ble_eq_true rfl) (fun ad => rfl) rfl ?_
  intro k C hr hlv hmc hms hPo hPx htab
  refine ev_s C dX0_put_0 (q := 1) rfl rfl ?_
  refine ev_if_lt C dX0_put_1 (tgt := 25) (q := 4) (by decide) rfl (by first | decide | (unfold rg; omega) | assumption | exact bAnd_rg _ _) (fun b0 => ?_) (fun b0 => ?_)
  · exfalso; omega
  · refine ev_s C dX0_put_4 (q := 5) rfl rfl ?_
    refine ev_s C dX0_put_5 (q := 6) rfl rfl ?_
    refine cg_1004_0 C dX0_put_6 kf_X0_11 (q := 9) rfl ?_
    refine cn_1005 C dX0_put_9 (q := 10) rfl ?_
    refine ev_icmp_ge C dX0_put_10 (tgt := 25) (q := 13) (by decide) rfl (by first | decide | (unfold rg; omega) | assumption | exact bAnd_rg _ _) (by first | decide | (unfold rg; omega) | assumption | exact bAnd_rg _ _) (fun b1 => ?_) (fun b1 => ?_)
    · exfalso; omega
    · refine ev_s C dX0_put_13 (q := 14) rfl rfl ?_
      refine cg_1004_0 C dX0_put_14 kf_X0_11 (q := 17) rfl ?_
      refine ev_s C dX0_put_17 (q := 18) rfl rfl ?_
      refine ev_s C dX0_put_18 (q := 19) rfl rfl ?_
      refine cs_1005 C dX0_put_19 (q := 20) rfl (by show (_ : Int) < 8 * u.1 14; omega) (by omega) ?_
      refine ev_s C dX0_put_20 (q := 21) rfl rfl ?_
      refine ev_s C dX0_put_21 (q := 22) rfl rfl ?_
      refine ev_cV C dX0_put_22 (q := 25) rfl km_X0_21 kv_X2_moveIntoFrame kc_X2_moveIntoFrame (c_X2_moveIntoFrame (CI_A2 I (by omega)) hp h48) rfl rfl vcX2 (gp_ (by show (_ : Int) < 8 * u.1 14; omega)) (by rw [hlv]; first | decide | omega) (by decide) (Nat.le_of_ble_eq_true rfl) (by first | exact Nat.zero_le _ | (rw [hmc]; decide) | (rw [hmc]; omega)) (by first | exact Nat.zero_le _ | (rw [hms]; decide) | (rw [hms]; omega)) ?_
      exact ev_vret C hr dX0_put_25 (Nat.zero_le _) (Nat.zero_le _) (po_0 hPo rfl)
set_option maxHeartbeats 4000000 in
set_option maxRecDepth 100000 in
theorem c_X0_takeOut {u v : SS} {g : GH} (I : CI u) {f : Nat} (hf : f < 16) : Cn yX0_takeOut (wsy yX0_takeOut cX0_takeOut 3 (some (.object "Swapyard$Page"))) 0 0 0 nn [vR (some 1004), vI (f : Int)] (mk u v g) (.inl (some (vR (pgo (u.2 2 f))), mk (stA u 2 f (-1)) v g)) := by
  refine con_j (lv := [(0, vR (some 1004)), (1, vI (f : Int))]) (by decide) (fun ad => Nat.le_of_ble_eq_true rfl) (fun ad => rfl) rfl ?_
  intro k C hr hlv hmc hms hPo hPx htab
  refine ev_s C dX0_takeOut_0 (q := 1) rfl rfl ?_
  refine ev_if_lt C dX0_takeOut_1 (tgt := 13) (q := 4) (by decide) rfl (by first | decide | (unfold rg; omega) | assumption | exact bAnd_rg _ _) (fun b0 => ?_) (fun b0 => ?_)
  · exfalso; omega
  · refine ev_s C dX0_takeOut_4 (q := 5) rfl rfl ?_
    refine ev_s C dX0_takeOut_5 (q := 6) rfl rfl ?_
    refine cg_1004_0 C dX0_takeOut_6 kf_X0_11 (q := 9) rfl ?_
    refine cn_1005 C dX0_takeOut_9 (q := 10) rfl ?_
    refine ev_icmp_lt C dX0_takeOut_10 (tgt := 15) (q := 13) (by decide) rfl (by first | decide | (unfold rg; omega) | assumption | exact bAnd_rg _ _) (by first | decide | (unfold rg; omega) | assumption | exact bAnd_rg _ _) (fun b1 => ?_) (fun b1 => ?_)
    · refine ev_s C dX0_takeOut_15 (q := 16) rfl rfl ?_
      refine cg_1004_0 C dX0_takeOut_16 kf_X0_11 (q := 19) rfl ?_
      refine ev_s C dX0_takeOut_19 (q := 20) rfl rfl ?_
      refine cl_1005 C dX0_takeOut_20 (q := 21) rfl (by omega) ?_
      refine ev_s C dX0_takeOut_21 (q := 22) rfl rfl ?_
      refine ev_s C dX0_takeOut_22 (q := 23) rfl rfl ?_
      refine cg_1004_0 C dX0_takeOut_23 kf_X0_11 (q := 26) rfl ?_
      refine ev_s C dX0_takeOut_26 (q := 27) rfl rfl ?_
      refine ev_s C dX0_takeOut_27 (q := 28) rfl rfl ?_
      refine cs_1005N C dX0_takeOut_28 (q := 29) rfl (by omega) ?_
      refine ev_s C dX0_takeOut_29 (q := 30) rfl rfl ?_
      exact ev_aret C hr (Or.inl ⟨_, rfl⟩) dX0_takeOut_30 (Nat.zero_le _) (Nat.zero_le _) (po_1 hPo rfl rfl)
    · exfalso; omega
theorem held_k {u : SS} (I : CI u) {f : Nat} (h : 0 ≤ u.2 2 f) : ∃ q : Nat, u.2 2 f = (q : Int) ∧ (q : Int) < 8 * u.1 14 ∧ q < 48 := by
  have h1 := I.hd f
  have h2 := I.s14
  exact ⟨(u.2 2 f).toNat, by omega, by omega, by omega⟩
set_option maxHeartbeats 4000000 in
set_option maxRecDepth 100000 in
theorem c_X0_takeReference {u v : SS} {g : GH} (I : CI u) {f q : Nat} (hf : f < 16) (hq : u.2 2 f = (q : Int)) (hq2 : (q : Int) < 8 * u.1 14) : Cn yX0_takeReference (wsy yX0_takeReference cX0_takeReference 3 (some .boolean)) 0 0 0 nn [vR (some 1004), vI (f : Int)] (mk u v g) (.inl (some (vI (u.2 25 q)), mk (stA u 25 q 0) v g)) := by
  refine con_j (lv := [(0, vR (some 1004)), (1, vI (f : Int))]) (by decide) (fun ad => Nat.le_of_ble_eq_true rfl) (fun ad => rfl) rfl ?_
  intro k C hr hlv hmc hms hPo hPx htab
  have ir := I.a25 q
  have ir2 : u.2 25 q = 0 ∨ u.2 25 q = 1 := by omega
  refine ev_s C dX0_takeReference_0 (q := 1) rfl rfl ?_
  refine ev_if_lt C dX0_takeReference_1 (tgt := 22) (q := 4) (by decide) rfl (by first | decide | (unfold rg; omega) | assumption | exact bAnd_rg _ _) (fun b0 => ?_) (fun b0 => ?_)
  · exfalso; omega
  · refine ev_s C dX0_takeReference_4 (q := 5) rfl rfl ?_
    refine ev_s C dX0_takeReference_5 (q := 6) rfl rfl ?_
    refine cg_1004_0 C dX0_takeReference_6 kf_X0_11 (q := 9) rfl ?_
    refine cn_1005 C dX0_takeReference_9 (q := 10) rfl ?_
    refine ev_icmp_ge C dX0_takeReference_10 (tgt := 22) (q := 13) (by decide) rfl (by first | decide | (unfold rg; omega) | assumption | exact bAnd_rg _ _) (by first | decide | (unfold rg; omega) | assumption | exact bAnd_rg _ _) (fun b1 => ?_) (fun b1 => ?_)
    · exfalso; omega
    · refine ev_s C dX0_takeReference_13 (q := 14) rfl rfl ?_
      refine cg_1004_0 C dX0_takeReference_14 kf_X0_11 (q := 17) rfl ?_
      refine ev_s C dX0_takeReference_17 (q := 18) rfl rfl ?_
      refine cl_1005 C dX0_takeReference_18 (q := 19) rfl (by omega) ?_
      refine ev_eqS (st := [vR (some (3000 + q))]) (by show [vR (pgo (u.2 2 f))] = _; rw [hq, pgo_k]) ?_
      refine ev_ifnonnull C dX0_takeReference_19 (tgt := 24) (q := 22) (by decide) rfl (fun _ => ?_) (fun h => nomatch h)
      refine ev_s C dX0_takeReference_24 (q := 25) rfl rfl ?_
      refine cg_1004_0 C dX0_takeReference_25 kf_X0_11 (q := 28) rfl ?_
      refine ev_s C dX0_takeReference_28 (q := 29) rfl rfl ?_
      refine cl_1005 C dX0_takeReference_29 (q := 30) rfl (by omega) ?_
      refine ev_eqS (st := [vR (some (3000 + q))]) (by show [vR (pgo (u.2 2 f))] = _; rw [hq, pgo_k]) ?_
      refine cgp_5 C dX0_takeReference_30 kf_X0_36 (q := 33) rfl (by show (_ : Int) < 8 * u.1 14; omega) ?_
      refine ev_s C dX0_takeReference_33 (q := 34) rfl rfl ?_
      refine ev_s C dX0_takeReference_34 (q := 35) rfl rfl ?_
      refine cg_1004_0 C dX0_takeReference_35 kf_X0_11 (q := 38) rfl ?_
      refine ev_s C dX0_takeReference_38 (q := 39) rfl rfl ?_
      refine cl_1005 C dX0_takeReference_39 (q := 40) rfl (by omega) ?_
      refine ev_eqS (st := [vR (some (3000 + q))]) (by show [vR (pgo (u.2 2 f))] = _; rw [hq, pgo_k]) ?_
      refine ev_s C dX0_takeReference_40 (q := 41) rfl rfl ?_
      refine cpp_5 C dX0_takeReference_41 kf_X0_36 (q := 44) rfl (fit_Z (by first | decide | exact bI_01 _ | assumption)) (by show (_ : Int) < 8 * u.1 14; omega) ?_
      refine ev_s C dX0_takeReference_44 (q := 45) rfl rfl ?_
      exact ev_zret C hr (fit_Z (by first | decide | exact bI_01 _ | assumption)) dX0_takeReference_45 (Nat.zero_le _) (Nat.zero_le _) (po_1 hPo rfl rfl)
def ckN (u : SS) : Int := if u.1 8 + 1 < u.1 7 then u.1 8 + 1 else 0
def hdP (u : SS) : Nat := (u.2 2 (u.1 8).toNat).toNat
def ck1 (u : SS) : SS := stA (stS u 8 (ckN u)) 25 (hdP u) 0
def cki : Nat → SS → SS
  | 0, u => u
  | d + 1, u => if u.2 25 (hdP u) = 0 then u else cki d (ck1 u)
theorem cki_s {d : Nat} {u : SS} : cki (d + 1) u = if u.2 25 (hdP u) = 0 then u else cki d (ck1 u) := rfl
def ckM (u : SS) : SS := stA (ck1 u) 2 (u.1 8).toNat (-1)
def rfC (u : SS) : Int := sumN (u.1 7).toNat (fun f => u.2 25 (u.2 2 f).toNat)
theorem sumN_le {p q : Nat → Int} : ∀ {N : Nat}, (∀ z, z < N → p z ≤ q z) → sumN N p ≤ sumN N q
  | 0, _ => Int.le_refl _
  | N + 1, h => by
    have h1 := sumN_le (N := N) (fun z hz => h z (by omega))
    have h2 := h N (by omega)
    unfold sumN
    omega
theorem sumN_lt {p q : Nat → Int} {f : Nat} : ∀ {N : Nat}, (∀ z, z < N → p z ≤ q z) → f < N → p f < q f → sumN N p < sumN N q
  | 0, _, h, _ => absurd h (Nat.not_lt_zero _)
  | N + 1, h, hf, hl => by
    unfold sumN
    by_cases e : f = N
    · subst e
      have h1 := sumN_le (N := f) (fun z hz => h z (by omega))
      omega
    · have h1 := sumN_lt (N := N) (fun z hz => h z (by omega)) (by omega) hl
      have h2 := h N (by omega)
      omega
theorem ckN_b {u : SS} (I : CI u) (hh : u.1 8 < u.1 7) : 0 ≤ ckN u ∧ ckN u < u.1 7 ∧ ckN u ≤ 15 := by
  have i7 := I.s7
  have i8 := I.s8
  unfold ckN
  split <;> omega
theorem CI_ck1 {u : SS} (I : CI u) (hh : u.1 8 < u.1 7) : CI (ck1 u) := by
  have h := ckN_b I hh
  exact CI_A (CI_S I (Or.inr (Or.inr (by show 0 ≤ ckN u ∧ ckN u ≤ 15; omega))) (by decide) (by decide) (by decide) (by decide)) (by decide) (by decide) (by decide)
theorem rfC_bd {u : SS} (I : CI u) : 0 ≤ rfC u ∧ rfC u ≤ u.1 7 := by
  have i7 := I.s7
  have := sumN_bd (N := (u.1 7).toNat) (p := fun f => u.2 25 (u.2 2 f).toNat) (a := 0) (b := 1) (fun z _ => I.a25 _)
  unfold rfC
  omega
theorem ck1_25 {u : SS} {j : Nat} : (ck1 u).2 25 j = if j = hdP u then 0 else u.2 25 j := rfl
theorem ck1_A {u : SS} {a j : Nat} (h : a ≠ 25) : (ck1 u).2 a j = u.2 a j := by
  show (stA _ 25 _ 0).2 a j = _
  rw [stA_2, if_neg h]; rfl
theorem ck1_S {u : SS} {s : Nat} (h : s ≠ 8) : (ck1 u).1 s = u.1 s := by
  show (stS u 8 _).1 s = _
  rw [stS_1, if_neg h]
theorem rfC_dn {u : SS} (I : CI u) (hh : u.1 8 < u.1 7) (h : u.2 25 (hdP u) ≠ 0) : rfC (ck1 u) < rfC u := by
  have i7 := I.s7
  have i8 := I.s8
  refine sumN_lt (f := (u.1 8).toNat) (fun z _ => ?_) (by show (u.1 8).toNat < (u.1 7).toNat; omega) ?_
  · show (ck1 u).2 25 ((ck1 u).2 2 z).toNat ≤ u.2 25 (u.2 2 z).toNat
    rw [ck1_A (a := 2) (by decide), ck1_25]
    have := I.a25 (u.2 2 z).toNat
    split <;> omega
  · show (ck1 u).2 25 ((ck1 u).2 2 (u.1 8).toNat).toNat < u.2 25 (u.2 2 (u.1 8).toNat).toNat
    rw [ck1_A (a := 2) (by decide), ck1_25, if_pos (show (u.2 2 (u.1 8).toNat).toNat = hdP u from rfl)]
    have := I.a25 (hdP u)
    show 0 < u.2 25 (hdP u)
    omega
theorem rfC_0 {u : SS} (I : CI u) (hh : u.1 8 < u.1 7) (h : rfC u ≤ 0) : u.2 25 (hdP u) = 0 := by
  apply Classical.byContradiction
  intro hn
  have h1 := rfC_dn I hh hn
  have h2 := rfC_bd (CI_ck1 I hh)
  omega
theorem cki_I : ∀ (d : Nat) (u : SS), CI u → u.1 8 < u.1 7 → rfC u < d → CI (cki d u) ∧ (cki d u).1 8 < (cki d u).1 7 ∧ (cki d u).2 25 (hdP (cki d u)) = 0
  | 0, u, I, _, h => by have := rfC_bd I; omega
  | d + 1, u, I, hh, h => by
    rw [cki_s]
    by_cases e : u.2 25 (hdP u) = 0
    · rw [if_pos e]; exact ⟨I, hh, e⟩
    · rw [if_neg e]
      have h1 := rfC_dn I hh e
      have h2 := ckN_b I hh
      exact cki_I d _ (CI_ck1 I hh) (by show ckN u < u.1 7; omega) (by omega)
theorem cki_S {s : Nat} (h : s ≠ 8) : ∀ (d : Nat) (u : SS), (cki d u).1 s = u.1 s
  | 0, u => rfl
  | d + 1, u => by
    rw [cki_s]
    split
    · rfl
    · rw [cki_S h d, ck1_S h]
theorem cki_A {a j : Nat} (h : a ≠ 25) : ∀ (d : Nat) (u : SS), (cki d u).2 a j = u.2 a j
  | 0, u => rfl
  | d + 1, u => by
    rw [cki_s]
    split
    · rfl
    · rw [cki_A h d, ck1_A h]
set_option maxHeartbeats 4000000 in
set_option maxRecDepth 100000 in
theorem l_X0_clock {k : Kx} (C : CX k RX0 cX0_takeOutByClock 3) (hlv : klev k = 1) {v : SS} {g : GH} {w : SS} {N : Nat} (hr : (kmeth k).sig.returnType = some (.object "Swapyard$Page")) (hPo : kPo k = PoR (.inl (some (vR (some (3000 + hdP w))), mk (ckM w) v g))) : ∀ (m z : Nat) (u : SS) (l2 : List (Nat × AV)), CI u → u.1 7 = (N : Int) → u.1 8 < u.1 7 → (∀ f : Nat, (f : Int) < u.1 7 → 0 ≤ u.2 2 f) → (z : Int) + rfC u ≤ N → rfC u < m → cki m u = w → EV k 2 ([(0, vR (some 1004)), (1, vI (z : Int))]) [] (mk u v g) 0 0 := by
  intro m
  induction m with
  | zero =>
    intro z u l2 I hN hh hal hz hm
    have := rfC_bd I
    exfalso
    omega
  | succ m ih =>
    intro z u l2 I hN hh hal hz hm hw
    have i7 := I.s7
    have i8 := I.s8
    have hck := ckN_b I hh
    have hbd := rfC_bd I
    have h0 := hal (u.1 8).toNat (by omega)
    obtain ⟨q, hq, hq2, hq3⟩ := held_k I h0
    have hqh : hdP u = q := by unfold hdP; rw [hq]; rfl
    have ir := I.a25 q
    have J : CI (stS u 8 (ckN u)) := CI_S I (Or.inr (Or.inr (by show 0 ≤ ckN u ∧ ckN u ≤ 15; omega))) (by decide) (by decide) (by decide) (by decide)
    obtain ⟨hf, hhf⟩ : ∃ hf : Nat, u.1 8 = (hf : Int) := ⟨(u.1 8).toNat, by omega⟩
    have hq' : u.2 2 hf = (q : Int) := by rw [← hq, hhf]; rfl
    refine ev_s C dX0_takeOutByClock_2 (q := 3) rfl rfl ?_
    refine ev_s C dX0_takeOutByClock_3 (q := 4) rfl rfl ?_
    refine cg_1004_1 C dX0_takeOutByClock_4 kf_X0_17 (q := 7) rfl ?_
    refine ev_icmp_gt C dX0_takeOutByClock_7 (tgt := 56) (q := 10) (by decide) rfl (by first | decide | (unfold rg; omega) | assumption | exact bAnd_rg _ _) (by first | decide | (unfold rg; omega) | assumption | exact bAnd_rg _ _) (fun b0 => ?_) (fun b0 => ?_)
    · exfalso; have h8 := b0; have := rfC_bd I; omega
    · refine ev_s C dX0_takeOutByClock_10 (q := 11) rfl rfl ?_
      refine cg_1004_2 C dX0_takeOutByClock_11 kf_X0_25 (q := 14) rfl ?_
      refine ev_s C dX0_takeOutByClock_14 (q := 15) rfl rfl ?_
      refine ev_s C dX0_takeOutByClock_15 (q := 16) rfl rfl ?_
      refine ev_s C dX0_takeOutByClock_16 (q := 17) rfl rfl ?_
      refine ev_s C dX0_takeOutByClock_17 (q := 18) rfl rfl ?_
      refine ev_s C dX0_takeOutByClock_18 (q := 19) rfl rfl ?_
      refine ev_s C dX0_takeOutByClock_19 (q := 20) rfl rfl ?_
      refine cg_1004_1 C dX0_takeOutByClock_20 kf_X0_17 (q := 23) rfl ?_
      refine ev_icmp_ge C dX0_takeOutByClock_23 (tgt := 32) (q := 26) (by decide) rfl (by first | decide | (unfold rg; omega) | assumption | exact bAnd_rg _ _) (by first | decide | (unfold rg; omega) | assumption | exact bAnd_rg _ _) (fun b1 => ?_) (fun b1 => ?_)
      · refine ev_s C dX0_takeOutByClock_32 (q := 33) rfl rfl ?_
        refine cp_1004_2 C dX0_takeOutByClock_33 kf_X0_25 (q := 36) rfl (fit_I _) ?_
        refine ev_eq (G := mk (stS u 8 (ckN u)) v g) (by unfold ckN; first | (rw [if_pos (by omega)]; done) | (rw [if_neg (by omega)])) ?_
        refine ev_eqL (lv := [(0, vR (some 1004)), (1, vI (z : Int)), (2, vI (hf : Int))]) (by rw [← hhf]; rfl) ?_
        refine ev_s C dX0_takeOutByClock_36 (q := 37) rfl rfl ?_
        refine ev_s C dX0_takeOutByClock_37 (q := 38) rfl rfl ?_
        refine ev_cV C dX0_takeOutByClock_38 (q := 41) rfl km_X0_28 kv_X0_takeReference kc_X0_takeReference (c_X0_takeReference (f := hf) (q := q) J (by omega) hq' hq2) rfl rfl vcX0 rfl (by rw [hlv]; first | decide | omega) (by decide) (Nat.le_of_ble_eq_true rfl) (by first | exact Nat.zero_le _ | (rw [hmc]; decide) | (rw [hmc]; omega)) (by first | exact Nat.zero_le _ | (rw [hms]; decide) | (rw [hms]; omega)) ?_
        show EV k 41 _ (vI (u.2 25 q) :: []) _ _ _
        refine ev_if_ne C dX0_takeOutByClock_41 (tgt := 50) (q := 44) (by decide) rfl (by first | decide | (unfold rg; omega) | assumption | exact bAnd_rg _ _) (fun b2 => ?_) (fun b2 => ?_)
        · have b9 : ¬ u.2 25 (hdP u) = 0 := by rw [hqh]; exact b2
          have hdn := rfC_dn I hh b9
          refine ev_eq (G := mk (ck1 u) v g) (by unfold ck1; rw [hqh]) ?_
          refine ev_s C dX0_takeOutByClock_50 (q := 53) rfl rfl ?_
          refine ev_goto C dX0_takeOutByClock_53 (tgt := 2) (by decide) ?_
          refine ev_keep [0, 1] rfl ?_
          exact ih (z + 1) (ck1 u) [] (CI_ck1 I hh) hN (by show ckN u < u.1 7; omega) (fun f hf => by rw [ck1_A (by decide)]; exact hal f hf) (by omega) (by omega) (by rw [cki_s, if_neg b9] at hw; exact hw)
        · have b9 : u.2 25 (hdP u) = 0 := by rw [hqh]; exact b2
          rw [cki_s, if_pos b9] at hw
          subst hw
          refine ev_s C dX0_takeOutByClock_44 (q := 45) rfl rfl ?_
          refine ev_s C dX0_takeOutByClock_45 (q := 46) rfl rfl ?_
          refine ev_cV C dX0_takeOutByClock_46 (q := 49) rfl km_X0_32 kv_X0_takeOut kc_X0_takeOut (c_X0_takeOut (f := hf) (CI_A J (by decide) (by decide) (by decide)) (by omega)) rfl rfl vcX0 rfl (by rw [hlv]; first | decide | omega) (by decide) (Nat.le_of_ble_eq_true rfl) (by first | exact Nat.zero_le _ | (rw [hmc]; decide) | (rw [hmc]; omega)) (by first | exact Nat.zero_le _ | (rw [hms]; decide) | (rw [hms]; omega)) ?_
          exact ev_aret C hr (Or.inl ⟨_, rfl⟩) dX0_takeOutByClock_49 (Nat.zero_le _) (Nat.zero_le _) (po_1 hPo (by rw [hqh]; show _ = vR (pgo (u.2 2 hf)); rw [hq', pgo_k]) (by unfold ckM ck1; rw [hqh, hhf]; rfl))
      · refine ev_s C dX0_takeOutByClock_26 (q := 27) rfl rfl ?_
        refine ev_s C dX0_takeOutByClock_27 (q := 28) rfl rfl ?_
        refine ev_s C dX0_takeOutByClock_28 (q := 29) rfl rfl ?_
        refine ev_goto C dX0_takeOutByClock_29 (tgt := 33) (by decide) ?_
        refine cp_1004_2 C dX0_takeOutByClock_33 kf_X0_25 (q := 36) rfl (fit_I _) ?_
        refine ev_eq (G := mk (stS u 8 (ckN u)) v g) (by unfold ckN; first | (rw [if_pos (by omega)]; done) | (rw [if_neg (by omega)])) ?_
        refine ev_eqL (lv := [(0, vR (some 1004)), (1, vI (z : Int)), (2, vI (hf : Int))]) (by rw [← hhf]; rfl) ?_
        refine ev_s C dX0_takeOutByClock_36 (q := 37) rfl rfl ?_
        refine ev_s C dX0_takeOutByClock_37 (q := 38) rfl rfl ?_
        refine ev_cV C dX0_takeOutByClock_38 (q := 41) rfl km_X0_28 kv_X0_takeReference kc_X0_takeReference (c_X0_takeReference (f := hf) (q := q) J (by omega) hq' hq2) rfl rfl vcX0 rfl (by rw [hlv]; first | decide | omega) (by decide) (Nat.le_of_ble_eq_true rfl) (by first | exact Nat.zero_le _ | (rw [hmc]; decide) | (rw [hmc]; omega)) (by first | exact Nat.zero_le _ | (rw [hms]; decide) | (rw [hms]; omega)) ?_
        show EV k 41 _ (vI (u.2 25 q) :: []) _ _ _
        refine ev_if_ne C dX0_takeOutByClock_41 (tgt := 50) (q := 44) (by decide) rfl (by first | decide | (unfold rg; omega) | assumption | exact bAnd_rg _ _) (fun b3 => ?_) (fun b3 => ?_)
        · have b9 : ¬ u.2 25 (hdP u) = 0 := by rw [hqh]; exact b3
          have hdn := rfC_dn I hh b9
          refine ev_eq (G := mk (ck1 u) v g) (by unfold ck1; rw [hqh]) ?_
          refine ev_s C dX0_takeOutByClock_50 (q := 53) rfl rfl ?_
          refine ev_goto C dX0_takeOutByClock_53 (tgt := 2) (by decide) ?_
          refine ev_keep [0, 1] rfl ?_
          exact ih (z + 1) (ck1 u) [] (CI_ck1 I hh) hN (by show ckN u < u.1 7; omega) (fun f hf => by rw [ck1_A (by decide)]; exact hal f hf) (by omega) (by omega) (by rw [cki_s, if_neg b9] at hw; exact hw)
        · have b9 : u.2 25 (hdP u) = 0 := by rw [hqh]; exact b3
          rw [cki_s, if_pos b9] at hw
          subst hw
          refine ev_s C dX0_takeOutByClock_44 (q := 45) rfl rfl ?_
          refine ev_s C dX0_takeOutByClock_45 (q := 46) rfl rfl ?_
          refine ev_cV C dX0_takeOutByClock_46 (q := 49) rfl km_X0_32 kv_X0_takeOut kc_X0_takeOut (c_X0_takeOut (f := hf) (CI_A J (by decide) (by decide) (by decide)) (by omega)) rfl rfl vcX0 rfl (by rw [hlv]; first | decide | omega) (by decide) (Nat.le_of_ble_eq_true rfl) (by first | exact Nat.zero_le _ | (rw [hmc]; decide) | (rw [hmc]; omega)) (by first | exact Nat.zero_le _ | (rw [hms]; decide) | (rw [hms]; omega)) ?_
          exact ev_aret C hr (Or.inl ⟨_, rfl⟩) dX0_takeOutByClock_49 (Nat.zero_le _) (Nat.zero_le _) (po_1 hPo (by rw [hqh]; show _ = vR (pgo (u.2 2 hf)); rw [hq', pgo_k]) (by unfold ckM ck1; rw [hqh, hhf]; rfl))
set_option maxHeartbeats 4000000 in
set_option maxRecDepth 100000 in
theorem c_X0_takeOutByClock {u v : SS} {g : GH} (I : CI u) (hh : u.1 8 < u.1 7) (hal : ∀ f : Nat, (f : Int) < u.1 7 → 0 ≤ u.2 2 f) : Cn yX0_takeOutByClock (wsy yX0_takeOutByClock cX0_takeOutByClock 3 (some (.object "Swapyard$Page"))) 1 0 0 nn [vR (some 1004)] (mk u v g) (.inl (some (vR (some (3000 + hdP (cki 17 u)))), mk (ckM (cki 17 u)) v g)) := by
  refine con_j (lv := [(0, vR (some 1004))]) (by decide) (fun ad => Nat.le_of_ble_eq_true rfl) (fun ad => rfl) rfl ?_
  intro k C hr hlv hmc hms hPo hPx htab
  refine ev_s C dX0_takeOutByClock_0 (q := 1) rfl rfl ?_
  refine ev_s C dX0_takeOutByClock_1 (q := 2) rfl rfl ?_
  have i7 := I.s7
  have hb := rfC_bd I
  exact l_X0_clock C hlv (N := (u.1 7).toNat) hr hPo 17 0 u [] I (by omega) hh hal (by omega) (by omega) rfl
def rsM (u : SS) (n : Int) : SS := if n ≤ u.1 8 then stS (stS u 7 n) 8 0 else stS u 7 n
set_option maxHeartbeats 4000000 in
set_option maxRecDepth 100000 in
theorem c_X0_resize {u v : SS} {g : GH} (I : CI u) {n : Int} (hn : 1 ≤ n ∧ n ≤ 16) : Cn yX0_resize (wsy yX0_resize cX0_resize 2 none) 0 0 0 nn [vR (some 1004), vI n] (mk u v g) (.inl (none, mk (rsM u n) v g)) := by
  refine con_j (lv := [(0, vR (some 1004)), (1, vI n)]) (by decide) (fun ad => Nat.le_of_ble_eq_true rfl) (fun ad => rfl) rfl ?_
  intro k C hr hlv hmc hms hPo hPx htab
  have i8 := I.s8
  refine ev_s C dX0_resize_0 (q := 1) rfl rfl ?_
  refine ev_s C dX0_resize_1 (q := 2) rfl rfl ?_
  refine cp_1004_1 C dX0_resize_2 kf_X0_17 (q := 5) rfl (fit_I _) ?_
  refine ev_s C dX0_resize_5 (q := 6) rfl rfl ?_
  refine cg_1004_2 C dX0_resize_6 kf_X0_25 (q := 9) rfl ?_
  refine ev_s C dX0_resize_9 (q := 10) rfl rfl ?_
  refine ev_icmp_lt C dX0_resize_10 (tgt := 18) (q := 13) (by decide) rfl (by first | (unfold rg; omega) | (show rg (u.1 8); unfold rg; omega)) (by first | (unfold rg; omega) | (show rg (u.1 8); unfold rg; omega)) (fun b0 => ?_) (fun b0 => ?_)
  · have b9 : ¬ n ≤ u.1 8 := Int.not_le.mpr b0
    exact ev_vret C hr dX0_resize_18 (Nat.zero_le _) (Nat.zero_le _) (po_0 hPo (by unfold rsM; first | (rw [if_pos (by assumption)]; done) | (rw [if_neg (by assumption)]; done)))
  · have b9 : n ≤ u.1 8 := Int.not_lt.mp b0
    refine ev_s C dX0_resize_13 (q := 14) rfl rfl ?_
    refine ev_s C dX0_resize_14 (q := 15) rfl rfl ?_
    refine cp_1004_2 C dX0_resize_15 kf_X0_25 (q := 18) rfl (fit_I _) ?_
    exact ev_vret C hr dX0_resize_18 (Nat.zero_le _) (Nat.zero_le _) (po_0 hPo (by unfold rsM; first | (rw [if_pos (by assumption)]; done) | (rw [if_neg (by assumption)]; done)))
