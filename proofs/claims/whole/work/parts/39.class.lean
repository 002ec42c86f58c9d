/-! THE CLASS: the store takes in, a page comes into a frame -/
def po1 (u : SS) : SS := mvM (orM u 0) (u.2 3 0).toNat 100
def cmr (x : Int) : Nat → SS → SS
  | 0, u => u
  | d + 1, u => if 0 < u.1 11 ∧ u.1 9 < ctk u + x then cmr x d (po1 u) else u
theorem cmr_s {x : Int} {d : Nat} {u : SS} : cmr x (d + 1) u = if 0 < u.1 11 ∧ u.1 9 < ctk u + x then cmr x d (po1 u) else u := rfl
theorem pg48 {u : SS} (I : CI u) {p : Nat} (hp : (p : Int) < 8 * u.1 14) : p < 48 := by have := I.s14; omega
theorem od0 {u : SS} (I : CI u) {j : Nat} (h : (j : Int) < u.1 11) : (((u.2 3 j).toNat : Nat) : Int) < 8 * u.1 14 := by
  have h1 := I.od j
  have h2 := I.on h
  omega
theorem CI_po1 {u : SS} (I : CI u) (h : 0 < u.1 11) : CI (po1 u) := CI_mv (CI_or I (by omega)) (pg48 I (od0 I (j := 0) (by omega))) (Or.inr (Or.inl rfl))
theorem po1_11 {u : SS} : (po1 u).1 11 = u.1 11 - 1 := by unfold po1; rw [mvM_S (by decide)]; rfl
theorem po1_S {u : SS} {s : Nat} (h1 : s ≠ 10) (h2 : s ≠ 11) (h3 : s ≠ 6) : (po1 u).1 s = u.1 s := by unfold po1; rw [mvM_S h3, orM_S h1 h2]
theorem po1_A {u : SS} {a j : Nat} (h0 : a ≠ 0) (h1 : a ≠ 23) (h2 : a ≠ 24) (h3 : a ≠ 25) (h4 : a ≠ 3) : (po1 u).2 a j = u.2 a j := by unfold po1; rw [mvM_A h0 h1 h2 h3, orM_A h4]
theorem cmr_I {x : Int} : ∀ (d : Nat) (u : SS), CI u → CI (cmr x d u) ∧ (cmr x d u).1 11 ≤ u.1 11
  | 0, u, I => ⟨I, Int.le_refl _⟩
  | d + 1, u, I => by
    rw [cmr_s]
    split
    · rename_i h
      have h1 := cmr_I (x := x) d (po1 u) (CI_po1 I h.1)
      rw [po1_11] at h1
      exact ⟨h1.1, by omega⟩
    · exact ⟨I, Int.le_refl _⟩
theorem cmr_S {x : Int} {s : Nat} (h1 : s ≠ 10) (h2 : s ≠ 11) (h3 : s ≠ 6) : ∀ (d : Nat) (u : SS), (cmr x d u).1 s = u.1 s
  | 0, u => rfl
  | d + 1, u => by
    rw [cmr_s]
    split
    · rw [cmr_S h1 h2 h3, po1_S h1 h2 h3]
    · rfl
theorem cmr_A {x : Int} {a j : Nat} (h0 : a ≠ 0) (h1 : a ≠ 23) (h2 : a ≠ 24) (h3 : a ≠ 25) (h4 : a ≠ 3) : ∀ (d : Nat) (u : SS), (cmr x d u).2 a j = u.2 a j
  | 0, u => rfl
  | d + 1, u => by
    rw [cmr_s]
    split
    · rw [cmr_A h0 h1 h2 h3 h4, po1_A h0 h1 h2 h3 h4]
    · rfl
set_option maxHeartbeats 4000000 in
set_option maxRecDepth 100000 in
theorem l_X5_makeRoomFor {k : Kx} (C : CX k RX5 cX5_makeRoomFor 4) (hlv : klev k = 4) {v : SS} {g : GH} {w : SS} {x S : Int} (hx : 0 ≤ x ∧ x ≤ 60) (hr : (kmeth k).sig.returnType = some .int) (hPo : kPo k = PoR (.inl (some (vI (S - w.1 11)), mk w v g))) : ∀ (m : Nat) (u : SS) (a l : Int), CI u → l = u.1 11 → a = S - u.1 11 → u.1 11 < m → cmr x m u = w → EV k 10 [(0, vR (some 1006)), (1, vI x), (2, vI a), (3, vI l)] [] (mk u v g) 0 0 := by
  intro m
  induction m with
  | zero =>
    intro u a l I el ea hm
    have := I.s11
    exfalso
    omega
  | succ m ih =>
    intro u a l I el ea hm hw
    have i11 := I.s11
    have i9 := I.s9
    have ht := ctf_bd I (u.1 11).toNat
    have ht2 : 0 ≤ ctk u ∧ ctk u ≤ 4 * u.1 11 := by unfold ctk; omega
    refine ev_s C dX5_makeRoomFor_10 (q := 11) rfl rfl ?_
    refine ev_if_le C dX5_makeRoomFor_11 (tgt := 52) (q := 14) (by decide) rfl (by first | decide | (unfold rg; omega) | assumption | exact bAnd_rg _ _) (fun b0 => ?_) (fun b0 => ?_)
    · refine ev_s C dX5_makeRoomFor_52 (q := 53) rfl rfl ?_
      exact ev_iret C hr dX5_makeRoomFor_53 (Nat.zero_le _) (Nat.zero_le _) (po_1 hPo (by (have e9 : cmr x (m + 1) u = u := by rw [cmr_s, if_neg (by omega)]); rw [e9] at hw; subst hw; rw [ea]) (by (have e9 : cmr x (m + 1) u = u := by rw [cmr_s, if_neg (by omega)]); rw [e9] at hw; subst hw; rfl))
    · refine ev_s C dX5_makeRoomFor_14 (q := 15) rfl rfl ?_
      refine ev_cV C dX5_makeRoomFor_15 (q := 18) rfl km_X5_46 kv_X5_takenRoom kc_X5_takenRoom (c_X5_takenRoom I) rfl rfl vcX5 rfl (by rw [hlv]; first | decide | omega) (by decide) (Nat.le_of_ble_eq_true rfl) (by first | exact Nat.zero_le _ | (rw [hmc]; decide) | (rw [hmc]; omega)) (by first | exact Nat.zero_le _ | (rw [hms]; decide) | (rw [hms]; omega)) ?_
      refine ev_s C dX5_makeRoomFor_18 (q := 19) rfl rfl ?_
      refine ev_s C dX5_makeRoomFor_19 (q := 20) rfl rfl ?_
      refine ev_s C dX5_makeRoomFor_20 (q := 21) rfl rfl ?_
      refine cg_1006_1 C dX5_makeRoomFor_21 kf_X5_18 (q := 24) rfl ?_
      refine ev_icmp_le C dX5_makeRoomFor_24 (tgt := 52) (q := 27) (by decide) rfl (by first | decide | (unfold rg; omega) | assumption | exact bAnd_rg _ _) (by first | decide | (unfold rg; omega) | assumption | exact bAnd_rg _ _) (fun b1 => ?_) (fun b1 => ?_)
      · refine ev_s C dX5_makeRoomFor_52 (q := 53) rfl rfl ?_
        exact ev_iret C hr dX5_makeRoomFor_53 (Nat.zero_le _) (Nat.zero_le _) (po_1 hPo (by (have e9 : cmr x (m + 1) u = u := by rw [cmr_s, if_neg (by omega)]); rw [e9] at hw; subst hw; rw [ea]) (by (have e9 : cmr x (m + 1) u = u := by rw [cmr_s, if_neg (by omega)]); rw [e9] at hw; subst hw; rfl))
      · have hpz := od0 I (j := 0) (by omega)
        refine ev_s C dX5_makeRoomFor_27 (q := 28) rfl rfl ?_
        refine cg_1006_0 C dX5_makeRoomFor_28 kf_X5_12 (q := 31) rfl ?_
        refine ev_s C dX5_makeRoomFor_31 (q := 32) rfl rfl ?_
        refine ev_cV C dX5_makeRoomFor_32 (q := 35) rfl km_X5_49 kv_Jx4a65c_remove_915e3 kc_Jx4a65c_remove_915e3 (c_remove I (i := 0) (by omega)) rfl rfl vcJx4a65c rfl (by rw [hlv]; first | decide | omega) (by decide) (Nat.le_of_ble_eq_true rfl) (by first | exact Nat.zero_le _ | (rw [hmc]; decide) | (rw [hmc]; omega)) (by first | exact Nat.zero_le _ | (rw [hms]; decide) | (rw [hms]; omega)) ?_
        refine ev_chk C dX5_makeRoomFor_35 (q := 38) rfl vcX2 kl_X5_30 (fun n h => by cases h; exact ⟨_, gp_ (by show (_ : Int) < 8 * u.1 14; omega)⟩) ?_
        refine ev_s C dX5_makeRoomFor_38 (q := 40) rfl rfl ?_
        refine ev_cV C dX5_makeRoomFor_40 (q := 43) rfl km_X5_34 kv_X2_moveTo kc_X2_moveTo (c_X2_moveTo (p := (u.2 3 0).toNat) (CI_or I (i := 0) (by omega)) hpz (by decide)) rfl rfl vcX2 (gp_ hpz) (by rw [hlv]; first | decide | omega) (by decide) (Nat.le_of_ble_eq_true rfl) (by first | exact Nat.zero_le _ | (rw [hmc]; decide) | (rw [hmc]; omega)) (by first | exact Nat.zero_le _ | (rw [hms]; decide) | (rw [hms]; omega)) ?_
        refine ev_s C dX5_makeRoomFor_43 (q := 46) rfl rfl ?_
        refine ev_s C dX5_makeRoomFor_46 (q := 49) rfl rfl ?_
        refine ev_goto C dX5_makeRoomFor_49 (tgt := 10) (by decide) ?_
        exact ih (po1 u) _ _ (CI_po1 I (by omega)) (by rw [po1_11]; omega) (by rw [po1_11]; omega) (by rw [po1_11]; omega) (by rw [cmr_s, if_pos ⟨by omega, by omega⟩] at hw; exact hw)
set_option maxHeartbeats 4000000 in
set_option maxRecDepth 100000 in
theorem c_X5_makeRoomFor {u v : SS} {g : GH} (I : CI u) {x : Int} (hx : 0 ≤ x ∧ x ≤ 60) : Cn yX5_makeRoomFor (wsy yX5_makeRoomFor cX5_makeRoomFor 4 (some .int)) 4 0 0 nn [vR (some 1006), vI x] (mk u v g) (.inl (some (vI (u.1 11 - (cmr x ((u.1 11).toNat + 1) u).1 11)), mk (cmr x ((u.1 11).toNat + 1) u) v g)) := by
  refine con_j (lv := [(0, vR (some 1006)), (1, vI x)]) (by decide) (fun ad => Nat.le_of_ble_eq_true rfl) (fun ad => rfl) rfl ?_
  intro k C hr hlv hmc hms hPo hPx htab
  refine ev_s C dX5_makeRoomFor_0 (q := 1) rfl rfl ?_
  refine ev_s C dX5_makeRoomFor_1 (q := 2) rfl rfl ?_
  refine ev_s C dX5_makeRoomFor_2 (q := 3) rfl rfl ?_
  refine cg_1006_0 C dX5_makeRoomFor_3 kf_X5_12 (q := 6) rfl ?_
  refine ev_cV C dX5_makeRoomFor_6 (q := 9) rfl km_X5_22 kv_Jx4a65c_size_8abf5 kc_Jx4a65c_size_8abf5 (c_size_o) rfl rfl vcJx4a65c rfl (by rw [hlv]; first | decide | omega) (by decide) (Nat.le_of_ble_eq_true rfl) (by first | exact Nat.zero_le _ | (rw [hmc]; decide) | (rw [hmc]; omega)) (by first | exact Nat.zero_le _ | (rw [hms]; decide) | (rw [hms]; omega)) ?_
  refine ev_s C dX5_makeRoomFor_9 (q := 10) rfl rfl ?_
  have i11 := I.s11
  exact l_X5_makeRoomFor C hlv hx hr hPo ((u.1 11).toNat + 1) u _ _ I rfl (by omega) (by omega) rfl
def tiB (u : SS) (p : Nat) : SS := cmr (u.2 22 p) ((u.1 11).toNat + 1) u
def tiM (u : SS) (p : Nat) : SS := if u.1 9 < u.2 22 p then mvM u p 100 else mvM (oaM (tiB u p) p) p 115
def tiR (u : SS) (p : Nat) : Int := if u.1 9 < u.2 22 p then 5 else 1 + 5 * (u.1 11 - (tiB u p).1 11)
theorem tiB_I {u : SS} (I : CI u) (p : Nat) : CI (tiB u p) ∧ (tiB u p).1 11 ≤ u.1 11 ∧ (tiB u p).1 14 = u.1 14 :=
  ⟨(cmr_I _ u I).1, (cmr_I _ u I).2, cmr_S (by decide) (by decide) (by decide) _ _⟩
theorem CI_ti {u : SS} (I : CI u) {p : Nat} (hp : (p : Int) < 8 * u.1 14) (h47 : u.1 11 ≤ 47) : CI (tiM u p) := by
  have h := tiB_I I p
  unfold tiM
  split
  · exact CI_mv I (pg48 I hp) (Or.inr (Or.inl rfl))
  · exact CI_mv (CI_oa h.1 (by omega) (by omega)) (pg48 I hp) (Or.inr (Or.inr (Or.inr rfl)))
theorem tiM_S {u : SS} {p s : Nat} (h1 : s ≠ 10) (h2 : s ≠ 11) (h3 : s ≠ 6) (h4 : s ≠ 12) : (tiM u p).1 s = u.1 s := by
  unfold tiM
  split
  · exact mvM_S h3
  · rw [mvM_S h3, oaM_S h1 h2 h4]; exact cmr_S h1 h2 h3 _ _
theorem tiM_A {u : SS} {p a j : Nat} (h0 : a ≠ 0) (h1 : a ≠ 23) (h2 : a ≠ 24) (h3 : a ≠ 25) (h4 : a ≠ 3) : (tiM u p).2 a j = u.2 a j := by
  unfold tiM
  split
  · exact mvM_A h0 h1 h2 h3
  · rw [mvM_A h0 h1 h2 h3, oaM_A h4]; exact cmr_A h0 h1 h2 h3 h4 _ _
theorem tiR_b {u : SS} (I : CI u) (p : Nat) : 1 ≤ tiR u p ∧ tiR u p ≤ 241 := by
  have h := tiB_I I p
  have i11 := I.s11
  have j11 := h.1.s11
  unfold tiR
  split <;> omega
set_option maxHeartbeats 4000000 in
set_option maxRecDepth 100000 in
theorem c_X5_takeIn {u v : SS} {g : GH} (I : CI u) {p : Nat} (hp : (p : Int) < 8 * u.1 14) (hg : NR g) (h47 : u.1 11 ≤ 47) : Cn yX5_takeIn (wsy yX5_takeIn cX5_takeIn 3 (some .int)) 7 1 73 nwG [vR (some 1006), vR (some (3000 + p))] (mk u v g) (.inl (some (vI (tiR u p)), mk (tiM u p) v g)) := by
  refine con_k2 (lv := [(0, vR (some 1006)), (1, vR (some (3000 + p)))]) (by decide) (by unfold nwG; decide) (fun ad => Nat.le_of_ble_eq_true rfl) (fun ad => rfl) rfl ?_
  intro k C hr hkG hlv hmc hms hw hPo hPx htab
  have i9 := I.s9
  have ip := I.a22 p
  have hB := tiB_I I p
  have h48 := pg48 I hp
  have i11 := I.s11
  have j11 := hB.1.s11
  refine ev_s C dX5_takeIn_0 (q := 1) rfl rfl ?_
  refine cgp_2 C dX5_takeIn_1 kf_X5_32 (q := 4) rfl (by first | exact hp | (show (p : Int) < 8 * (tiB u p).1 14; omega) | (show (p : Int) < 8 * (oaM (tiB u p) p).1 14; rw [oaM_S (by decide) (by decide) (by decide)]; omega)) ?_
  refine ev_s C dX5_takeIn_4 (q := 5) rfl rfl ?_
  refine cg_1006_1 C dX5_takeIn_5 kf_X5_18 (q := 8) rfl ?_
  refine ev_icmp_le C dX5_takeIn_8 (tgt := 19) (q := 11) (by decide) rfl (by first | decide | (unfold rg; omega) | assumption | exact bAnd_rg _ _) (by first | decide | (unfold rg; omega) | assumption | exact bAnd_rg _ _) (fun b0 => ?_) (fun b0 => ?_)
  · refine ev_s C dX5_takeIn_19 (q := 20) rfl rfl ?_
    refine ev_s C dX5_takeIn_20 (q := 21) rfl rfl ?_
    refine cgp_2 C dX5_takeIn_21 kf_X5_32 (q := 24) rfl (by first | exact hp | (show (p : Int) < 8 * (tiB u p).1 14; omega) | (show (p : Int) < 8 * (oaM (tiB u p) p).1 14; rw [oaM_S (by decide) (by decide) (by decide)]; omega)) ?_
    refine ev_cV C dX5_takeIn_24 (q := 27) rfl km_X5_38 kv_X5_makeRoomFor kc_X5_makeRoomFor (c_X5_makeRoomFor I (by omega)) rfl rfl vcX5 rfl (by rw [hlv]; first | decide | omega) (by decide) (Nat.le_of_ble_eq_true rfl) (by first | exact Nat.zero_le _ | (rw [hmc]; decide) | (rw [hmc]; omega)) (by first | exact Nat.zero_le _ | (rw [hms]; decide) | (rw [hms]; omega)) ?_
    refine ev_s C dX5_takeIn_27 (q := 28) rfl rfl ?_
    refine ev_s C dX5_takeIn_28 (q := 29) rfl rfl ?_
    refine cg_1006_0 C dX5_takeIn_29 kf_X5_12 (q := 32) rfl ?_
    refine ev_s C dX5_takeIn_32 (q := 33) rfl rfl ?_
    refine ev_cVn C dX5_takeIn_33 (q := 36) rfl km_X5_42 kv_Jx4a65c_add_9ea2d kc_Jx4a65c_add_9ea2d (c_add hB.1 hg (p := p) (by omega)) rfl rfl vcJx4a65c rfl (by rw [hlv]; first | decide | omega) (by decide) (Nat.le_of_ble_eq_true rfl) (by first | exact Nat.zero_le _ | (rw [hmc]; decide) | (rw [hmc]; omega)) (by first | exact Nat.zero_le _ | (rw [hms]; decide) | (rw [hms]; omega)) (by rw [hw]; exact fun _ h => h) (by repeat' (first | exact nvA_0 | exact nvB_0 | apply nvA_c | apply nvB_c | exact nv_I | exact nv_L | exact nv_N | exact nv_R (by unfold nwG; omega) | exact nv_I' | exact nv_L' | exact nv_N' | exact nv_R' (by unfold nwG; omega))) (by repeat' (first | exact nvA_0 | exact nvB_0 | apply nvA_c | apply nvB_c | exact nv_I | exact nv_L | exact nv_N | exact nv_R (by unfold nwG; omega) | exact nv_I' | exact nv_L' | exact nv_N' | exact nv_R' (by unfold nwG; omega))) ?_
    refine ev_s C dX5_takeIn_36 (q := 37) rfl rfl ?_
    refine ev_s C dX5_takeIn_37 (q := 38) rfl rfl ?_
    refine ev_s C dX5_takeIn_38 (q := 40) rfl rfl ?_
    refine ev_cV C dX5_takeIn_40 (q := 43) rfl km_X5_34 kv_X2_moveTo kc_X2_moveTo (c_X2_moveTo (u := oaM (tiB u p) p) (CI_oa hB.1 (by omega) (by omega)) (by rw [oaM_S (by decide) (by decide) (by decide)]; omega) (by decide)) rfl rfl vcX2 (gp_ (by first | exact hp | (show (p : Int) < 8 * (tiB u p).1 14; omega) | (show (p : Int) < 8 * (oaM (tiB u p) p).1 14; rw [oaM_S (by decide) (by decide) (by decide)]; omega))) (by rw [hlv]; first | decide | omega) (by decide) (Nat.le_of_ble_eq_true rfl) (by first | exact Nat.zero_le _ | (rw [hmc]; decide) | (rw [hmc]; omega)) (by first | exact Nat.zero_le _ | (rw [hms]; decide) | (rw [hms]; omega)) ?_
    refine ev_s C dX5_takeIn_43 (q := 44) rfl rfl ?_
    refine ev_s C dX5_takeIn_44 (q := 45) rfl rfl ?_
    refine ev_s C dX5_takeIn_45 (q := 46) rfl rfl ?_
    refine ev_s C dX5_takeIn_46 (q := 47) rfl rfl ?_
    refine ev_s C dX5_takeIn_47 (q := 48) rfl rfl ?_
    exact ev_iret C hr dX5_takeIn_48 (by rw [hmc]; decide) (by rw [hms]; omega) (po_1 hPo (by unfold tiR; rw [if_neg (by omega)]; rfl) (by unfold tiM; first | (rw [if_pos (by omega)]; done) | (rw [if_neg (by omega)]; done) | (rw [if_neg (by omega)]; rfl)))
  · refine ev_s C dX5_takeIn_11 (q := 12) rfl rfl ?_
    refine ev_s C dX5_takeIn_12 (q := 14) rfl rfl ?_
    refine ev_cV C dX5_takeIn_14 (q := 17) rfl km_X5_34 kv_X2_moveTo kc_X2_moveTo (c_X2_moveTo I hp (by decide)) rfl rfl vcX2 (gp_ (by first | exact hp | (show (p : Int) < 8 * (tiB u p).1 14; omega) | (show (p : Int) < 8 * (oaM (tiB u p) p).1 14; rw [oaM_S (by decide) (by decide) (by decide)]; omega))) (by rw [hlv]; first | decide | omega) (by decide) (Nat.le_of_ble_eq_true rfl) (by first | exact Nat.zero_le _ | (rw [hmc]; decide) | (rw [hmc]; omega)) (by first | exact Nat.zero_le _ | (rw [hms]; decide) | (rw [hms]; omega)) ?_
    refine ev_s C dX5_takeIn_17 (q := 18) rfl rfl ?_
    exact ev_iret C hr dX5_takeIn_18 (by rw [hmc]; decide) (by rw [hms]; omega) (po_1 hPo (by unfold tiR; rw [if_pos (by omega)]) (by unfold tiM; first | (rw [if_pos (by omega)]; done) | (rw [if_neg (by omega)]; done) | (rw [if_neg (by omega)]; rfl)))
def odP (u : SS) (p : Nat) (j : Nat) : Bool := decide (u.2 3 j = (p : Int))
def drI (u : SS) (p : Nat) : Int := fnd (odP u p) (u.1 11).toNat
def drM (u : SS) (p : Nat) : SS := if 0 ≤ drI u p then orM u (drI u p).toNat else u
set_option maxHeartbeats 4000000 in
set_option maxRecDepth 100000 in
theorem l_X5_drop {k : Kx} (C : CX k RX5 cX5_drop 3) (hlv : klev k = 3) {u v : SS} {g : GH} (I : CI u) {p N : Nat} (hN : u.1 11 = (N : Int)) (hr : (kmeth k).sig.returnType = none) {w : SS} (hPo : kPo k = PoR (.inl (none, mk w v g))) (h1w : 0 ≤ fnd (odP u p) N → w = orM u (fnd (odP u p) N).toNat) (h2w : fnd (odP u p) N < 0 → w = u) : ∀ (m z : Nat), z ≤ N → N < z + m → (∀ j, j < z → odP u p j = false) → EV k 2 [(0, vR (some 1006)), (1, vR (some (3000 + p))), (2, vI (z : Int))] [] (mk u v g) 0 0 := by
  intro m
  induction m with
  | zero =>
    intros
    exfalso
    omega
  | succ m ih =>
    intro z h1 h2 h3
    have i11 := I.s11
    refine ev_s C dX5_drop_2 (q := 3) rfl rfl ?_
    refine ev_s C dX5_drop_3 (q := 4) rfl rfl ?_
    refine cg_1006_0 C dX5_drop_4 kf_X5_12 (q := 7) rfl ?_
    refine ev_cV C dX5_drop_7 (q := 10) rfl km_X5_22 kv_Jx4a65c_size_8abf5 kc_Jx4a65c_size_8abf5 (c_size_o) rfl rfl vcJx4a65c rfl (by rw [hlv]; first | decide | omega) (by decide) (Nat.le_of_ble_eq_true rfl) (by first | exact Nat.zero_le _ | (rw [hmc]; decide) | (rw [hmc]; omega)) (by first | exact Nat.zero_le _ | (rw [hms]; decide) | (rw [hms]; omega)) ?_
    refine ev_icmp_ge C dX5_drop_10 (tgt := 41) (q := 13) (by decide) rfl (by first | decide | (unfold rg; omega) | assumption | exact bAnd_rg _ _) (by first | decide | (unfold rg; omega) | assumption | exact bAnd_rg _ _) (fun b0 => ?_) (fun b0 => ?_)
    · exact ev_vret C hr dX5_drop_41 (Nat.zero_le _) (Nat.zero_le _) (po_0 hPo (by first | rfl | ((obtain rfl : z = N := (by omega)); rw [h2w (by rw [fnd_none h3]; decide)])))
    · refine ev_s C dX5_drop_13 (q := 14) rfl rfl ?_
      refine cg_1006_0 C dX5_drop_14 kf_X5_12 (q := 17) rfl ?_
      refine ev_s C dX5_drop_17 (q := 18) rfl rfl ?_
      refine ev_cV C dX5_drop_18 (q := 21) rfl km_X5_26 kv_Jx4a65c_get_915e3 kc_Jx4a65c_get_915e3 (c_get_o I (i := z) (by omega)) rfl rfl vcJx4a65c rfl (by rw [hlv]; first | decide | omega) (by decide) (Nat.le_of_ble_eq_true rfl) (by first | exact Nat.zero_le _ | (rw [hmc]; decide) | (rw [hmc]; omega)) (by first | exact Nat.zero_le _ | (rw [hms]; decide) | (rw [hms]; omega)) ?_
      refine ev_s C dX5_drop_21 (q := 22) rfl rfl ?_
      refine ev_acmp_ne C dX5_drop_22 (tgt := 35) (q := 25) (by decide) rfl (fun n h => by cases h; omega) (fun n h => by cases h; omega) (fun b1 => ?_) (fun b1 => ?_)
      · have h9 : ¬ u.2 3 z = (p : Int) := fun e => b1 (by rw [e]; rfl)
        refine ev_s C dX5_drop_35 (q := 38) rfl rfl ?_
        refine ev_goto C dX5_drop_38 (tgt := 2) (by decide) ?_
        exact ih (z + 1) (by omega) (by omega) (fun j hj => by
          by_cases e : j = z
          · subst e; unfold odP; exact decide_eq_false h9
          · exact h3 j (by omega))
      · have h9 : u.2 3 z = (p : Int) := by have h8 := Option.some.inj b1; have := I.on (j := z) (by omega); omega
        have h10 : fnd (odP u p) N = z := fnd_hit (z := z) h3 (decide_eq_true h9) (by omega)
        have h11 := h1w (by omega)
        rw [h10] at h11
        subst h11
        refine ev_s C dX5_drop_25 (q := 26) rfl rfl ?_
        refine cg_1006_0 C dX5_drop_26 kf_X5_12 (q := 29) rfl ?_
        refine ev_s C dX5_drop_29 (q := 30) rfl rfl ?_
        refine ev_cV C dX5_drop_30 (q := 33) rfl km_X5_49 kv_Jx4a65c_remove_915e3 kc_Jx4a65c_remove_915e3 (c_remove I (i := z) (by omega)) rfl rfl vcJx4a65c rfl (by rw [hlv]; first | decide | omega) (by decide) (Nat.le_of_ble_eq_true rfl) (by first | exact Nat.zero_le _ | (rw [hmc]; decide) | (rw [hmc]; omega)) (by first | exact Nat.zero_le _ | (rw [hms]; decide) | (rw [hms]; omega)) ?_
        refine ev_s C dX5_drop_33 (q := 34) rfl rfl ?_
        exact ev_vret C hr dX5_drop_34 (Nat.zero_le _) (Nat.zero_le _) (po_0 hPo (by first | rfl | ((obtain rfl : z = N := (by omega)); rw [h2w (by rw [fnd_none h3]; decide)])))
set_option maxHeartbeats 4000000 in
set_option maxRecDepth 100000 in
theorem c_X5_drop {u v : SS} {g : GH} (I : CI u) {p : Nat} : Cn yX5_drop (wsy yX5_drop cX5_drop 3 none) 3 0 0 nn [vR (some 1006), vR (some (3000 + p))] (mk u v g) (.inl (none, mk (drM u p) v g)) := by
  refine con_j (lv := [(0, vR (some 1006)), (1, vR (some (3000 + p)))]) (by decide) (fun ad => Nat.le_of_ble_eq_true rfl) (fun ad => rfl) rfl ?_
  intro k C hr hlv hmc hms hPo hPx htab
  refine ev_s C dX5_drop_0 (q := 1) rfl rfl ?_
  refine ev_s C dX5_drop_1 (q := 2) rfl rfl ?_
  have i11 := I.s11
  exact l_X5_drop C hlv I (N := (u.1 11).toNat) (by omega) hr hPo (fun h => by unfold drM drI; rw [if_pos h]) (fun h => by unfold drM drI; rw [if_neg (by omega)]) ((u.1 11).toNat + 1) 0 (Nat.zero_le _) (by omega) (fun j hj => absurd hj (Nat.not_lt_zero _))
theorem drI_b (u : SS) (p : Nat) : drI u p < (u.1 11).toNat := by have := fnd_bd (p := odP u p) (u.1 11).toNat; unfold drI; omega
theorem CI_dr {u : SS} (I : CI u) (p : Nat) : CI (drM u p) := by
  have h := drI_b u p
  have i11 := I.s11
  unfold drM
  split
  · exact CI_or I (by omega)
  · exact I
theorem drM_S {u : SS} {p s : Nat} (h1 : s ≠ 10) (h2 : s ≠ 11) : (drM u p).1 s = u.1 s := by
  unfold drM
  split
  · exact orM_S h1 h2
  · rfl
theorem drM_A {u : SS} {p a j : Nat} (h : a ≠ 3) : (drM u p).2 a j = u.2 a j := by
  unfold drM
  split
  · rw [orM_A h]
  · rfl
theorem drM_11 {u : SS} {p : Nat} : (drM u p).1 11 ≤ u.1 11 := by
  unfold drM
  split
  · show u.1 11 - 1 ≤ u.1 11; omega
  · exact Int.le_refl _
def sfC (c : Int) : Int := if c = 100 then 10 else if c = 115 then 2 else 1
def detM (u : SS) (p : Nat) : SS := if u.2 23 p = 102 then stA u 2 (u.2 24 p).toNat (-1) else if u.2 23 p = 115 then drM u p else u
theorem CI_det {u : SS} (I : CI u) (p : Nat) : CI (detM u p) := by
  unfold detM
  have i14 := I.s14
  split
  · exact CI_A2 I (by omega)
  · split
    · exact CI_dr I p
    · exact I
theorem detM_S {u : SS} {p s : Nat} (h1 : s ≠ 10) (h2 : s ≠ 11) : (detM u p).1 s = u.1 s := by
  unfold detM
  split
  · rfl
  · split
    · exact drM_S h1 h2
    · rfl
theorem detM_11 {u : SS} {p : Nat} : (detM u p).1 11 ≤ u.1 11 := by
  unfold detM
  split
  · exact Int.le_refl _
  · split
    · exact drM_11
    · exact Int.le_refl _
theorem detM_A {u : SS} {p a j : Nat} (h : a ≠ 3) (h2 : a ≠ 2) : (detM u p).2 a j = u.2 a j := by
  unfold detM
  split
  · rw [stA_2, if_neg h2]
  · split
    · exact drM_A h
    · rfl
set_option maxHeartbeats 4000000 in
set_option maxRecDepth 100000 in
theorem c_X6_stallsFrom {G : GH} {c : Int} (hc : rg c) : Cn yX6_stallsFrom (wsy yX6_stallsFrom cX6_stallsFrom 1 (some .int)) 0 0 0 nn [vI c] G (.inl (some (vI (sfC c)), G)) := by
  refine con_j (lv := [(0, vI c)]) (by decide) (fun ad => Nat.le_of_ble_eq_true rfl) (fun ad => rfl) rfl ?_
  intro k C hr hlv hmc hms hPo hPx htab
  refine ev_s C dX6_stallsFrom_0 (q := 1) rfl rfl ?_
  refine ev_s C dX6_stallsFrom_1 (q := 3) rfl rfl ?_
  refine ev_icmp_ne C dX6_stallsFrom_3 (tgt := 9) (q := 6) (by decide) rfl (by first | decide | (unfold rg; omega) | assumption | exact bAnd_rg _ _) (by first | decide | (unfold rg; omega) | assumption | exact bAnd_rg _ _) (fun b0 => ?_) (fun b0 => ?_)
  · refine ev_s C dX6_stallsFrom_9 (q := 10) rfl rfl ?_
    refine ev_s C dX6_stallsFrom_10 (q := 12) rfl rfl ?_
    refine ev_icmp_ne C dX6_stallsFrom_12 (tgt := 19) (q := 15) (by decide) rfl (by first | decide | (unfold rg; omega) | assumption | exact bAnd_rg _ _) (by first | decide | (unfold rg; omega) | assumption | exact bAnd_rg _ _) (fun b1 => ?_) (fun b1 => ?_)
    · refine ev_s C dX6_stallsFrom_19 (q := 20) rfl rfl ?_
      exact ev_iret C hr dX6_stallsFrom_20 (Nat.zero_le _) (Nat.zero_le _) (po_1 hPo (by unfold sfC; simp [*]) rfl)
    · refine ev_s C dX6_stallsFrom_15 (q := 16) rfl rfl ?_
      refine ev_goto C dX6_stallsFrom_16 (tgt := 20) (by decide) ?_
      exact ev_iret C hr dX6_stallsFrom_20 (Nat.zero_le _) (Nat.zero_le _) (po_1 hPo (by unfold sfC; simp [*]) rfl)
  · refine ev_s C dX6_stallsFrom_6 (q := 8) rfl rfl ?_
    exact ev_iret C hr dX6_stallsFrom_8 (Nat.zero_le _) (Nat.zero_le _) (po_1 hPo (by unfold sfC; simp [*]) rfl)
set_option maxHeartbeats 4000000 in
set_option maxRecDepth 100000 in
theorem c_X6_detach {u v : SS} {g : GH} (I : CI u) {p : Nat} (hp : (p : Int) < 8 * u.1 14) (hf : u.2 23 p = 102 → 0 ≤ u.2 24 p) : Cn yX6_detach (wsy yX6_detach cX6_detach 2 none) 4 0 0 nn [vR (some 1000), vR (some (3000 + p))] (mk u v g) (.inl (none, mk (detM u p) v g)) := by
  refine con_j (lv := [(0, vR (some 1000)), (1, vR (some (3000 + p)))]) (by decide) (fun ad => Nat.le_of_ble_eq_true rfl) (fun ad => rfl) rfl ?_
  intro k C hr hlv hmc hms hPo hPx htab
  have ic := I.a23 p
  have if4 := I.a24 p
  have i14 := I.s14
  refine ev_s C dX6_detach_0 (q := 1) rfl rfl ?_
  refine cgp_3 C dX6_detach_1 kf_X6_112 (q := 4) rfl (by show (_ : Int) < 8 * u.1 14; omega) ?_
  refine ev_s C dX6_detach_4 (q := 6) rfl rfl ?_
  refine ev_icmp_ne C dX6_detach_6 (tgt := 24) (q := 9) (by decide) rfl (by first | decide | (unfold rg; omega)) (by first | decide | (unfold rg; omega)) (fun b0 => ?_) (fun b0 => ?_)
  · refine ev_s C dX6_detach_24 (q := 25) rfl rfl ?_
    refine cgp_3 C dX6_detach_25 kf_X6_112 (q := 28) rfl (by show (_ : Int) < 8 * u.1 14; omega) ?_
    refine ev_s C dX6_detach_28 (q := 30) rfl rfl ?_
    refine ev_icmp_ne C dX6_detach_30 (tgt := 41) (q := 33) (by decide) rfl (by first | decide | (unfold rg; omega)) (by first | decide | (unfold rg; omega)) (fun b1 => ?_) (fun b1 => ?_)
    · exact ev_vret C hr dX6_detach_41 (Nat.zero_le _) (Nat.zero_le _) (po_0 hPo (by unfold detM; simp [*]))
    · refine ev_s C dX6_detach_33 (q := 34) rfl rfl ?_
      refine cg_1000_2 C dX6_detach_34 kf_X6_26 (q := 37) rfl ?_
      refine ev_s C dX6_detach_37 (q := 38) rfl rfl ?_
      refine ev_cV C dX6_detach_38 (q := 41) rfl km_X6_302 kv_X5_drop kc_X5_drop (c_X5_drop I) rfl rfl vcX5 rfl (by rw [hlv]; first | decide | omega) (by decide) (Nat.le_of_ble_eq_true rfl) (by first | exact Nat.zero_le _ | (rw [hmc]; decide) | (rw [hmc]; omega)) (by first | exact Nat.zero_le _ | (rw [hms]; decide) | (rw [hms]; omega)) ?_
      exact ev_vret C hr dX6_detach_41 (Nat.zero_le _) (Nat.zero_le _) (po_0 hPo (by unfold detM; simp [*]))
  · refine ev_s C dX6_detach_9 (q := 10) rfl rfl ?_
    refine cg_1000_1 C dX6_detach_10 kf_X6_19 (q := 13) rfl ?_
    refine ev_s C dX6_detach_13 (q := 14) rfl rfl ?_
    refine cgp_4 C dX6_detach_14 kf_X6_183 (q := 17) rfl (by show (_ : Int) < 8 * u.1 14; omega) ?_
    have h0 := hf (by assumption)
    refine ev_eqS (st := [vI (((u.2 24 p).toNat : Nat) : Int), vR (some 1004)]) (by rw [Int.toNat_of_nonneg h0]) ?_
    refine ev_cV C dX6_detach_17 (q := 20) rfl km_X6_125 kv_X0_takeOut kc_X0_takeOut (c_X0_takeOut I (f := (u.2 24 p).toNat) (by omega)) rfl rfl vcX0 rfl (by rw [hlv]; first | decide | omega) (by decide) (Nat.le_of_ble_eq_true rfl) (by first | exact Nat.zero_le _ | (rw [hmc]; decide) | (rw [hmc]; omega)) (by first | exact Nat.zero_le _ | (rw [hms]; decide) | (rw [hms]; omega)) ?_
    refine ev_s C dX6_detach_20 (q := 21) rfl rfl ?_
    refine ev_goto C dX6_detach_21 (tgt := 41) (by decide) ?_
    exact ev_vret C hr dX6_detach_41 (Nat.zero_le _) (Nat.zero_le _) (po_0 hPo (by unfold detM; simp [*]))
def cf0 (u : SS) : SS := ckM (cki 17 u)
def cfP (u : SS) : Nat := hdP (cki 17 u)
def cfM (u : SS) : SS := tiM (cf0 u) (cfP u)
def cfR (u : SS) : Int := tiR (cf0 u) (cfP u)
def cfH (u : SS) : Nat := ((cki 17 u).1 8).toNat
theorem cki_ok {u : SS} (I : CI u) (hh : u.1 8 < u.1 7) : CI (cki 17 u) ∧ (cki 17 u).1 8 < (cki 17 u).1 7 ∧ (cki 17 u).2 25 (hdP (cki 17 u)) = 0 := by
  have hb := rfC_bd I
  have i7 := I.s7
  exact cki_I 17 u I hh (by omega)
theorem cf0_S {u : SS} {s : Nat} (h : s ≠ 8) : (cf0 u).1 s = u.1 s := by
  show (ck1 _).1 s = _
  rw [ck1_S h, cki_S h]
theorem cf0_A {u : SS} {a j : Nat} (h1 : a ≠ 25) (h2 : a ≠ 2) : (cf0 u).2 a j = u.2 a j := by
  show (stA (ck1 _) 2 _ _).2 a j = _
  rw [stA_2, if_neg h2, ck1_A h1, cki_A h1]
theorem cf0_2 {u : SS} {j : Nat} : (cf0 u).2 2 j = if j = cfH u then -1 else u.2 2 j := by
  show (stA (ck1 _) 2 _ _).2 2 j = _
  rw [stA_2, if_pos rfl, ck1_A (by decide), cki_A (by decide)]
  rfl
theorem CI_cf0 {u : SS} (I : CI u) (hh : u.1 8 < u.1 7) : CI (cf0 u) := by
  have h := cki_ok I hh
  have i14 := (CI_ck1 h.1 h.2.1).s14
  exact CI_A2 (CI_ck1 h.1 h.2.1) (by omega)
theorem cfP_b {u : SS} (I : CI u) (hh : u.1 8 < u.1 7) (hal : ∀ f : Nat, (f : Int) < u.1 7 → 0 ≤ u.2 2 f) : ((cfP u : Nat) : Int) < 8 * u.1 14 ∧ ((cfH u : Nat) : Int) < u.1 7 ∧ u.2 2 (cfH u) = ((cfP u : Nat) : Int) := by
  have h := cki_ok I hh
  have i8 := h.1.s8
  have e7 : (cki 17 u).1 7 = u.1 7 := cki_S (by decide) _ _
  have e2 : (cki 17 u).2 2 (cfH u) = u.2 2 (cfH u) := cki_A (by decide) _ _
  have hH : ((cfH u : Nat) : Int) < u.1 7 := by unfold cfH; omega
  have h0 := hal (cfH u) hH
  have h1 := I.hd (cfH u)
  have e : cfP u = (u.2 2 (cfH u)).toNat := by rw [← e2]; rfl
  refine ⟨by omega, hH, by omega⟩
set_option maxHeartbeats 4000000 in
set_option maxRecDepth 100000 in
theorem c_X6_clearFrame {u v : SS} {g : GH} (I : CI u) (hh : u.1 8 < u.1 7) (hal : ∀ f : Nat, (f : Int) < u.1 7 → 0 ≤ u.2 2 f) (hg : NR g) (h47 : u.1 11 ≤ 47) : Cn yX6_clearFrame (wsy yX6_clearFrame cX6_clearFrame 2 (some .int)) 8 1 73 nwG [vR (some 1000)] (mk u v g) (.inl (some (vI (cfR u)), mk (cfM u) v g)) := by
  refine con_k2 (lv := [(0, vR (some 1000))]) (by decide) (by unfold nwG; decide) (fun ad => Nat.le_of_ble_eq_true rfl) (fun ad => rfl) rfl ?_
  intro k C hr hkG hlv hmc hms hw hPo hPx htab
  have hC := CI_cf0 I hh
  have hP := cfP_b I hh hal
  refine ev_s C dX6_clearFrame_0 (q := 1) rfl rfl ?_
  refine cg_1000_1 C dX6_clearFrame_1 kf_X6_19 (q := 4) rfl ?_
  refine ev_cV C dX6_clearFrame_4 (q := 7) rfl km_X6_305 kv_X0_takeOutByClock kc_X0_takeOutByClock (c_X0_takeOutByClock I hh hal) rfl rfl vcX0 rfl (by rw [hlv]; first | decide | omega) (by decide) (Nat.le_of_ble_eq_true rfl) (by first | exact Nat.zero_le _ | (rw [hmc]; decide) | (rw [hmc]; omega)) (by first | exact Nat.zero_le _ | (rw [hms]; decide) | (rw [hms]; omega)) ?_
  refine ev_s C dX6_clearFrame_7 (q := 8) rfl rfl ?_
  refine ev_s C dX6_clearFrame_8 (q := 9) rfl rfl ?_
  refine ev_ifnonnull C dX6_clearFrame_9 (tgt := 16) (q := 12) (by decide) rfl (fun _ => ?_) (fun h => nomatch h)
  refine ev_s C dX6_clearFrame_16 (q := 17) rfl rfl ?_
  refine cg_1000_2 C dX6_clearFrame_17 kf_X6_26 (q := 20) rfl ?_
  refine ev_s C dX6_clearFrame_20 (q := 21) rfl rfl ?_
  refine ev_cVn C dX6_clearFrame_21 (q := 24) rfl km_X6_129 kv_X5_takeIn kc_X5_takeIn (c_X5_takeIn (u := cf0 u) (p := cfP u) hC (by rw [cf0_S (by decide)]; exact hP.1) hg (by rw [cf0_S (by decide)]; exact h47)) rfl rfl vcX5 rfl (by rw [hlv]; first | decide | omega) (by decide) (Nat.le_of_ble_eq_true rfl) (by first | exact Nat.zero_le _ | (rw [hmc]; decide) | (rw [hmc]; omega)) (by first | exact Nat.zero_le _ | (rw [hms]; decide) | (rw [hms]; omega)) (by rw [hw]; exact fun _ h => h) (by repeat' (first | exact nvA_0 | exact nvB_0 | apply nvA_c | apply nvB_c | exact nv_I | exact nv_L | exact nv_N | exact nv_R (by unfold nwG; omega) | exact nv_I' | exact nv_L' | exact nv_N' | exact nv_R' (by unfold nwG; omega))) (by repeat' (first | exact nvA_0 | exact nvB_0 | apply nvA_c | apply nvB_c | exact nv_I | exact nv_L | exact nv_N | exact nv_R (by unfold nwG; omega) | exact nv_I' | exact nv_L' | exact nv_N' | exact nv_R' (by unfold nwG; omega))) ?_
  exact ev_iret C hr dX6_clearFrame_24 (by rw [hmc]; decide) (by rw [hms]; omega) (po_1 hPo rfl rfl)
