/-! THE CLASS: settings, needs, plain questions -/
def sf1 (u : SS) (z : Nat) : SS := if u.2 2 z < 0 then stA u 2 z (-1) else tiM (stA u 2 z (-1)) (u.2 2 z).toNat
def sfL : Nat → Nat → SS → SS
  | 0, _, u => u
  | m + 1, z, u => sfL m (z + 1) (sf1 u z)
theorem sfL_s {m z : Nat} {u : SS} : sfL (m + 1) z u = sfL m (z + 1) (sf1 u z) := rfl
def cocc (u : SS) : Int := sumN 16 (fun f => bI (decide (0 ≤ u.2 2 f)))
theorem oaM_11 {u : SS} {p : Int} : (oaM u p).1 11 = u.1 11 + 1 := rfl
theorem tiM_11 {u : SS} (I : CI u) (p : Nat) : (tiM u p).1 11 ≤ u.1 11 + 1 := by
  have h := tiB_I I p
  unfold tiM
  split
  · rw [mvM_S (by decide)]; omega
  · rw [mvM_S (by decide), oaM_11]; omega
theorem sumN_c' {p q : Nat → Int} : ∀ {N : Nat}, (∀ z, z < N → p z = q z) → sumN N p = sumN N q := sumN_c
theorem sumN_u' {p q : Nat → Int} {z : Nat} : ∀ {N : Nat}, z < N → (∀ j, j < N → j ≠ z → q j = p j) → sumN N q = sumN N p + (q z - p z)
  | 0, h, _ => absurd h (Nat.not_lt_zero _)
  | N + 1, h, h0 => by
    unfold sumN
    by_cases e : z = N
    · subst e
      rw [sumN_c (fun j hj => h0 j (by omega) (by omega))]
      omega
    · rw [sumN_u' (z := z) (N := N) (by omega) (fun j hj hn => h0 j (by omega) hn), h0 N (by omega) (by omega)]
      omega
theorem sumN_nn {p : Nat → Int} : ∀ {N : Nat}, (∀ z, z < N → 0 ≤ p z) → 0 ≤ sumN N p
  | 0, _ => Int.le_refl _
  | N + 1, h => by
    have h1 := sumN_nn (N := N) (fun z hz => h z (by omega))
    have h2 := h N (by omega)
    unfold sumN
    omega
theorem cocc_out {u : SS} {z : Nat} (hz : z < 16) (h : 0 ≤ u.2 2 z) : cocc (stA u 2 z (-1)) = cocc u - 1 ∧ 1 ≤ cocc u := by
  have h1 := sumN_u' (p := fun f => bI (decide (0 ≤ u.2 2 f))) (q := fun f => bI (decide (0 ≤ (stA u 2 z (-1)).2 2 f))) (z := z) (N := 16) hz (fun j _ hn => by
    show bI (decide (0 ≤ (stA u 2 z (-1)).2 2 j)) = _
    rw [stA_2, if_pos rfl, if_neg hn])
  have e : (stA u 2 z (-1)).2 2 z = -1 := by rw [stA_2, if_pos rfl, if_pos rfl]
  have e1 : bI (decide (0 ≤ (stA u 2 z (-1)).2 2 z)) = 0 := by rw [e]; decide
  have e2 : bI (decide (0 ≤ u.2 2 z)) = 1 := by rw [decide_eq_true h]; rfl
  have h0 : 0 ≤ cocc (stA u 2 z (-1)) := sumN_nn fun j _ => by have := bI_01 (decide (0 ≤ (stA u 2 z (-1)).2 2 j)); show 0 ≤ bI _; omega
  unfold cocc at h0 ⊢
  rw [h1] at h0 ⊢
  simp only [e1, e2] at h0 ⊢
  omega
theorem cocc_same {u w : SS} (h : ∀ j, w.2 2 j = u.2 2 j) : cocc w = cocc u := sumN_c fun z _ => by show bI (decide (0 ≤ w.2 2 z)) = _; rw [h z]
theorem cocc_non {u : SS} {z : Nat} (h : u.2 2 z < 0) : cocc (stA u 2 z (-1)) = cocc u := sumN_c fun j _ => by
  show bI (decide (0 ≤ (stA u 2 z (-1)).2 2 j)) = _
  rw [stA_2, if_pos rfl]
  by_cases e : j = z
  · rw [if_pos e, e, decide_eq_false (show ¬ 0 ≤ u.2 2 z by omega)]; rfl
  · rw [if_neg e]
theorem sf1_I {u : SS} {z : Nat} (I : CI u) (hz : z < 16) (ho : u.1 11 + cocc u ≤ 48) : CI (sf1 u z) ∧ (sf1 u z).1 11 + cocc (sf1 u z) ≤ 48 ∧ (sf1 u z).1 7 = u.1 7 ∧ (sf1 u z).1 14 = u.1 14 := by
  have i14 := I.s14
  have J : CI (stA u 2 z (-1)) := CI_A2 I (by omega)
  have hd := I.hd z
  unfold sf1
  by_cases h : u.2 2 z < 0
  · rw [if_pos h, cocc_non h]
    exact ⟨J, ho, rfl, rfl⟩
  · rw [if_neg h]
    have h1 := cocc_out (u := u) hz (by omega)
    have h2 := tiM_11 J (u.2 2 z).toNat
    have h3 : cocc (tiM (stA u 2 z (-1)) (u.2 2 z).toNat) = cocc (stA u 2 z (-1)) := cocc_same fun j => tiM_A (by decide) (by decide) (by decide) (by decide) (by decide)
    have h4 : (stA u 2 z (-1)).1 11 = u.1 11 := rfl
    exact ⟨CI_ti J (by show (((u.2 2 z).toNat : Nat) : Int) < 8 * u.1 14; omega) (by show u.1 11 ≤ 47; omega), by omega, tiM_S (by decide) (by decide) (by decide) (by decide), tiM_S (by decide) (by decide) (by decide) (by decide)⟩
theorem sfL_I : ∀ (m z : Nat) (u : SS), CI u → z + m ≤ 16 → u.1 11 + cocc u ≤ 48 → CI (sfL m z u) ∧ (sfL m z u).1 11 + cocc (sfL m z u) ≤ 48 ∧ (sfL m z u).1 7 = u.1 7 ∧ (sfL m z u).1 14 = u.1 14
  | 0, _, u, I, _, h => ⟨I, h, rfl, rfl⟩
  | m + 1, z, u, I, hz, h => by
    rw [sfL_s]
    have h1 := sf1_I (z := z) I (by omega) h
    have h2 := sfL_I m (z + 1) (sf1 u z) h1.1 (by omega) h1.2.1
    exact ⟨h2.1, h2.2.1, h2.2.2.1.trans h1.2.2.1, h2.2.2.2.trans h1.2.2.2⟩
def sfC' (u : SS) (n : Int) : SS := rsM (sfL ((u.1 7).toNat - n.toNat) n.toNat u) n
theorem CI_rs {u : SS} {n : Int} (I : CI u) (hn : 1 ≤ n ∧ n ≤ 16) : CI (rsM u n) := by
  have J : CI (stS u 7 n) := CI_S I (Or.inr (Or.inr (by show 1 ≤ n ∧ n ≤ 16; exact hn))) (by decide) (by decide) (by decide) (by decide)
  unfold rsM
  split
  · exact CI_S J (Or.inr (Or.inr (by decide))) (by decide) (by decide) (by decide) (by decide)
  · exact J
set_option maxHeartbeats 4000000 in
set_option maxRecDepth 100000 in
theorem l_X6_setFrames {k : Kx} (C : CX k RX6 cX6_setFrames 5) (hlv : klev k = 8) {v : SS} {g : GH} (hg : NR g) {x : Int} {W : Nat} (hW : W ≤ 16) (hmc : kmc k = 32) (hms : kms k = 2400) (hw : knw k = nwG) : ∀ (m z : Nat) (u : SS) (ct sl : Nat), z ≤ W → m = W - z + 1 → CI u → u.1 11 + cocc u ≤ 48 → ct + m ≤ 17 → sl + 73 * m ≤ 1241 → (∀ ct1 sl1, ct1 ≤ 17 → sl1 ≤ 1241 → EV k 53 [(0, vR (some 1000)), (1, vI x), (2, vI (W : Int)), (3, vI (W : Int))] [] (mk (sfL (W - z) z u) v g) ct1 sl1) → EV k 17 [(0, vR (some 1000)), (1, vI x), (2, vI (W : Int)), (3, vI (z : Int))] [] (mk u v g) ct sl := by
  intro m
  induction m with
  | zero =>
    intro z u ct sl h1 hm
    exfalso
    omega
  | succ m ih =>
    intro z u ct sl h1 hm I ho hct hsl kx
    have i14 := I.s14
    have i7 := I.s7
    refine ev_s C dX6_setFrames_17 (q := 18) rfl rfl ?_
    refine ev_s C dX6_setFrames_18 (q := 19) rfl rfl ?_
    refine ev_icmp_ge C dX6_setFrames_19 (tgt := 53) (q := 22) (by decide) rfl (by first | decide | (unfold rg; omega) | assumption | exact bAnd_rg _ _) (by first | decide | (unfold rg; omega) | assumption | exact bAnd_rg _ _) (fun b0 => ?_) (fun b0 => ?_)
    · obtain rfl : z = W := by omega
      rw [Nat.sub_self] at kx
      exact kx _ _ (by omega) (by omega)
    · have h1I := sf1_I (z := z) I (by omega) ho
      refine ev_s C dX6_setFrames_22 (q := 23) rfl rfl ?_
      refine cg_1000_1 C dX6_setFrames_23 kf_X6_19 (q := 26) rfl ?_
      refine ev_s C dX6_setFrames_26 (q := 27) rfl rfl ?_
      refine ev_cV C dX6_setFrames_27 (q := 30) rfl km_X6_125 kv_X0_takeOut kc_X0_takeOut (c_X0_takeOut I (f := z) (by omega)) rfl rfl vcX0 rfl (by rw [hlv]; first | decide | omega) (by decide) (Nat.le_of_ble_eq_true rfl) (by first | exact Nat.zero_le _ | (rw [hmc]; decide) | (rw [hmc]; omega)) (by first | exact Nat.zero_le _ | (rw [hms]; decide) | (rw [hms]; omega)) ?_
      refine ev_s C dX6_setFrames_30 (q := 32) rfl rfl ?_
      refine ev_s C dX6_setFrames_32 (q := 34) rfl rfl ?_
      refine ev_ifnull C dX6_setFrames_34 (tgt := 47) (q := 37) (by decide) rfl (fun b1 => ?_) (fun b1 => ?_)
      · have h9 := pgo_n b1
        refine ev_s C dX6_setFrames_47 (q := 50) rfl rfl ?_
        refine ev_goto C dX6_setFrames_50 (tgt := 17) (by decide) ?_
        refine ev_keep [0, 1, 2, 3] rfl ?_
        rw [show W - z = (W - (z + 1)) + 1 by omega, sfL_s] at kx
        refine ev_eq (G := mk (sf1 u z) v g) (by unfold sf1; first | (rw [if_pos h9]; done) | (rw [if_neg (by omega), hq, Int.toNat_natCast])) ?_
        exact ih (z + 1) (sf1 u z) _ _ (by omega) (by omega) h1I.1 h1I.2.1 (by omega) (by omega) kx
      · obtain ⟨n9, hn9⟩ := b1
        have h8 := (pgo_s hn9).1
        obtain ⟨q, hq, hq2, hq3⟩ := held_k I h8
        have hco := cocc_out (u := u) (z := z) (by omega) h8
        refine ev_eqL (lv := [(0, vR (some 1000)), (1, vI x), (2, vI (W : Int)), (3, vI (z : Int)), (4, vR (some (3000 + q)))]) (by rw [hq, pgo_k]; rfl) ?_
        refine ev_s C dX6_setFrames_37 (q := 38) rfl rfl ?_
        refine cg_1000_2 C dX6_setFrames_38 kf_X6_26 (q := 41) rfl ?_
        refine ev_s C dX6_setFrames_41 (q := 43) rfl rfl ?_
        refine ev_cVn C dX6_setFrames_43 (q := 46) rfl km_X6_129 kv_X5_takeIn kc_X5_takeIn (c_X5_takeIn (u := stA u 2 z (-1)) (p := q) (CI_A2 I (by omega)) hq2 hg (by show u.1 11 ≤ 47; omega)) rfl rfl vcX5 rfl (by rw [hlv]; first | decide | omega) (by decide) (Nat.le_of_ble_eq_true rfl) (by first | exact Nat.zero_le _ | (rw [hmc]; decide) | (rw [hmc]; omega)) (by first | exact Nat.zero_le _ | (rw [hms]; decide) | (rw [hms]; omega)) (by rw [hw]; exact fun _ h => h) (by repeat' (first | exact nvA_0 | exact nvB_0 | apply nvA_c | apply nvB_c | exact nv_I | exact nv_L | exact nv_N | exact nv_R (by unfold nwG; omega) | exact nv_I' | exact nv_L' | exact nv_N' | exact nv_R' (by unfold nwG; omega))) (by repeat' (first | exact nvA_0 | exact nvB_0 | apply nvA_c | apply nvB_c | exact nv_I | exact nv_L | exact nv_N | exact nv_R (by unfold nwG; omega) | exact nv_I' | exact nv_L' | exact nv_N' | exact nv_R' (by unfold nwG; omega))) ?_
        refine ev_s C dX6_setFrames_46 (q := 47) rfl rfl ?_
        refine ev_s C dX6_setFrames_47 (q := 50) rfl rfl ?_
        refine ev_goto C dX6_setFrames_50 (tgt := 17) (by decide) ?_
        refine ev_keep [0, 1, 2, 3] rfl ?_
        rw [show W - z = (W - (z + 1)) + 1 by omega, sfL_s] at kx
        refine ev_eq (G := mk (sf1 u z) v g) (by unfold sf1; first | (rw [if_pos h9]; done) | (rw [if_neg (by omega), hq, Int.toNat_natCast])) ?_
        exact ih (z + 1) (sf1 u z) _ _ (by omega) (by omega) h1I.1 h1I.2.1 (by omega) (by omega) kx
set_option maxHeartbeats 4000000 in
set_option maxRecDepth 100000 in
theorem c_X6_setFrames_x {u v : SS} {g : GH} (I : CI u) {x : Int} (hx : rg x) (h : ¬ (1 ≤ x ∧ x ≤ 16)) : Cn yX6_setFrames (wsy yX6_setFrames cX6_setFrames 5 (some .int)) 8 1 6 nn [vR (some 1000), vI x] (mk u v g) (.inr ("java/lang/IllegalArgumentException", mk u v g)) := by
  refine con_j (lv := [(0, vR (some 1000)), (1, vI x)]) (by decide) (fun ad => Nat.le_of_ble_eq_true rfl) (fun ad => rfl) rfl ?_
  intro k C hr hlv hmc hms hPo hPx htab
  refine ev_s C dX6_setFrames_0 (q := 1) rfl rfl ?_
  refine ev_s C dX6_setFrames_1 (q := 2) rfl rfl ?_
  refine ev_s C dX6_setFrames_2 (q := 4) rfl rfl ?_
  refine ev_cSx C dX6_setFrames_4 (q := 7) rfl km_X6_48 ks_X6_requireRange kc_X6_requireRange (c_X6_requireRange_x hx (by unfold rg; decide) (by unfold rg; decide) h) rfl rfl (by rw [hlv]; first | decide | omega) (by decide) (Nat.le_of_ble_eq_true rfl) (by first | exact Nat.zero_le _ | (rw [hmc]; decide) | (rw [hmc]; omega)) (by first | exact Nat.zero_le _ | (rw [hms]; decide) | (rw [hms]; omega)) (fun E G1 h => by cases h; exact ex_out C htab (by first | exact Nat.zero_le _ | (rw [hmc]; decide) | (rw [hmc]; omega)) (by first | exact Nat.zero_le _ | (rw [hms]; decide) | (rw [hms]; omega)) (px_1 hPx rfl rfl)) (fun a G1 h => nomatch h)
set_option maxHeartbeats 4000000 in
set_option maxRecDepth 100000 in
theorem c_X6_setFrames {u v : SS} {g : GH} (I : CI u) (hg : NR g) (ho : u.1 11 + cocc u ≤ 48) {x : Int} (hx : 1 ≤ x ∧ x ≤ 16) : Cn yX6_setFrames (wsy yX6_setFrames cX6_setFrames 5 (some .int)) 8 32 2400 nwG [vR (some 1000), vI x] (mk u v g) (.inl (some (vI (u.1 7)), mk (sfC' u x) v g)) := by
  refine con_k2 (lv := [(0, vR (some 1000)), (1, vI x)]) (by decide) (by unfold nwG; decide) (fun ad => Nat.le_of_ble_eq_true rfl) (fun ad => rfl) rfl ?_
  intro k C hr hkG hlv hmc hms hw hPo hPx htab
  have i7 := I.s7
  have hSI : CI (sfL ((u.1 7).toNat - x.toNat) x.toNat u) ∧ True := by
    by_cases hle : x ≤ u.1 7
    · exact ⟨(sfL_I _ _ u I (by omega) ho).1, trivial⟩
    · rw [show (u.1 7).toNat - x.toNat = 0 by omega]; exact ⟨I, trivial⟩
  refine ev_s C dX6_setFrames_0 (q := 1) rfl rfl ?_
  refine ev_s C dX6_setFrames_1 (q := 2) rfl rfl ?_
  refine ev_s C dX6_setFrames_2 (q := 4) rfl rfl ?_
  refine ev_cS C dX6_setFrames_4 (q := 7) rfl km_X6_48 ks_X6_requireRange kc_X6_requireRange (c_X6_requireRange (by unfold rg; omega) (by unfold rg; decide) (by unfold rg; decide) hx) rfl rfl (by rw [hlv]; first | decide | omega) (by decide) (Nat.le_of_ble_eq_true rfl) (by first | exact Nat.zero_le _ | (rw [hmc]; decide) | (rw [hmc]; omega)) (by first | exact Nat.zero_le _ | (rw [hms]; decide) | (rw [hms]; omega)) ?_
  refine ev_s C dX6_setFrames_7 (q := 8) rfl rfl ?_
  refine cg_1000_1 C dX6_setFrames_8 kf_X6_19 (q := 11) rfl ?_
  refine cg_1004_1 C dX6_setFrames_11 kf_X6_122 (q := 14) rfl ?_
  refine ev_s C dX6_setFrames_14 (q := 15) rfl rfl ?_
  refine ev_s C dX6_setFrames_15 (q := 16) rfl rfl ?_
  refine ev_s C dX6_setFrames_16 (q := 17) rfl rfl ?_
  by_cases hle : x ≤ u.1 7
  · refine ev_eqL (lv := [(0, vR (some 1000)), (1, vI x), (2, vI (((u.1 7).toNat : Nat) : Int)), (3, vI ((x.toNat : Nat) : Int))]) (by rw [Int.toNat_of_nonneg (by omega), Int.toNat_of_nonneg (by omega)]; rfl) ?_
    refine l_X6_setFrames C hlv hg (W := (u.1 7).toNat) (by omega) hmc hms hw ((u.1 7).toNat - x.toNat + 1) x.toNat u _ _ (by omega) rfl I ho (by omega) (by omega) (fun ct1 sl1 hc1 hs1 => ?_)
    rw [Int.toNat_of_nonneg (a := u.1 7) (by omega)]
    refine ev_s C dX6_setFrames_53 (q := 54) rfl rfl ?_
    refine cg_1000_1 C dX6_setFrames_54 kf_X6_19 (q := 57) rfl ?_
    refine ev_s C dX6_setFrames_57 (q := 58) rfl rfl ?_
    refine ev_cV C dX6_setFrames_58 (q := 61) rfl km_X6_133 kv_X0_resize kc_X0_resize (c_X0_resize (u := sfL ((u.1 7).toNat - x.toNat) x.toNat u) hSI.1 hx) rfl rfl vcX0 rfl (by rw [hlv]; first | decide | omega) (by decide) (Nat.le_of_ble_eq_true rfl) (by first | exact Nat.zero_le _ | (rw [hmc]; decide) | (rw [hmc]; omega)) (by first | exact Nat.zero_le _ | (rw [hms]; decide) | (rw [hms]; omega)) ?_
    refine ev_s C dX6_setFrames_61 (q := 62) rfl rfl ?_
    exact ev_iret C hr dX6_setFrames_62 (by rw [hmc]; omega) (by rw [hms]; omega) (po_1 hPo rfl rfl)
  · refine ev_s C dX6_setFrames_17 (q := 18) rfl rfl ?_
    refine ev_s C dX6_setFrames_18 (q := 19) rfl rfl ?_
    refine ev_eqS (st := [vI (u.1 7), vI x]) rfl ?_
    refine ev_icmp_ge C dX6_setFrames_19 (tgt := 53) (q := 22) (by decide) rfl (by unfold rg; omega) (by unfold rg; omega) (fun b => ?_) (fun b => absurd b (by omega))
    refine ev_eq (G := mk (sfL ((u.1 7).toNat - x.toNat) x.toNat u) v g) (by rw [show (u.1 7).toNat - x.toNat = 0 by omega]; rfl) ?_
    refine ev_s C dX6_setFrames_53 (q := 54) rfl rfl ?_
    refine cg_1000_1 C dX6_setFrames_54 kf_X6_19 (q := 57) rfl ?_
    refine ev_s C dX6_setFrames_57 (q := 58) rfl rfl ?_
    refine ev_cV C dX6_setFrames_58 (q := 61) rfl km_X6_133 kv_X0_resize kc_X0_resize (c_X0_resize (u := sfL ((u.1 7).toNat - x.toNat) x.toNat u) hSI.1 hx) rfl rfl vcX0 rfl (by rw [hlv]; first | decide | omega) (by decide) (Nat.le_of_ble_eq_true rfl) (by first | exact Nat.zero_le _ | (rw [hmc]; decide) | (rw [hmc]; omega)) (by first | exact Nat.zero_le _ | (rw [hms]; decide) | (rw [hms]; omega)) ?_
    refine ev_s C dX6_setFrames_61 (q := 62) rfl rfl ?_
    exact ev_iret C hr dX6_setFrames_62 (by rw [hmc]; omega) (by rw [hms]; omega) (po_1 hPo rfl rfl)
def srC (u : SS) (x : Int) : SS := cmr 0 ((u.1 11).toNat + 1) (stS u 9 x)
set_option maxHeartbeats 4000000 in
set_option maxRecDepth 100000 in
theorem c_X6_setRoom_x {u v : SS} {g : GH} (I : CI u) {x : Int} (hx : rg x) (h : ¬ (0 ≤ x ∧ x ≤ 60)) : Cn yX6_setRoom (wsy yX6_setRoom cX6_setRoom 3 (some .int)) 5 1 6 nn [vR (some 1000), vI x] (mk u v g) (.inr ("java/lang/IllegalArgumentException", mk u v g)) := by
  refine con_j (lv := [(0, vR (some 1000)), (1, vI x)]) (by decide) (fun ad => Nat.le_of_ble_eq_true rfl) (fun ad => rfl) rfl ?_
  intro k C hr hlv hmc hms hPo hPx htab
  refine ev_s C dX6_setRoom_0 (q := 1) rfl rfl ?_
  refine ev_s C dX6_setRoom_1 (q := 2) rfl rfl ?_
  refine ev_s C dX6_setRoom_2 (q := 4) rfl rfl ?_
  refine ev_cSx C dX6_setRoom_4 (q := 7) rfl km_X6_48 ks_X6_requireRange kc_X6_requireRange (c_X6_requireRange_x hx (by unfold rg; decide) (by unfold rg; decide) h) rfl rfl (by rw [hlv]; first | decide | omega) (by decide) (Nat.le_of_ble_eq_true rfl) (by first | exact Nat.zero_le _ | (rw [hmc]; decide) | (rw [hmc]; omega)) (by first | exact Nat.zero_le _ | (rw [hms]; decide) | (rw [hms]; omega)) (fun E G1 h => by cases h; exact ex_out C htab (by first | exact Nat.zero_le _ | (rw [hmc]; decide) | (rw [hmc]; omega)) (by first | exact Nat.zero_le _ | (rw [hms]; decide) | (rw [hms]; omega)) (px_1 hPx rfl rfl)) (fun a G1 h => nomatch h)
set_option maxHeartbeats 4000000 in
set_option maxRecDepth 100000 in
theorem c_X6_setRoom {u v : SS} {g : GH} (I : CI u) {x : Int} (hx : 0 ≤ x ∧ x ≤ 60) : Cn yX6_setRoom (wsy yX6_setRoom cX6_setRoom 3 (some .int)) 5 0 0 nn [vR (some 1000), vI x] (mk u v g) (.inl (some (vI (u.1 9)), mk (srC u x) v g)) := by
  refine con_j (lv := [(0, vR (some 1000)), (1, vI x)]) (by decide) (fun ad => Nat.le_of_ble_eq_true rfl) (fun ad => rfl) rfl ?_
  intro k C hr hlv hmc hms hPo hPx htab
  have J : CI (stS u 9 x) := CI_S I (Or.inr (Or.inr (by show 0 ≤ x ∧ x ≤ 60; exact hx))) (by decide) (by decide) (by decide) (by decide)
  refine ev_s C dX6_setRoom_0 (q := 1) rfl rfl ?_
  refine ev_s C dX6_setRoom_1 (q := 2) rfl rfl ?_
  refine ev_s C dX6_setRoom_2 (q := 4) rfl rfl ?_
  refine ev_cS C dX6_setRoom_4 (q := 7) rfl km_X6_48 ks_X6_requireRange kc_X6_requireRange (c_X6_requireRange (by unfold rg; omega) (by unfold rg; decide) (by unfold rg; decide) hx) rfl rfl (by rw [hlv]; first | decide | omega) (by decide) (Nat.le_of_ble_eq_true rfl) (by first | exact Nat.zero_le _ | (rw [hmc]; decide) | (rw [hmc]; omega)) (by first | exact Nat.zero_le _ | (rw [hms]; decide) | (rw [hms]; omega)) ?_
  refine ev_s C dX6_setRoom_7 (q := 8) rfl rfl ?_
  refine cg_1000_2 C dX6_setRoom_8 kf_X6_26 (q := 11) rfl ?_
  refine cg_1006_1 C dX6_setRoom_11 kf_X6_136 (q := 14) rfl ?_
  refine ev_s C dX6_setRoom_14 (q := 15) rfl rfl ?_
  refine ev_s C dX6_setRoom_15 (q := 16) rfl rfl ?_
  refine cg_1000_2 C dX6_setRoom_16 kf_X6_26 (q := 19) rfl ?_
  refine ev_s C dX6_setRoom_19 (q := 20) rfl rfl ?_
  refine cp_1006_1 C dX6_setRoom_20 kf_X6_136 (q := 23) rfl (fit_I _) ?_
  refine ev_s C dX6_setRoom_23 (q := 24) rfl rfl ?_
  refine cg_1000_2 C dX6_setRoom_24 kf_X6_26 (q := 27) rfl ?_
  refine ev_s C dX6_setRoom_27 (q := 28) rfl rfl ?_
  refine ev_cV C dX6_setRoom_28 (q := 31) rfl km_X6_139 kv_X5_makeRoomFor kc_X5_makeRoomFor (c_X5_makeRoomFor J (by decide)) rfl rfl vcX5 rfl (by rw [hlv]; first | decide | omega) (by decide) (Nat.le_of_ble_eq_true rfl) (by first | exact Nat.zero_le _ | (rw [hmc]; decide) | (rw [hmc]; omega)) (by first | exact Nat.zero_le _ | (rw [hms]; decide) | (rw [hms]; omega)) ?_
  refine ev_s C dX6_setRoom_31 (q := 32) rfl rfl ?_
  refine ev_s C dX6_setRoom_32 (q := 33) rfl rfl ?_
  exact ev_iret C hr dX6_setRoom_33 (Nat.zero_le _) (Nat.zero_le _) (po_1 hPo rfl rfl)
set_option maxHeartbeats 4000000 in
set_option maxRecDepth 100000 in
theorem c_X6_setLimit_x {u v : SS} {g : GH} (I : CI u) {x : Int} (hx : rg x) (h : ¬ (0 ≤ x ∧ x ≤ 999)) : Cn yX6_setLimit (wsy yX6_setLimit cX6_setLimit 3 (some .int)) 1 1 6 nn [vR (some 1000), vI x] (mk u v g) (.inr ("java/lang/IllegalArgumentException", mk u v g)) := by
  refine con_j (lv := [(0, vR (some 1000)), (1, vI x)]) (by decide) (fun ad => Nat.le_of_ble_eq_true rfl) (fun ad => rfl) rfl ?_
  intro k C hr hlv hmc hms hPo hPx htab
  refine ev_s C dX6_setLimit_0 (q := 1) rfl rfl ?_
  refine ev_s C dX6_setLimit_1 (q := 2) rfl rfl ?_
  refine ev_s C dX6_setLimit_2 (q := 5) rfl rfl ?_
  refine ev_cSx C dX6_setLimit_5 (q := 8) rfl km_X6_48 ks_X6_requireRange kc_X6_requireRange (c_X6_requireRange_x hx (by unfold rg; decide) (by unfold rg; decide) h) rfl rfl (by rw [hlv]; first | decide | omega) (by decide) (Nat.le_of_ble_eq_true rfl) (by first | exact Nat.zero_le _ | (rw [hmc]; decide) | (rw [hmc]; omega)) (by first | exact Nat.zero_le _ | (rw [hms]; decide) | (rw [hms]; omega)) (fun E G1 h => by cases h; exact ex_out C htab (by first | exact Nat.zero_le _ | (rw [hmc]; decide) | (rw [hmc]; omega)) (by first | exact Nat.zero_le _ | (rw [hms]; decide) | (rw [hms]; omega)) (px_1 hPx rfl rfl)) (fun a G1 h => nomatch h)
set_option maxHeartbeats 4000000 in
set_option maxRecDepth 100000 in
theorem c_X6_setLimit {u v : SS} {g : GH} (I : CI u) {x : Int} (hx : 0 ≤ x ∧ x ≤ 999) : Cn yX6_setLimit (wsy yX6_setLimit cX6_setLimit 3 (some .int)) 1 0 0 nn [vR (some 1000), vI x] (mk u v g) (.inl (some (vI (u.1 0)), mk (stS u 0 x) v g)) := by
  refine con_j (lv := [(0, vR (some 1000)), (1, vI x)]) (by decide) (fun ad => Nat.le_of_ble_eq_true rfl) (fun ad => rfl) rfl ?_
  intro k C hr hlv hmc hms hPo hPx htab
  refine ev_s C dX6_setLimit_0 (q := 1) rfl rfl ?_
  refine ev_s C dX6_setLimit_1 (q := 2) rfl rfl ?_
  refine ev_s C dX6_setLimit_2 (q := 5) rfl rfl ?_
  refine ev_cS C dX6_setLimit_5 (q := 8) rfl km_X6_48 ks_X6_requireRange kc_X6_requireRange (c_X6_requireRange (by unfold rg; omega) (by unfold rg; decide) (by unfold rg; decide) hx) rfl rfl (by rw [hlv]; first | decide | omega) (by decide) (Nat.le_of_ble_eq_true rfl) (by first | exact Nat.zero_le _ | (rw [hmc]; decide) | (rw [hmc]; omega)) (by first | exact Nat.zero_le _ | (rw [hms]; decide) | (rw [hms]; omega)) ?_
  refine ev_s C dX6_setLimit_8 (q := 9) rfl rfl ?_
  refine cg_1000_5 C dX6_setLimit_9 kf_X6_44 (q := 12) rfl ?_
  refine ev_s C dX6_setLimit_12 (q := 13) rfl rfl ?_
  refine ev_s C dX6_setLimit_13 (q := 14) rfl rfl ?_
  refine ev_s C dX6_setLimit_14 (q := 15) rfl rfl ?_
  refine cp_1000_5 C dX6_setLimit_15 kf_X6_44 (q := 18) rfl (fit_I _) ?_
  refine ev_s C dX6_setLimit_18 (q := 19) rfl rfl ?_
  exact ev_iret C hr dX6_setLimit_19 (Nat.zero_le _) (Nat.zero_le _) (po_1 hPo rfl rfl)
set_option maxHeartbeats 4000000 in
set_option maxRecDepth 100000 in
theorem c_X6_setSize_x1 {u v : SS} {g : GH} (I : CI u) {s p : Int} (hs : rg s) (h : ¬ (0 ≤ s ∧ s < u.1 14)) {x : Int} : Cn yX6_setSize (wsy yX6_setSize cX6_setSize 6 (some .int)) 5 1 6 nn [vR (some 1000), vI s, vI p, vI x] (mk u v g) (.inr ("java/lang/IndexOutOfBoundsException", mk u v g)) := by
  refine con_j (lv := [(0, vR (some 1000)), (1, vI s), (2, vI p), (3, vI x)]) (by decide) (fun ad => Nat.le_of_ble_eq_true rfl) (fun ad => rfl) rfl ?_
  intro k C hr hlv hmc hms hPo hPx htab
  refine ev_s C dX6_setSize_0 (q := 1) rfl rfl ?_
  refine ev_s C dX6_setSize_1 (q := 2) rfl rfl ?_
  refine ev_s C dX6_setSize_2 (q := 3) rfl rfl ?_
  refine ev_cVx C dX6_setSize_3 (q := 6) rfl km_X6_108 kv_X6_pageAt kc_X6_pageAt (c_X6_pageAt_x1 I hs h) rfl rfl vcX6 rfl (by rw [hlv]; first | decide | omega) (by decide) (Nat.le_of_ble_eq_true rfl) (by first | exact Nat.zero_le _ | (rw [hmc]; decide) | (rw [hmc]; omega)) (by first | exact Nat.zero_le _ | (rw [hms]; decide) | (rw [hms]; omega)) (fun E G1 h => by cases h; exact ex_out C htab (by first | exact Nat.zero_le _ | (rw [hmc]; decide) | (rw [hmc]; omega)) (by first | exact Nat.zero_le _ | (rw [hms]; decide) | (rw [hms]; omega)) (px_1 hPx rfl rfl)) (fun a G1 h => nomatch h)
set_option maxHeartbeats 4000000 in
set_option maxRecDepth 100000 in
theorem c_X6_setSize_x2 {u v : SS} {g : GH} (I : CI u) {s : Nat} (hs : (s : Int) < u.1 14) {p : Int} (hp : rg p) (h : ¬ (0 ≤ p ∧ p < 8)) {x : Int} : Cn yX6_setSize (wsy yX6_setSize cX6_setSize 6 (some .int)) 5 1 6 nn [vR (some 1000), vI (s : Int), vI p, vI x] (mk u v g) (.inr ("java/lang/IndexOutOfBoundsException", mk u v g)) := by
  refine con_j (lv := [(0, vR (some 1000)), (1, vI (s : Int)), (2, vI p), (3, vI x)]) (by decide) (fun ad => Nat.le_of_ble_eq_true rfl) (fun ad => rfl) rfl ?_
  intro k C hr hlv hmc hms hPo hPx htab
  refine ev_s C dX6_setSize_0 (q := 1) rfl rfl ?_
  refine ev_s C dX6_setSize_1 (q := 2) rfl rfl ?_
  refine ev_s C dX6_setSize_2 (q := 3) rfl rfl ?_
  refine ev_cVx C dX6_setSize_3 (q := 6) rfl km_X6_108 kv_X6_pageAt kc_X6_pageAt (c_X6_pageAt_x2 I hs hp h) rfl rfl vcX6 rfl (by rw [hlv]; first | decide | omega) (by decide) (Nat.le_of_ble_eq_true rfl) (by first | exact Nat.zero_le _ | (rw [hmc]; decide) | (rw [hmc]; omega)) (by first | exact Nat.zero_le _ | (rw [hms]; decide) | (rw [hms]; omega)) (fun E G1 h => by cases h; exact ex_out C htab (by first | exact Nat.zero_le _ | (rw [hmc]; decide) | (rw [hmc]; omega)) (by first | exact Nat.zero_le _ | (rw [hms]; decide) | (rw [hms]; omega)) (px_1 hPx rfl rfl)) (fun a G1 h => nomatch h)
set_option maxHeartbeats 4000000 in
set_option maxRecDepth 100000 in
theorem c_X6_setSize_x3 {u v : SS} {g : GH} (I : CI u) {s : Nat} (hs : (s : Int) < u.1 14) {p : Nat} (hp : p < 8) {x : Int} (hx : rg x) (h : ¬ (1 ≤ x ∧ x ≤ 4)) : Cn yX6_setSize (wsy yX6_setSize cX6_setSize 6 (some .int)) 5 1 6 nn [vR (some 1000), vI (s : Int), vI (p : Int), vI x] (mk u v g) (.inr ("java/lang/IllegalArgumentException", mk u v g)) := by
  refine con_j (lv := [(0, vR (some 1000)), (1, vI (s : Int)), (2, vI (p : Int)), (3, vI x)]) (by decide) (fun ad => Nat.le_of_ble_eq_true rfl) (fun ad => rfl) rfl ?_
  intro k C hr hlv hmc hms hPo hPx htab
  refine ev_s C dX6_setSize_0 (q := 1) rfl rfl ?_
  refine ev_s C dX6_setSize_1 (q := 2) rfl rfl ?_
  refine ev_s C dX6_setSize_2 (q := 3) rfl rfl ?_
  refine ev_cV C dX6_setSize_3 (q := 6) rfl km_X6_108 kv_X6_pageAt kc_X6_pageAt (c_X6_pageAt I hs hp) rfl rfl vcX6 rfl (by rw [hlv]; first | decide | omega) (by decide) (Nat.le_of_ble_eq_true rfl) (by first | exact Nat.zero_le _ | (rw [hmc]; decide) | (rw [hmc]; omega)) (by first | exact Nat.zero_le _ | (rw [hms]; decide) | (rw [hms]; omega)) ?_
  refine ev_s C dX6_setSize_6 (q := 8) rfl rfl ?_
  refine ev_s C dX6_setSize_8 (q := 9) rfl rfl ?_
  refine ev_s C dX6_setSize_9 (q := 10) rfl rfl ?_
  refine ev_s C dX6_setSize_10 (q := 11) rfl rfl ?_
  refine ev_cSx C dX6_setSize_11 (q := 14) rfl km_X6_48 ks_X6_requireRange kc_X6_requireRange (c_X6_requireRange_x hx (by unfold rg; decide) (by unfold rg; decide) h) rfl rfl (by rw [hlv]; first | decide | omega) (by decide) (Nat.le_of_ble_eq_true rfl) (by first | exact Nat.zero_le _ | (rw [hmc]; decide) | (rw [hmc]; omega)) (by first | exact Nat.zero_le _ | (rw [hms]; decide) | (rw [hms]; omega)) (fun E G1 h => by cases h; exact ex_out C htab (by first | exact Nat.zero_le _ | (rw [hmc]; decide) | (rw [hmc]; omega)) (by first | exact Nat.zero_le _ | (rw [hms]; decide) | (rw [hms]; omega)) (px_1 hPx rfl rfl)) (fun a G1 h => nomatch h)
set_option maxHeartbeats 4000000 in
set_option maxRecDepth 100000 in
theorem c_X6_setSize_x4 {u v : SS} {g : GH} (I : CI u) {s : Nat} (hs : (s : Int) < u.1 14) {p : Nat} (hp : p < 8) {x : Int} (hx : 1 ≤ x ∧ x ≤ 4) (h : u.2 23 (8 * s + p) = 115) : Cn yX6_setSize (wsy yX6_setSize cX6_setSize 6 (some .int)) 5 1 6 nn [vR (some 1000), vI (s : Int), vI (p : Int), vI x] (mk u v g) (.inr ("java/lang/IllegalStateException", mk u v g)) := by
  refine con_j (lv := [(0, vR (some 1000)), (1, vI (s : Int)), (2, vI (p : Int)), (3, vI x)]) (by decide) (fun ad => Nat.le_of_ble_eq_true rfl) (fun ad => rfl) rfl ?_
  intro k C hr hlv hmc hms hPo hPx htab
  have i14 := I.s14
  have ic := I.a23 (8 * s + p)
  have ip := I.a22 (8 * s + p)
  refine ev_s C dX6_setSize_0 (q := 1) rfl rfl ?_
  refine ev_s C dX6_setSize_1 (q := 2) rfl rfl ?_
  refine ev_s C dX6_setSize_2 (q := 3) rfl rfl ?_
  refine ev_cV C dX6_setSize_3 (q := 6) rfl km_X6_108 kv_X6_pageAt kc_X6_pageAt (c_X6_pageAt I hs hp) rfl rfl vcX6 rfl (by rw [hlv]; first | decide | omega) (by decide) (Nat.le_of_ble_eq_true rfl) (by first | exact Nat.zero_le _ | (rw [hmc]; decide) | (rw [hmc]; omega)) (by first | exact Nat.zero_le _ | (rw [hms]; decide) | (rw [hms]; omega)) ?_
  refine ev_s C dX6_setSize_6 (q := 8) rfl rfl ?_
  refine ev_s C dX6_setSize_8 (q := 9) rfl rfl ?_
  refine ev_s C dX6_setSize_9 (q := 10) rfl rfl ?_
  refine ev_s C dX6_setSize_10 (q := 11) rfl rfl ?_
  refine ev_cS C dX6_setSize_11 (q := 14) rfl km_X6_48 ks_X6_requireRange kc_X6_requireRange (c_X6_requireRange (by unfold rg; omega) (by unfold rg; decide) (by unfold rg; decide) hx) rfl rfl (by rw [hlv]; first | decide | omega) (by decide) (Nat.le_of_ble_eq_true rfl) (by first | exact Nat.zero_le _ | (rw [hmc]; decide) | (rw [hmc]; omega)) (by first | exact Nat.zero_le _ | (rw [hms]; decide) | (rw [hms]; omega)) ?_
  refine ev_s C dX6_setSize_14 (q := 16) rfl rfl ?_
  refine cgp_3 C dX6_setSize_16 kf_X6_112 (q := 19) rfl (by show (_ : Int) < 8 * u.1 14; omega) ?_
  refine ev_s C dX6_setSize_19 (q := 21) rfl rfl ?_
  refine ev_icmp_ne C dX6_setSize_21 (tgt := 34) (q := 24) (by decide) rfl (by first | decide | (unfold rg; omega) | assumption | exact bAnd_rg _ _) (by first | decide | (unfold rg; omega) | assumption | exact bAnd_rg _ _) (fun b0 => ?_) (fun b0 => ?_)
  · exact absurd h b0
  · exact ev_throw C htab kt_63_67 (text := "the page is in the store") (by decide) dX6_setSize_24 dX6_setSize_27 dX6_setSize_28 dX6_setSize_30 dX6_setSize_33 (Nat.le_of_ble_eq_true rfl) (by rw [hmc]; decide) (by rw [hms]; decide) (px_1 hPx rfl rfl)
set_option maxHeartbeats 4000000 in
set_option maxRecDepth 100000 in
theorem c_X6_setSize {u v : SS} {g : GH} (I : CI u) {s : Nat} (hs : (s : Int) < u.1 14) {p : Nat} (hp : p < 8) {x : Int} (hx : 1 ≤ x ∧ x ≤ 4) (h : u.2 23 (8 * s + p) ≠ 115) : Cn yX6_setSize (wsy yX6_setSize cX6_setSize 6 (some .int)) 5 0 0 nn [vR (some 1000), vI (s : Int), vI (p : Int), vI x] (mk u v g) (.inl (some (vI (u.2 22 (8 * s + p))), mk (stA u 22 (8 * s + p) x) v g)) := by
  refine con_j (lv := [(0, vR (some 1000)), (1, vI (s : Int)), (2, vI (p : Int)), (3, vI x)]) (by decide) (fun ad => Nat.le_of_ble_eq_true rfl) (fun ad => rfl) rfl ?_
  intro k C hr hlv hmc hms hPo hPx htab
  have i14 := I.s14
  have ic := I.a23 (8 * s + p)
  have ip := I.a22 (8 * s + p)
  refine ev_s C dX6_setSize_0 (q := 1) rfl rfl ?_
  refine ev_s C dX6_setSize_1 (q := 2) rfl rfl ?_
  refine ev_s C dX6_setSize_2 (q := 3) rfl rfl ?_
  refine ev_cV C dX6_setSize_3 (q := 6) rfl km_X6_108 kv_X6_pageAt kc_X6_pageAt (c_X6_pageAt I hs hp) rfl rfl vcX6 rfl (by rw [hlv]; first | decide | omega) (by decide) (Nat.le_of_ble_eq_true rfl) (by first | exact Nat.zero_le _ | (rw [hmc]; decide) | (rw [hmc]; omega)) (by first | exact Nat.zero_le _ | (rw [hms]; decide) | (rw [hms]; omega)) ?_
  refine ev_s C dX6_setSize_6 (q := 8) rfl rfl ?_
  refine ev_s C dX6_setSize_8 (q := 9) rfl rfl ?_
  refine ev_s C dX6_setSize_9 (q := 10) rfl rfl ?_
  refine ev_s C dX6_setSize_10 (q := 11) rfl rfl ?_
  refine ev_cS C dX6_setSize_11 (q := 14) rfl km_X6_48 ks_X6_requireRange kc_X6_requireRange (c_X6_requireRange (by unfold rg; omega) (by unfold rg; decide) (by unfold rg; decide) hx) rfl rfl (by rw [hlv]; first | decide | omega) (by decide) (Nat.le_of_ble_eq_true rfl) (by first | exact Nat.zero_le _ | (rw [hmc]; decide) | (rw [hmc]; omega)) (by first | exact Nat.zero_le _ | (rw [hms]; decide) | (rw [hms]; omega)) ?_
  refine ev_s C dX6_setSize_14 (q := 16) rfl rfl ?_
  refine cgp_3 C dX6_setSize_16 kf_X6_112 (q := 19) rfl (by show (_ : Int) < 8 * u.1 14; omega) ?_
  refine ev_s C dX6_setSize_19 (q := 21) rfl rfl ?_
  refine ev_icmp_ne C dX6_setSize_21 (tgt := 34) (q := 24) (by decide) rfl (by first | decide | (unfold rg; omega) | assumption | exact bAnd_rg _ _) (by first | decide | (unfold rg; omega) | assumption | exact bAnd_rg _ _) (fun b0 => ?_) (fun b0 => ?_)
  · refine ev_s C dX6_setSize_34 (q := 36) rfl rfl ?_
    refine cgp_2 C dX6_setSize_36 kf_X6_120 (q := 39) rfl (by show (_ : Int) < 8 * u.1 14; omega) ?_
    refine ev_s C dX6_setSize_39 (q := 41) rfl rfl ?_
    refine ev_s C dX6_setSize_41 (q := 43) rfl rfl ?_
    refine ev_s C dX6_setSize_43 (q := 44) rfl rfl ?_
    refine cpp_2 C dX6_setSize_44 kf_X6_120 (q := 47) rfl (fit_I _) (by show (_ : Int) < 8 * u.1 14; omega) ?_
    refine ev_s C dX6_setSize_47 (q := 49) rfl rfl ?_
    exact ev_iret C hr dX6_setSize_49 (Nat.zero_le _) (Nat.zero_le _) (po_1 hPo rfl rfl)
  · exact absurd b0 h
set_option maxHeartbeats 4000000 in
set_option maxRecDepth 100000 in
theorem c_X6_addNeed_x1 {u v : SS} {g : GH} (I : CI u) {s o : Int} (hs : rg s) (h : ¬ (0 ≤ s ∧ s < u.1 14)) : Cn yX6_addNeed (wsy yX6_addNeed cX6_addNeed 4 (some .int)) 6 1 6 nn [vR (some 1000), vI s, vI o] (mk u v g) (.inr ("java/lang/IndexOutOfBoundsException", mk u v g)) := by
  refine con_j (lv := [(0, vR (some 1000)), (1, vI s), (2, vI o)]) (by decide) (fun ad => Nat.le_of_ble_eq_true rfl) (fun ad => rfl) rfl ?_
  intro k C hr hlv hmc hms hPo hPx htab
  refine ev_s C dX6_addNeed_0 (q := 1) rfl rfl ?_
  refine ev_s C dX6_addNeed_1 (q := 2) rfl rfl ?_
  refine ev_cVx C dX6_addNeed_2 (q := 5) rfl km_X6_77 kv_X6_serviceAt kc_X6_serviceAt (c_X6_serviceAt_x I hs h) rfl rfl vcX6 rfl (by rw [hlv]; first | decide | omega) (by decide) (Nat.le_of_ble_eq_true rfl) (by first | exact Nat.zero_le _ | (rw [hmc]; decide) | (rw [hmc]; omega)) (by first | exact Nat.zero_le _ | (rw [hms]; decide) | (rw [hms]; omega)) (fun E G1 h => by cases h; exact ex_out C htab (by first | exact Nat.zero_le _ | (rw [hmc]; decide) | (rw [hmc]; omega)) (by first | exact Nat.zero_le _ | (rw [hms]; decide) | (rw [hms]; omega)) (px_1 hPx rfl rfl)) (fun a G1 h => nomatch h)
set_option maxHeartbeats 4000000 in
set_option maxRecDepth 100000 in
theorem c_X6_addNeed_x2 {u v : SS} {g : GH} (I : CI u) {s : Nat} (hs : (s : Int) < u.1 14) {o : Int} (ho : rg o) (h : ¬ (0 ≤ o ∧ o < u.1 14)) : Cn yX6_addNeed (wsy yX6_addNeed cX6_addNeed 4 (some .int)) 6 1 6 nn [vR (some 1000), vI (s : Int), vI o] (mk u v g) (.inr ("java/lang/IndexOutOfBoundsException", mk u v g)) := by
  refine con_j (lv := [(0, vR (some 1000)), (1, vI (s : Int)), (2, vI o)]) (by decide) (fun ad => Nat.le_of_ble_eq_true rfl) (fun ad => rfl) rfl ?_
  intro k C hr hlv hmc hms hPo hPx htab
  refine ev_s C dX6_addNeed_0 (q := 1) rfl rfl ?_
  refine ev_s C dX6_addNeed_1 (q := 2) rfl rfl ?_
  refine ev_cV C dX6_addNeed_2 (q := 5) rfl km_X6_77 kv_X6_serviceAt kc_X6_serviceAt (c_X6_serviceAt I hs) rfl rfl vcX6 rfl (by rw [hlv]; first | decide | omega) (by decide) (Nat.le_of_ble_eq_true rfl) (by first | exact Nat.zero_le _ | (rw [hmc]; decide) | (rw [hmc]; omega)) (by first | exact Nat.zero_le _ | (rw [hms]; decide) | (rw [hms]; omega)) ?_
  refine ev_s C dX6_addNeed_5 (q := 6) rfl rfl ?_
  refine ev_s C dX6_addNeed_6 (q := 7) rfl rfl ?_
  refine ev_s C dX6_addNeed_7 (q := 8) rfl rfl ?_
  refine ev_cVx C dX6_addNeed_8 (q := 11) rfl km_X6_81 kv_X6_requireService kc_X6_requireService (c_X6_requireService_x I ho h) rfl rfl vcX6 rfl (by rw [hlv]; first | decide | omega) (by decide) (Nat.le_of_ble_eq_true rfl) (by first | exact Nat.zero_le _ | (rw [hmc]; decide) | (rw [hmc]; omega)) (by first | exact Nat.zero_le _ | (rw [hms]; decide) | (rw [hms]; omega)) (fun E G1 h => by cases h; exact ex_out C htab (by first | exact Nat.zero_le _ | (rw [hmc]; decide) | (rw [hmc]; omega)) (by first | exact Nat.zero_le _ | (rw [hms]; decide) | (rw [hms]; omega)) (px_1 hPx rfl rfl)) (fun a G1 h => nomatch h)
set_option maxHeartbeats 4000000 in
set_option maxRecDepth 100000 in
theorem c_X6_addNeed_x3 {u v : SS} {g : GH} (I : CI u) {s : Nat} (hs : (s : Int) < u.1 14) {o : Nat} (ho : (o : Int) < u.1 14) (h : s = o) : Cn yX6_addNeed (wsy yX6_addNeed cX6_addNeed 4 (some .int)) 6 1 6 nn [vR (some 1000), vI (s : Int), vI (o : Int)] (mk u v g) (.inr ("java/lang/IllegalArgumentException", mk u v g)) := by
  refine con_j (lv := [(0, vR (some 1000)), (1, vI (s : Int)), (2, vI (o : Int))]) (by decide) (fun ad => Nat.le_of_ble_eq_true rfl) (fun ad => rfl) rfl ?_
  intro k C hr hlv hmc hms hPo hPx htab
  have i14 := I.s14
  refine ev_s C dX6_addNeed_0 (q := 1) rfl rfl ?_
  refine ev_s C dX6_addNeed_1 (q := 2) rfl rfl ?_
  refine ev_cV C dX6_addNeed_2 (q := 5) rfl km_X6_77 kv_X6_serviceAt kc_X6_serviceAt (c_X6_serviceAt I hs) rfl rfl vcX6 rfl (by rw [hlv]; first | decide | omega) (by decide) (Nat.le_of_ble_eq_true rfl) (by first | exact Nat.zero_le _ | (rw [hmc]; decide) | (rw [hmc]; omega)) (by first | exact Nat.zero_le _ | (rw [hms]; decide) | (rw [hms]; omega)) ?_
  refine ev_s C dX6_addNeed_5 (q := 6) rfl rfl ?_
  refine ev_s C dX6_addNeed_6 (q := 7) rfl rfl ?_
  refine ev_s C dX6_addNeed_7 (q := 8) rfl rfl ?_
  refine ev_cV C dX6_addNeed_8 (q := 11) rfl km_X6_81 kv_X6_requireService kc_X6_requireService (c_X6_requireService I (by have := I.s14; unfold rg; omega) (by omega)) rfl rfl vcX6 rfl (by rw [hlv]; first | decide | omega) (by decide) (Nat.le_of_ble_eq_true rfl) (by first | exact Nat.zero_le _ | (rw [hmc]; decide) | (rw [hmc]; omega)) (by first | exact Nat.zero_le _ | (rw [hms]; decide) | (rw [hms]; omega)) ?_
  refine ev_s C dX6_addNeed_11 (q := 12) rfl rfl ?_
  refine ev_s C dX6_addNeed_12 (q := 13) rfl rfl ?_
  refine ev_icmp_ne C dX6_addNeed_13 (tgt := 26) (q := 16) (by decide) rfl (by first | decide | (unfold rg; omega) | assumption | exact bAnd_rg _ _) (by first | decide | (unfold rg; omega) | assumption | exact bAnd_rg _ _) (fun b0 => ?_) (fun b0 => ?_)
  · exact absurd (congrArg Int.ofNat h) b0
  · exact ev_throw C htab kt_52_56 (text := "a service does not need itself") (by decide) dX6_addNeed_16 dX6_addNeed_19 dX6_addNeed_20 dX6_addNeed_22 dX6_addNeed_25 (Nat.le_of_ble_eq_true rfl) (by rw [hmc]; decide) (by rw [hms]; decide) (px_1 hPx rfl rfl)
set_option maxHeartbeats 4000000 in
set_option maxRecDepth 100000 in
theorem c_X6_addNeed_x4 {u v : SS} {g : GH} (I : CI u) {s : Nat} (hs : (s : Int) < u.1 14) {o : Nat} (ho : (o : Int) < u.1 14) (h : s ≠ o) (h2 : hb (ano u o) s = true) : Cn yX6_addNeed (wsy yX6_addNeed cX6_addNeed 4 (some .int)) 6 1 6 nn [vR (some 1000), vI (s : Int), vI (o : Int)] (mk u v g) (.inr ("java/lang/UnsupportedOperationException", mk u v g)) := by
  refine con_j (lv := [(0, vR (some 1000)), (1, vI (s : Int)), (2, vI (o : Int))]) (by decide) (fun ad => Nat.le_of_ble_eq_true rfl) (fun ad => rfl) rfl ?_
  intro k C hr hlv hmc hms hPo hPx htab
  have i14 := I.s14
  refine ev_s C dX6_addNeed_0 (q := 1) rfl rfl ?_
  refine ev_s C dX6_addNeed_1 (q := 2) rfl rfl ?_
  refine ev_cV C dX6_addNeed_2 (q := 5) rfl km_X6_77 kv_X6_serviceAt kc_X6_serviceAt (c_X6_serviceAt I hs) rfl rfl vcX6 rfl (by rw [hlv]; first | decide | omega) (by decide) (Nat.le_of_ble_eq_true rfl) (by first | exact Nat.zero_le _ | (rw [hmc]; decide) | (rw [hmc]; omega)) (by first | exact Nat.zero_le _ | (rw [hms]; decide) | (rw [hms]; omega)) ?_
  refine ev_s C dX6_addNeed_5 (q := 6) rfl rfl ?_
  refine ev_s C dX6_addNeed_6 (q := 7) rfl rfl ?_
  refine ev_s C dX6_addNeed_7 (q := 8) rfl rfl ?_
  refine ev_cV C dX6_addNeed_8 (q := 11) rfl km_X6_81 kv_X6_requireService kc_X6_requireService (c_X6_requireService I (by have := I.s14; unfold rg; omega) (by omega)) rfl rfl vcX6 rfl (by rw [hlv]; first | decide | omega) (by decide) (Nat.le_of_ble_eq_true rfl) (by first | exact Nat.zero_le _ | (rw [hmc]; decide) | (rw [hmc]; omega)) (by first | exact Nat.zero_le _ | (rw [hms]; decide) | (rw [hms]; omega)) ?_
  refine ev_s C dX6_addNeed_11 (q := 12) rfl rfl ?_
  refine ev_s C dX6_addNeed_12 (q := 13) rfl rfl ?_
  refine ev_icmp_ne C dX6_addNeed_13 (tgt := 26) (q := 16) (by decide) rfl (by first | decide | (unfold rg; omega) | assumption | exact bAnd_rg _ _) (by first | decide | (unfold rg; omega) | assumption | exact bAnd_rg _ _) (fun b0 => ?_) (fun b0 => ?_)
  · refine ev_s C dX6_addNeed_26 (q := 27) rfl rfl ?_
    refine ev_s C dX6_addNeed_27 (q := 28) rfl rfl ?_
    refine ev_cV C dX6_addNeed_28 (q := 31) rfl km_X6_87 kv_X6_allNeedsOf kc_X6_allNeedsOf (c_X6_allNeedsOf I ho) rfl rfl vcX6 rfl (by rw [hlv]; first | decide | omega) (by decide) (Nat.le_of_ble_eq_true rfl) (by first | exact Nat.zero_le _ | (rw [hmc]; decide) | (rw [hmc]; omega)) (by first | exact Nat.zero_le _ | (rw [hms]; decide) | (rw [hms]; omega)) ?_
    refine ev_s C dX6_addNeed_31 (q := 32) rfl rfl ?_
    refine ev_cS C dX6_addNeed_32 (q := 35) rfl km_X6_91 ks_X6_hasBit kc_X6_hasBit (c_X6_hasBit) rfl rfl (by rw [hlv]; first | decide | omega) (by decide) (Nat.le_of_ble_eq_true rfl) (by first | exact Nat.zero_le _ | (rw [hmc]; decide) | (rw [hmc]; omega)) (by first | exact Nat.zero_le _ | (rw [hms]; decide) | (rw [hms]; omega)) ?_
    refine ev_ifB_eq C dX6_addNeed_35 (tgt := 48) (q := 38) (by decide) rfl (fun b1 => ?_) (fun b1 => ?_)
    · exact absurd (h2.symm.trans b1) (by decide)
    · exact ev_throw C htab kt_95_99 (text := "the other one needs this one") (by decide) dX6_addNeed_38 dX6_addNeed_41 dX6_addNeed_42 dX6_addNeed_44 dX6_addNeed_47 (Nat.le_of_ble_eq_true rfl) (by rw [hmc]; decide) (by rw [hms]; decide) (px_1 hPx rfl rfl)
  · exact absurd (Int.ofNat.inj b0) h
def anC (u : SS) (s o : Nat) : SS := stA u 15 s (bOr (u.2 15 s) (bShl 1 (o : Int)))
set_option maxHeartbeats 4000000 in
set_option maxRecDepth 100000 in
theorem c_X6_addNeed {u v : SS} {g : GH} (I : CI u) {s : Nat} (hs : (s : Int) < u.1 14) {o : Nat} (ho : (o : Int) < u.1 14) (h : s ≠ o) (h2 : hb (ano u o) s = false) : Cn yX6_addNeed (wsy yX6_addNeed cX6_addNeed 4 (some .int)) 6 0 0 nn [vR (some 1000), vI (s : Int), vI (o : Int)] (mk u v g) (.inl (some (vI (bcE ((anC u s o).2 15 s))), mk (anC u s o) v g)) := by
  refine con_j (lv := [(0, vR (some 1000)), (1, vI (s : Int)), (2, vI (o : Int))]) (by decide) (fun ad => Nat.le_of_ble_eq_true rfl) (fun ad => rfl) rfl ?_
  intro k C hr hlv hmc hms hPo hPx htab
  have i14 := I.s14
  refine ev_s C dX6_addNeed_0 (q := 1) rfl rfl ?_
  refine ev_s C dX6_addNeed_1 (q := 2) rfl rfl ?_
  refine ev_cV C dX6_addNeed_2 (q := 5) rfl km_X6_77 kv_X6_serviceAt kc_X6_serviceAt (c_X6_serviceAt I hs) rfl rfl vcX6 rfl (by rw [hlv]; first | decide | omega) (by decide) (Nat.le_of_ble_eq_true rfl) (by first | exact Nat.zero_le _ | (rw [hmc]; decide) | (rw [hmc]; omega)) (by first | exact Nat.zero_le _ | (rw [hms]; decide) | (rw [hms]; omega)) ?_
  refine ev_s C dX6_addNeed_5 (q := 6) rfl rfl ?_
  refine ev_s C dX6_addNeed_6 (q := 7) rfl rfl ?_
  refine ev_s C dX6_addNeed_7 (q := 8) rfl rfl ?_
  refine ev_cV C dX6_addNeed_8 (q := 11) rfl km_X6_81 kv_X6_requireService kc_X6_requireService (c_X6_requireService I (by have := I.s14; unfold rg; omega) (by omega)) rfl rfl vcX6 rfl (by rw [hlv]; first | decide | omega) (by decide) (Nat.le_of_ble_eq_true rfl) (by first | exact Nat.zero_le _ | (rw [hmc]; decide) | (rw [hmc]; omega)) (by first | exact Nat.zero_le _ | (rw [hms]; decide) | (rw [hms]; omega)) ?_
  refine ev_s C dX6_addNeed_11 (q := 12) rfl rfl ?_
  refine ev_s C dX6_addNeed_12 (q := 13) rfl rfl ?_
  refine ev_icmp_ne C dX6_addNeed_13 (tgt := 26) (q := 16) (by decide) rfl (by first | decide | (unfold rg; omega) | assumption | exact bAnd_rg _ _) (by first | decide | (unfold rg; omega) | assumption | exact bAnd_rg _ _) (fun b0 => ?_) (fun b0 => ?_)
  · refine ev_s C dX6_addNeed_26 (q := 27) rfl rfl ?_
    refine ev_s C dX6_addNeed_27 (q := 28) rfl rfl ?_
    refine ev_cV C dX6_addNeed_28 (q := 31) rfl km_X6_87 kv_X6_allNeedsOf kc_X6_allNeedsOf (c_X6_allNeedsOf I ho) rfl rfl vcX6 rfl (by rw [hlv]; first | decide | omega) (by decide) (Nat.le_of_ble_eq_true rfl) (by first | exact Nat.zero_le _ | (rw [hmc]; decide) | (rw [hmc]; omega)) (by first | exact Nat.zero_le _ | (rw [hms]; decide) | (rw [hms]; omega)) ?_
    refine ev_s C dX6_addNeed_31 (q := 32) rfl rfl ?_
    refine ev_cS C dX6_addNeed_32 (q := 35) rfl km_X6_91 ks_X6_hasBit kc_X6_hasBit (c_X6_hasBit) rfl rfl (by rw [hlv]; first | decide | omega) (by decide) (Nat.le_of_ble_eq_true rfl) (by first | exact Nat.zero_le _ | (rw [hmc]; decide) | (rw [hmc]; omega)) (by first | exact Nat.zero_le _ | (rw [hms]; decide) | (rw [hms]; omega)) ?_
    refine ev_ifB_eq C dX6_addNeed_35 (tgt := 48) (q := 38) (by decide) rfl (fun b1 => ?_) (fun b1 => ?_)
    · refine ev_s C dX6_addNeed_48 (q := 49) rfl rfl ?_
      refine ev_s C dX6_addNeed_49 (q := 50) rfl rfl ?_
      refine cgs_5 C dX6_addNeed_50 kf_X6_100 (q := 53) rfl (by show (_ : Int) < u.1 14; omega) (by omega) ?_
      refine ev_s C dX6_addNeed_53 (q := 54) rfl rfl ?_
      refine ev_s C dX6_addNeed_54 (q := 55) rfl rfl ?_
      refine ev_s C dX6_addNeed_55 (q := 56) rfl rfl ?_
      refine ev_s C dX6_addNeed_56 (q := 57) rfl rfl ?_
      refine cps_5 C dX6_addNeed_57 kf_X6_100 (q := 60) rfl (fit_I _) (by show (_ : Int) < u.1 14; omega) (by omega) ?_
      refine ev_s C dX6_addNeed_60 (q := 61) rfl rfl ?_
      refine cgs_5 C dX6_addNeed_61 kf_X6_100 (q := 64) rfl (by show (_ : Int) < u.1 14; omega) (by omega) ?_
      refine ev_cS C dX6_addNeed_64 (q := 67) rfl km_X6_103 ks_J6_bitCount_0f7a4 kc_J6_bitCount_0f7a4 (c_J6_bitCount_0f7a4) rfl rfl (by rw [hlv]; first | decide | omega) (by decide) (Nat.le_of_ble_eq_true rfl) (by first | exact Nat.zero_le _ | (rw [hmc]; decide) | (rw [hmc]; omega)) (by first | exact Nat.zero_le _ | (rw [hms]; decide) | (rw [hms]; omega)) ?_
      exact ev_iret C hr dX6_addNeed_67 (Nat.zero_le _) (Nat.zero_le _) (po_1 hPo rfl rfl)
    · exact absurd (h2.symm.trans b1) (by decide)
  · exact absurd (Int.ofNat.inj b0) h
