/-! THE CLASS: ticks -/
def svo (x : Int) : Option Nat := if x < 0 then none else some (2000 + x.toNat)
def cwst (u : SS) : Nat → Int
  | 0 => -1
  | n + 1 => if u.2 16 n = 0 ∧ (cwst u n < 0 ∨ csc u (cwst u n).toNat < csc u n) then (n : Int) else cwst u n
theorem cwst_s {u : SS} {n : Nat} : cwst u (n + 1) = if u.2 16 n = 0 ∧ (cwst u n < 0 ∨ csc u (cwst u n).toNat < csc u n) then (n : Int) else cwst u n := rfl
theorem cwst_b (u : SS) : ∀ n : Nat, -1 ≤ cwst u n ∧ cwst u n < n
  | 0 => by unfold cwst; omega
  | n + 1 => by
    have := cwst_b u n
    rw [cwst_s]
    split <;> omega
theorem svo_n {x : Int} (h : x < 0) : svo x = none := by unfold svo; rw [if_pos h]
theorem svo_k (k : Nat) : svo (k : Int) = some (2000 + k) := by unfold svo; rw [if_neg (by omega)]; rfl
set_option maxHeartbeats 4000000 in
set_option maxRecDepth 100000 in
theorem l_X6_nextVictim {k : Kx} (C : CX k RX6 cX6_nextVictim 4) (hlv : klev k = 3) {u v : SS} {g : GH} (I : CI u) {N : Nat} (hN : u.1 14 = (N : Int)) (hr : (kmeth k).sig.returnType = some (.object "Swapyard$Service")) (hPo : kPo k = PoR (.inl (some (vR (svo (cwst u N))), mk u v g))) : ∀ (m z : Nat), z ≤ N → N < z + m → EV k 4 [(0, vR (some 1000)), (1, vR (svo (cwst u z))), (2, vI (z : Int))] [] (mk u v g) 0 0 := by
  intro m
  induction m with
  | zero =>
    intros
    exfalso
    omega
  | succ m ih =>
    intro z h1 h2
    have i14 := I.s14
    have hcb := cwst_b u z
    have ia := I.a16 z
    have is1 := csc_bd I z
    by_cases hb : cwst u z < 0
    · rw [svo_n hb]
      refine ev_s C dX6_nextVictim_4 (q := 5) rfl rfl ?_
      refine ev_s C dX6_nextVictim_5 (q := 6) rfl rfl ?_
      refine cg_1000_4 C dX6_nextVictim_6 kf_X6_40 (q := 9) rfl ?_
      refine ev_cV C dX6_nextVictim_9 (q := 12) rfl km_X6_59 kv_Jx4a65c_size_8abf5 kc_Jx4a65c_size_8abf5 (c_size_s) rfl rfl vcJx4a65c rfl (by rw [hlv]; first | decide | omega) (by decide) (Nat.le_of_ble_eq_true rfl) (by first | exact Nat.zero_le _ | (rw [hmc]; decide) | (rw [hmc]; omega)) (by first | exact Nat.zero_le _ | (rw [hms]; decide) | (rw [hms]; omega)) ?_
      refine ev_icmp_ge C dX6_nextVictim_12 (tgt := 57) (q := 15) (by decide) rfl (by first | decide | (unfold rg; omega) | assumption | exact bAnd_rg _ _) (by first | decide | (unfold rg; omega) | assumption | exact bAnd_rg _ _) (fun b0 => ?_) (fun b0 => ?_)
      · refine ev_s C dX6_nextVictim_57 (q := 58) rfl rfl ?_
        exact ev_aret C hr (Or.inl ⟨_, rfl⟩) dX6_nextVictim_58 (Nat.zero_le _) (Nat.zero_le _) (po_1 hPo (by (obtain rfl : z = N := (by omega)); first | (rw [svo_n hb]; done) | (rw [ht, svo_k])) rfl)
      · refine ev_s C dX6_nextVictim_15 (q := 16) rfl rfl ?_
        refine cg_1000_4 C dX6_nextVictim_16 kf_X6_40 (q := 19) rfl ?_
        refine ev_s C dX6_nextVictim_19 (q := 20) rfl rfl ?_
        refine ev_cV C dX6_nextVictim_20 (q := 23) rfl km_X6_200 kv_Jx4a65c_get_915e3 kc_Jx4a65c_get_915e3 (c_get_s I (i := z) (by omega)) rfl rfl vcJx4a65c rfl (by rw [hlv]; first | decide | omega) (by decide) (Nat.le_of_ble_eq_true rfl) (by first | exact Nat.zero_le _ | (rw [hmc]; decide) | (rw [hmc]; omega)) (by first | exact Nat.zero_le _ | (rw [hms]; decide) | (rw [hms]; omega)) ?_
        refine ev_chk C dX6_nextVictim_23 (q := 26) rfl vcX4 kl_X6_68 (fun n h => by cases h; exact ⟨_, gs_ (by show (_ : Int) < u.1 14; omega) (by omega)⟩) ?_
        refine ev_s C dX6_nextVictim_26 (q := 27) rfl rfl ?_
        refine ev_s C dX6_nextVictim_27 (q := 28) rfl rfl ?_
        refine cgs_6 C dX6_nextVictim_28 kf_X6_217 (q := 31) rfl (by show (_ : Int) < u.1 14; omega) (by omega) ?_
        refine ev_if_ne C dX6_nextVictim_31 (tgt := 51) (q := 34) (by decide) rfl (by first | decide | (unfold rg; omega) | assumption | exact bAnd_rg _ _) (fun b1 => ?_) (fun b1 => ?_)
        · refine ev_s C dX6_nextVictim_51 (q := 54) rfl rfl ?_
          refine ev_goto C dX6_nextVictim_54 (tgt := 4) (by decide) ?_
          refine ev_keep [0, 1, 2] rfl ?_
          refine ev_eqL (lv := [(0, vR (some 1000)), (1, vR (svo (cwst u (z + 1)))), (2, vI (((z + 1 : Nat)) : Int))]) (by rw [cwst_s]; first | (rw [if_pos (by omega), svo_k]; rfl) | (rw [if_neg (by omega), svo_n hb]; rfl) | (rw [if_neg (by omega), ht, svo_k]; rfl)) ?_
          exact ih (z + 1) (by omega) (by omega)
        · refine ev_s C dX6_nextVictim_34 (q := 35) rfl rfl ?_
          refine ev_ifnull C dX6_nextVictim_35 (tgt := 49) (q := 38) (by decide) rfl (fun b2 => ?_) (fun b2 => ?_)
          · refine ev_s C dX6_nextVictim_49 (q := 50) rfl rfl ?_
            refine ev_s C dX6_nextVictim_50 (q := 51) rfl rfl ?_
            refine ev_s C dX6_nextVictim_51 (q := 54) rfl rfl ?_
            refine ev_goto C dX6_nextVictim_54 (tgt := 4) (by decide) ?_
            refine ev_keep [0, 1, 2] rfl ?_
            refine ev_eqL (lv := [(0, vR (some 1000)), (1, vR (svo (cwst u (z + 1)))), (2, vI (((z + 1 : Nat)) : Int))]) (by rw [cwst_s]; first | (rw [if_pos (by omega), svo_k]; rfl) | (rw [if_neg (by omega), svo_n hb]; rfl) | (rw [if_neg (by omega), ht, svo_k]; rfl)) ?_
            exact ih (z + 1) (by omega) (by omega)
          · (obtain ⟨_, h9⟩ := b2; cases h9)
    · obtain ⟨t, ht⟩ : ∃ t : Nat, cwst u z = (t : Int) := ⟨(cwst u z).toNat, by omega⟩
      have htt : (cwst u z).toNat = t := by omega
      have is2 := csc_bd I t
      have htc : csc u (cwst u z).toNat = csc u t := by rw [htt]
      rw [ht, svo_k]
      refine ev_s C dX6_nextVictim_4 (q := 5) rfl rfl ?_
      refine ev_s C dX6_nextVictim_5 (q := 6) rfl rfl ?_
      refine cg_1000_4 C dX6_nextVictim_6 kf_X6_40 (q := 9) rfl ?_
      refine ev_cV C dX6_nextVictim_9 (q := 12) rfl km_X6_59 kv_Jx4a65c_size_8abf5 kc_Jx4a65c_size_8abf5 (c_size_s) rfl rfl vcJx4a65c rfl (by rw [hlv]; first | decide | omega) (by decide) (Nat.le_of_ble_eq_true rfl) (by first | exact Nat.zero_le _ | (rw [hmc]; decide) | (rw [hmc]; omega)) (by first | exact Nat.zero_le _ | (rw [hms]; decide) | (rw [hms]; omega)) ?_
      refine ev_icmp_ge C dX6_nextVictim_12 (tgt := 57) (q := 15) (by decide) rfl (by first | decide | (unfold rg; omega) | assumption | exact bAnd_rg _ _) (by first | decide | (unfold rg; omega) | assumption | exact bAnd_rg _ _) (fun b0 => ?_) (fun b0 => ?_)
      · refine ev_s C dX6_nextVictim_57 (q := 58) rfl rfl ?_
        exact ev_aret C hr (Or.inl ⟨_, rfl⟩) dX6_nextVictim_58 (Nat.zero_le _) (Nat.zero_le _) (po_1 hPo (by (obtain rfl : z = N := (by omega)); first | (rw [svo_n hb]; done) | (rw [ht, svo_k])) rfl)
      · refine ev_s C dX6_nextVictim_15 (q := 16) rfl rfl ?_
        refine cg_1000_4 C dX6_nextVictim_16 kf_X6_40 (q := 19) rfl ?_
        refine ev_s C dX6_nextVictim_19 (q := 20) rfl rfl ?_
        refine ev_cV C dX6_nextVictim_20 (q := 23) rfl km_X6_200 kv_Jx4a65c_get_915e3 kc_Jx4a65c_get_915e3 (c_get_s I (i := z) (by omega)) rfl rfl vcJx4a65c rfl (by rw [hlv]; first | decide | omega) (by decide) (Nat.le_of_ble_eq_true rfl) (by first | exact Nat.zero_le _ | (rw [hmc]; decide) | (rw [hmc]; omega)) (by first | exact Nat.zero_le _ | (rw [hms]; decide) | (rw [hms]; omega)) ?_
        refine ev_chk C dX6_nextVictim_23 (q := 26) rfl vcX4 kl_X6_68 (fun n h => by cases h; exact ⟨_, gs_ (by show (_ : Int) < u.1 14; omega) (by omega)⟩) ?_
        refine ev_s C dX6_nextVictim_26 (q := 27) rfl rfl ?_
        refine ev_s C dX6_nextVictim_27 (q := 28) rfl rfl ?_
        refine cgs_6 C dX6_nextVictim_28 kf_X6_217 (q := 31) rfl (by show (_ : Int) < u.1 14; omega) (by omega) ?_
        refine ev_if_ne C dX6_nextVictim_31 (tgt := 51) (q := 34) (by decide) rfl (by first | decide | (unfold rg; omega) | assumption | exact bAnd_rg _ _) (fun b1 => ?_) (fun b1 => ?_)
        · refine ev_s C dX6_nextVictim_51 (q := 54) rfl rfl ?_
          refine ev_goto C dX6_nextVictim_54 (tgt := 4) (by decide) ?_
          refine ev_keep [0, 1, 2] rfl ?_
          refine ev_eqL (lv := [(0, vR (some 1000)), (1, vR (svo (cwst u (z + 1)))), (2, vI (((z + 1 : Nat)) : Int))]) (by rw [cwst_s]; first | (rw [if_pos (by omega), svo_k]; rfl) | (rw [if_neg (by omega), svo_n hb]; rfl) | (rw [if_neg (by omega), ht, svo_k]; rfl)) ?_
          exact ih (z + 1) (by omega) (by omega)
        · refine ev_s C dX6_nextVictim_34 (q := 35) rfl rfl ?_
          refine ev_ifnull C dX6_nextVictim_35 (tgt := 49) (q := 38) (by decide) rfl (fun b2 => ?_) (fun b2 => ?_)
          · cases b2
          · refine ev_s C dX6_nextVictim_38 (q := 39) rfl rfl ?_
            refine ev_cV C dX6_nextVictim_39 (q := 42) rfl km_X6_239 kv_X4_killScore kc_X4_killScore (c_X4_killScore I (s := z) (by omega)) rfl rfl vcX4 (gs_ (by show (_ : Int) < u.1 14; omega) (by omega)) (by rw [hlv]; first | decide | omega) (by decide) (Nat.le_of_ble_eq_true rfl) (by first | exact Nat.zero_le _ | (rw [hmc]; decide) | (rw [hmc]; omega)) (by first | exact Nat.zero_le _ | (rw [hms]; decide) | (rw [hms]; omega)) ?_
            refine ev_s C dX6_nextVictim_42 (q := 43) rfl rfl ?_
            refine ev_cV C dX6_nextVictim_43 (q := 46) rfl km_X6_239 kv_X4_killScore kc_X4_killScore (c_X4_killScore I (s := t) (by omega)) rfl rfl vcX4 (gs_ (by show (_ : Int) < u.1 14; omega) (by omega)) (by rw [hlv]; first | decide | omega) (by decide) (Nat.le_of_ble_eq_true rfl) (by first | exact Nat.zero_le _ | (rw [hmc]; decide) | (rw [hmc]; omega)) (by first | exact Nat.zero_le _ | (rw [hms]; decide) | (rw [hms]; omega)) ?_
            refine ev_icmp_le C dX6_nextVictim_46 (tgt := 51) (q := 49) (by decide) rfl (by first | decide | (unfold rg; omega) | assumption | exact bAnd_rg _ _) (by first | decide | (unfold rg; omega) | assumption | exact bAnd_rg _ _) (fun b3 => ?_) (fun b3 => ?_)
            · refine ev_s C dX6_nextVictim_51 (q := 54) rfl rfl ?_
              refine ev_goto C dX6_nextVictim_54 (tgt := 4) (by decide) ?_
              refine ev_keep [0, 1, 2] rfl ?_
              refine ev_eqL (lv := [(0, vR (some 1000)), (1, vR (svo (cwst u (z + 1)))), (2, vI (((z + 1 : Nat)) : Int))]) (by rw [cwst_s]; first | (rw [if_pos (by omega), svo_k]; rfl) | (rw [if_neg (by omega), svo_n hb]; rfl) | (rw [if_neg (by omega), ht, svo_k]; rfl)) ?_
              exact ih (z + 1) (by omega) (by omega)
            · refine ev_s C dX6_nextVictim_49 (q := 50) rfl rfl ?_
              refine ev_s C dX6_nextVictim_50 (q := 51) rfl rfl ?_
              refine ev_s C dX6_nextVictim_51 (q := 54) rfl rfl ?_
              refine ev_goto C dX6_nextVictim_54 (tgt := 4) (by decide) ?_
              refine ev_keep [0, 1, 2] rfl ?_
              refine ev_eqL (lv := [(0, vR (some 1000)), (1, vR (svo (cwst u (z + 1)))), (2, vI (((z + 1 : Nat)) : Int))]) (by rw [cwst_s]; first | (rw [if_pos (by omega), svo_k]; rfl) | (rw [if_neg (by omega), svo_n hb]; rfl) | (rw [if_neg (by omega), ht, svo_k]; rfl)) ?_
              exact ih (z + 1) (by omega) (by omega)
set_option maxHeartbeats 4000000 in
set_option maxRecDepth 100000 in
theorem c_X6_nextVictim {u v : SS} {g : GH} (I : CI u) : Cn yX6_nextVictim (wsy yX6_nextVictim cX6_nextVictim 4 (some (.object "Swapyard$Service"))) 3 0 0 nn [vR (some 1000)] (mk u v g) (.inl (some (vR (svo (cwst u (u.1 14).toNat))), mk u v g)) := by
  refine con_j (lv := [(0, vR (some 1000))]) (by decide) (fun ad => Nat.le_of_ble_eq_true rfl) (fun ad => rfl) rfl ?_
  intro k C hr hlv hmc hms hPo hPx htab
  refine ev_s C dX6_nextVictim_0 (q := 1) rfl rfl ?_
  refine ev_s C dX6_nextVictim_1 (q := 2) rfl rfl ?_
  refine ev_s C dX6_nextVictim_2 (q := 3) rfl rfl ?_
  refine ev_s C dX6_nextVictim_3 (q := 4) rfl rfl ?_
  have i14 := I.s14
  exact l_X6_nextVictim C hlv I (N := (u.1 14).toNat) (by omega) hr hPo ((u.1 14).toNat + 1) 0 (Nat.zero_le _) (by omega)
def kn1 (u : SS) (p : Nat) : SS := if u.2 23 p = 45 then u else mvM (detM u p) p 45
def knL (u : SS) (s : Nat) : Nat → SS
  | 0 => u
  | z + 1 => kn1 (knL u s z) (8 * s + z)
def knF (w : SS) (s : Nat) : SS := stS (stA (stA w 16 s 1) 17 s (w.1 1)) 2 (w.1 2 + 1)
def knM (u : SS) (s : Nat) : SS := knF (knL u s 8) s
def knV (u : SS) : SS := if cwst u (u.1 14).toNat < 0 then u else knM u (cwst u (u.1 14).toNat).toNat
def frOK (u : SS) : Prop := ∀ p, u.2 23 p = 102 → 0 ≤ u.2 24 p
theorem mvM_23 {u : SS} {p : Nat} {c : Int} {j : Nat} : (mvM u p c).2 23 j = if j = p then c else u.2 23 j := by
  unfold mvM
  rw [recM_A (by decide)]
  rfl
theorem mvM_24 {u : SS} {p : Nat} {c : Int} {j : Nat} : (mvM u p c).2 24 j = if j = p then -1 else u.2 24 j := by
  unfold mvM
  rw [recM_A (by decide)]
  rfl
theorem mvM_25 {u : SS} {p : Nat} {c : Int} {j : Nat} : (mvM u p c).2 25 j = if j = p then 0 else u.2 25 j := by
  unfold mvM
  rw [recM_A (by decide)]
  rfl
theorem kn1_I {u : SS} {p : Nat} (I : CI u) (hp : p < 48) (hf : frOK u) : CI (kn1 u p) ∧ frOK (kn1 u p) ∧ (kn1 u p).1 14 = u.1 14 := by
  unfold kn1
  split
  · exact ⟨I, hf, rfl⟩
  · refine ⟨CI_mv (CI_det I p) hp (Or.inl rfl), fun j hj => ?_, by rw [mvM_S (by decide), detM_S (by decide) (by decide)]⟩
    rw [mvM_23] at hj
    rw [mvM_24]
    by_cases e : j = p
    · rw [if_pos e] at hj; cases hj
    · rw [if_neg e] at hj ⊢
      rw [detM_A (by decide) (by decide)] at hj ⊢
      exact hf j hj
theorem kn1_S {u : SS} {p s : Nat} (h1 : s ≠ 10) (h2 : s ≠ 11) (h3 : s ≠ 6) : (kn1 u p).1 s = u.1 s := by
  unfold kn1
  split
  · rfl
  · rw [mvM_S h3, detM_S h1 h2]
theorem kn1_A {u : SS} {p a j : Nat} (h0 : a ≠ 0) (h1 : a ≠ 23) (h2 : a ≠ 24) (h3 : a ≠ 25) (h4 : a ≠ 3) (h5 : a ≠ 2) : (kn1 u p).2 a j = u.2 a j := by
  unfold kn1
  split
  · rfl
  · rw [mvM_A h0 h1 h2 h3, detM_A h4 h5]
theorem knL_I {u : SS} {s : Nat} (I : CI u) (hs : s < 6) (hf : frOK u) : ∀ z : Nat, z ≤ 8 → CI (knL u s z) ∧ frOK (knL u s z) ∧ (knL u s z).1 14 = u.1 14
  | 0, _ => ⟨I, hf, rfl⟩
  | z + 1, h => by
    have h1 := knL_I I hs hf z (by omega)
    have h2 := kn1_I (p := 8 * s + z) h1.1 (by omega) h1.2.1
    exact ⟨h2.1, h2.2.1, h2.2.2.trans h1.2.2⟩
theorem knL_S {u : SS} {s t : Nat} (h1 : t ≠ 10) (h2 : t ≠ 11) (h3 : t ≠ 6) : ∀ z : Nat, (knL u s z).1 t = u.1 t
  | 0 => rfl
  | z + 1 => by show (kn1 _ _).1 t = _; rw [kn1_S h1 h2 h3, knL_S h1 h2 h3 z]
theorem knL_A {u : SS} {s a j : Nat} (h0 : a ≠ 0) (h1 : a ≠ 23) (h2 : a ≠ 24) (h3 : a ≠ 25) (h4 : a ≠ 3) (h5 : a ≠ 2) : ∀ z : Nat, (knL u s z).2 a j = u.2 a j
  | 0 => rfl
  | z + 1 => by show (kn1 _ _).2 a j = _; rw [kn1_A h0 h1 h2 h3 h4 h5, knL_A h0 h1 h2 h3 h4 h5 z]
theorem knM_S {u : SS} {s t : Nat} (h1 : t ≠ 10) (h2 : t ≠ 11) (h3 : t ≠ 6) (h4 : t ≠ 2) : (knM u s).1 t = u.1 t := by
  show (stS _ 2 _).1 t = _
  rw [stS_1, if_neg h4]
  exact knL_S h1 h2 h3 8
theorem knM_A {u : SS} {s a j : Nat} (h0 : a ≠ 0) (h1 : a ≠ 23) (h2 : a ≠ 24) (h3 : a ≠ 25) (h4 : a ≠ 3) (h5 : a ≠ 2) (h6 : a ≠ 16) (h7 : a ≠ 17) : (knM u s).2 a j = u.2 a j := by
  show (stA (stA (knL u s 8) 16 s 1) 17 s _).2 a j = _
  rw [stA_2, if_neg h7, stA_2, if_neg h6]
  exact knL_A h0 h1 h2 h3 h4 h5 8
theorem knM_2 {u : SS} {s : Nat} : (knM u s).1 2 = u.1 2 + 1 := by
  show (knL u s 8).1 2 + 1 = _
  rw [knL_S (by decide) (by decide) (by decide)]
theorem CI_knM {u : SS} {s : Nat} (I : CI u) (hs : s < 6) (hf : frOK u) (hb : u.1 2 + 1 ≤ 1000000) : CI (knM u s) := by
  have h := knL_I I hs hf 8 (Nat.le_refl _)
  have i1 := h.1.s1
  have i2 := h.1.s2
  have e2 : (knL u s 8).1 2 = u.1 2 := knL_S (by decide) (by decide) (by decide) 8
  exact CI_S (CI_A (CI_A h.1 (by decide) (by decide) (by decide)) (by show 0 ≤ (knL u s 8).1 1 ∧ (knL u s 8).1 1 ≤ 1000000; omega) (by decide) (by decide)) (Or.inr (Or.inr (by show 0 ≤ (knL u s 8).1 2 + 1 ∧ (knL u s 8).1 2 + 1 ≤ 1000000; omega))) (by decide) (by decide) (by decide) (by decide)
theorem frOK_knM {u : SS} {s : Nat} (I : CI u) (hs : s < 6) (hf : frOK u) : frOK (knM u s) := by
  have h := knL_I I hs hf 8 (Nat.le_refl _)
  intro p hp
  exact h.2.1 p hp
set_option maxHeartbeats 4000000 in
set_option maxRecDepth 100000 in
theorem l_X6_kill {k : Kx} (C : CX k RX6 cX6_killNextVictim 6) (hlv : klev k = 5) {u v : SS} {g : GH} (I : CI u) {s : Nat} (hs : (s : Int) < u.1 14) (h6 : s < 6) (hf : frOK u) : ∀ (m z : Nat), z ≤ 8 → 8 < z + m → EV k 62 [(0, vR (some 1000)), (1, vR (some (2000 + s)))] [] (mk (knL u s 8) v g) 0 0 → EV k 21 [(0, vR (some 1000)), (1, vR (some (2000 + s))), (2, vR (some (2100 + s))), (3, vI 8), (4, vI (z : Int))] [] (mk (knL u s z) v g) 0 0 := by
  intro m
  induction m with
  | zero =>
    intros
    exfalso
    omega
  | succ m ih =>
    intro z h1 h2 kx
    have hI := knL_I I h6 hf z h1
    refine ev_s C dX6_killNextVictim_21 (q := 23) rfl rfl ?_
    refine ev_s C dX6_killNextVictim_23 (q := 24) rfl rfl ?_
    refine ev_icmp_ge C dX6_killNextVictim_24 (tgt := 62) (q := 27) (by decide) rfl (by first | decide | (unfold rg; omega) | (have := hI.1.a23 (8 * s + z); show rg ((knL u s z).2 23 (8 * s + z)); unfold rg; omega)) (by first | decide | (unfold rg; omega) | (have := hI.1.a23 (8 * s + z); show rg ((knL u s z).2 23 (8 * s + z)); unfold rg; omega)) (fun b0 => ?_) (fun b0 => ?_)
    · obtain rfl : z = 8 := by omega
      refine ev_keep [0, 1] rfl ?_
      exact kx
    · have hpp : ((8 * s + z : Nat) : Int) < 8 * (knL u s z).1 14 := by have := hI.2.2; omega
      refine ev_s C dX6_killNextVictim_27 (q := 28) rfl rfl ?_
      refine ev_s C dX6_killNextVictim_28 (q := 30) rfl rfl ?_
      refine cl_2100 C dX6_killNextVictim_30 (q := 31) rfl (by show (_ : Int) < (knL u s z).1 14; omega) (by omega) (by omega) ?_
      refine ev_s C dX6_killNextVictim_31 (q := 33) rfl rfl ?_
      refine ev_s C dX6_killNextVictim_33 (q := 35) rfl rfl ?_
      refine cgp_3 C dX6_killNextVictim_35 kf_X6_112 (q := 38) rfl (by first | exact hpp | (rw [detM_S (by decide) (by decide)]; exact hpp)) ?_
      refine ev_s C dX6_killNextVictim_38 (q := 40) rfl rfl ?_
      refine ev_icmp_eq C dX6_killNextVictim_40 (tgt := 56) (q := 43) (by decide) rfl (by first | decide | (unfold rg; omega) | (have := hI.1.a23 (8 * s + z); show rg ((knL u s z).2 23 (8 * s + z)); unfold rg; omega)) (by first | decide | (unfold rg; omega) | (have := hI.1.a23 (8 * s + z); show rg ((knL u s z).2 23 (8 * s + z)); unfold rg; omega)) (fun b1 => ?_) (fun b1 => ?_)
      · refine ev_s C dX6_killNextVictim_56 (q := 59) rfl rfl ?_
        refine ev_goto C dX6_killNextVictim_59 (tgt := 21) (by decide) ?_
        refine ev_keep [0, 1, 2, 3, 4] rfl ?_
        refine ev_eq (G := mk (knL u s (z + 1)) v g) (by show _ = mk (kn1 (knL u s z) (8 * s + z)) v g; unfold kn1; first | (rw [if_pos (by assumption)]; done) | (rw [if_neg (by assumption)]; done)) ?_
        exact ih (z + 1) (by omega) (by omega) kx
      · have b9 : ¬ (knL u s z).2 23 (8 * s + z) = 45 := b1
        have hdt : (detM (knL u s z) (8 * s + z)).1 14 = (knL u s z).1 14 := detM_S (by decide) (by decide)
        refine ev_s C dX6_killNextVictim_43 (q := 44) rfl rfl ?_
        refine ev_s C dX6_killNextVictim_44 (q := 46) rfl rfl ?_
        refine ev_cV C dX6_killNextVictim_46 (q := 49) rfl km_X6_288 kv_X6_detach kc_X6_detach (c_X6_detach hI.1 (p := 8 * s + z) (by omega) (fun h => hI.2.1 _ h)) rfl rfl vcX6 rfl (by rw [hlv]; first | decide | omega) (by decide) (Nat.le_of_ble_eq_true rfl) (by first | exact Nat.zero_le _ | (rw [hmc]; decide) | (rw [hmc]; omega)) (by first | exact Nat.zero_le _ | (rw [hms]; decide) | (rw [hms]; omega)) ?_
        refine ev_s C dX6_killNextVictim_49 (q := 51) rfl rfl ?_
        refine ev_s C dX6_killNextVictim_51 (q := 53) rfl rfl ?_
        refine ev_cV C dX6_killNextVictim_53 (q := 56) rfl km_X6_323 kv_X2_moveTo kc_X2_moveTo (c_X2_moveTo (u := detM (knL u s z) (8 * s + z)) (p := 8 * s + z) (CI_det hI.1 _) (by rw [detM_S (by decide) (by decide)]; exact hpp) (by decide)) rfl rfl vcX2 (gp_ (by first | exact hpp | (rw [detM_S (by decide) (by decide)]; exact hpp))) (by rw [hlv]; first | decide | omega) (by decide) (Nat.le_of_ble_eq_true rfl) (by first | exact Nat.zero_le _ | (rw [hmc]; decide) | (rw [hmc]; omega)) (by first | exact Nat.zero_le _ | (rw [hms]; decide) | (rw [hms]; omega)) ?_
        refine ev_s C dX6_killNextVictim_56 (q := 59) rfl rfl ?_
        refine ev_goto C dX6_killNextVictim_59 (tgt := 21) (by decide) ?_
        refine ev_keep [0, 1, 2, 3, 4] rfl ?_
        refine ev_eq (G := mk (knL u s (z + 1)) v g) (by show _ = mk (kn1 (knL u s z) (8 * s + z)) v g; unfold kn1; first | (rw [if_pos (by assumption)]; done) | (rw [if_neg (by assumption)]; done)) ?_
        exact ih (z + 1) (by omega) (by omega) kx
set_option maxHeartbeats 4000000 in
set_option maxRecDepth 100000 in
theorem c_X6_kill0 {u v : SS} {g : GH} (I : CI u) (hf : frOK u) (h : cwst u (u.1 14).toNat < 0) : Cn yX6_killNextVictim (wsy yX6_killNextVictim cX6_killNextVictim 6 none) 5 0 0 nn [vR (some 1000)] (mk u v g) (.inl (none, mk u v g)) := by
  refine con_j (lv := [(0, vR (some 1000))]) (by decide) (fun ad => Nat.le_of_ble_eq_true rfl) (fun ad => rfl) rfl ?_
  intro k C hr hlv hmc hms hPo hPx htab
  refine ev_s C dX6_killNextVictim_0 (q := 1) rfl rfl ?_
  refine ev_cV C dX6_killNextVictim_1 (q := 4) rfl km_X6_242 kv_X6_nextVictim kc_X6_nextVictim (c_X6_nextVictim I) rfl rfl vcX6 rfl (by rw [hlv]; first | decide | omega) (by decide) (Nat.le_of_ble_eq_true rfl) (by first | exact Nat.zero_le _ | (rw [hmc]; decide) | (rw [hmc]; omega)) (by first | exact Nat.zero_le _ | (rw [hms]; decide) | (rw [hms]; omega)) ?_
  rw [svo_n h]
  show EV k 4 _ (vR none :: []) _ _ _
  refine ev_s C dX6_killNextVictim_4 (q := 5) rfl rfl ?_
  refine ev_s C dX6_killNextVictim_5 (q := 6) rfl rfl ?_
  refine ev_ifnonnull C dX6_killNextVictim_6 (tgt := 10) (q := 9) (by decide) rfl (fun b0 => ?_) (fun b0 => ?_)
  · (obtain ⟨_, h9⟩ := b0; cases h9)
  · exact ev_vret C hr dX6_killNextVictim_9 (Nat.zero_le _) (Nat.zero_le _) (po_0 hPo rfl)
set_option maxHeartbeats 4000000 in
set_option maxRecDepth 100000 in
theorem c_X6_kill1 {u v : SS} {g : GH} (I : CI u) (hf : frOK u) {s : Nat} (h : cwst u (u.1 14).toNat = (s : Int)) : Cn yX6_killNextVictim (wsy yX6_killNextVictim cX6_killNextVictim 6 none) 5 0 0 nn [vR (some 1000)] (mk u v g) (.inl (none, mk (knM u s) v g)) := by
  refine con_j (lv := [(0, vR (some 1000))]) (by decide) (fun ad => Nat.le_of_ble_eq_true rfl) (fun ad => rfl) rfl ?_
  intro k C hr hlv hmc hms hPo hPx htab
  have i14 := I.s14
  have hcb := cwst_b u (u.1 14).toNat
  have hs : (s : Int) < u.1 14 := by omega
  have h6 : s < 6 := by omega
  have hI := knL_I I h6 hf 8 (Nat.le_refl _)
  refine ev_s C dX6_killNextVictim_0 (q := 1) rfl rfl ?_
  refine ev_cV C dX6_killNextVictim_1 (q := 4) rfl km_X6_242 kv_X6_nextVictim kc_X6_nextVictim (c_X6_nextVictim I) rfl rfl vcX6 rfl (by rw [hlv]; first | decide | omega) (by decide) (Nat.le_of_ble_eq_true rfl) (by first | exact Nat.zero_le _ | (rw [hmc]; decide) | (rw [hmc]; omega)) (by first | exact Nat.zero_le _ | (rw [hms]; decide) | (rw [hms]; omega)) ?_
  rw [h, svo_k]
  show EV k 4 _ (vR (some (2000 + s)) :: []) _ _ _
  refine ev_s C dX6_killNextVictim_4 (q := 5) rfl rfl ?_
  refine ev_s C dX6_killNextVictim_5 (q := 6) rfl rfl ?_
  refine ev_ifnonnull C dX6_killNextVictim_6 (tgt := 10) (q := 9) (by decide) rfl (fun b0 => ?_) (fun b0 => ?_)
  · refine ev_s C dX6_killNextVictim_10 (q := 11) rfl rfl ?_
    refine cgs_4 C dX6_killNextVictim_11 kf_X6_279 (q := 14) rfl (by first | exact hs | (show (s : Int) < (knL u s 8).1 14; omega)) (by omega) ?_
    refine ev_s C dX6_killNextVictim_14 (q := 15) rfl rfl ?_
    refine ev_s C dX6_killNextVictim_15 (q := 16) rfl rfl ?_
    refine cn_2100 C dX6_killNextVictim_16 (q := 17) rfl (by show (_ : Int) < u.1 14; omega) (by omega) ?_
    refine ev_s C dX6_killNextVictim_17 (q := 18) rfl rfl ?_
    refine ev_s C dX6_killNextVictim_18 (q := 19) rfl rfl ?_
    refine ev_s C dX6_killNextVictim_19 (q := 21) rfl rfl ?_
    refine l_X6_kill C hlv I hs h6 hf 9 0 (by decide) (by decide) ?_
    refine ev_s C dX6_killNextVictim_62 (q := 63) rfl rfl ?_
    refine ev_s C dX6_killNextVictim_63 (q := 64) rfl rfl ?_
    refine cps_6 C dX6_killNextVictim_64 kf_X6_217 (q := 67) rfl (fit_Z (by first | decide | exact bI_01 _ | assumption)) (by first | exact hs | (show (s : Int) < (knL u s 8).1 14; omega)) (by omega) ?_
    refine ev_s C dX6_killNextVictim_67 (q := 68) rfl rfl ?_
    refine ev_s C dX6_killNextVictim_68 (q := 69) rfl rfl ?_
    refine cg_1000_6 C dX6_killNextVictim_69 kf_X6_165 (q := 72) rfl ?_
    refine cps_7 C dX6_killNextVictim_72 kf_X6_327 (q := 75) rfl (fit_I _) (by first | exact hs | (show (s : Int) < (knL u s 8).1 14; omega)) (by omega) ?_
    refine ev_s C dX6_killNextVictim_75 (q := 76) rfl rfl ?_
    refine ev_s C dX6_killNextVictim_76 (q := 77) rfl rfl ?_
    refine cg_1000_7 C dX6_killNextVictim_77 kf_X6_159 (q := 80) rfl ?_
    refine ev_s C dX6_killNextVictim_80 (q := 81) rfl rfl ?_
    refine ev_s C dX6_killNextVictim_81 (q := 82) rfl rfl ?_
    refine cp_1000_7 C dX6_killNextVictim_82 kf_X6_159 (q := 85) rfl (fit_I _) ?_
    exact ev_vret C hr dX6_killNextVictim_85 (Nat.zero_le _) (Nat.zero_le _) (po_0 hPo rfl)
  · cases b0
theorem c_X6_killNextVictim {u v : SS} {g : GH} (I : CI u) (hf : frOK u) : Cn yX6_killNextVictim (wsy yX6_killNextVictim cX6_killNextVictim 6 none) 5 0 0 nn [vR (some 1000)] (mk u v g) (.inl (none, mk (knV u) v g)) := by
  have hcb := cwst_b u (u.1 14).toNat
  unfold knV
  by_cases h : cwst u (u.1 14).toNat < 0
  · rw [if_pos h]; exact c_X6_kill0 I hf h
  · rw [if_neg h]; exact c_X6_kill1 I hf (s := (cwst u (u.1 14).toNat).toNat) (by omega)
def csQ (u : SS) (z : Nat) : Bool := decide (u.2 16 z = 0) || (decide (0 < u.2 13 z - (u.1 1 - u.2 17 z)) || (decide (u.2 12 z ≠ 97) && !anyN (u.1 14).toNat (inP u z)))
def csp (z : Nat) (u : SS) : SS := if csQ u z then u else stA (stA u 16 z 0) 18 z (u.2 18 z + 1)
def csl : Nat → Nat → SS → SS
  | 0, _, u => u
  | m + 1, z, u => csl m (z + 1) (csp z u)
theorem csl_s {m z : Nat} {u : SS} : csl (m + 1) z u = csl m (z + 1) (csp z u) := rfl
theorem csQ_1 {u : SS} {z : Nat} (h : u.2 16 z = 0) : csQ u z = true := by simp [csQ, h]
theorem csQ_2 {u : SS} {z : Nat} (h : 0 < u.2 13 z - (u.1 1 - u.2 17 z)) : csQ u z = true := by unfold csQ; rw [decide_eq_true h]; simp
theorem csQ_3 {u : SS} {z : Nat} (h1 : u.2 12 z ≠ 97) (h2 : anyN (u.1 14).toNat (inP u z) = false) : csQ u z = true := by simp [csQ, h1, h2]
theorem csQ_f1 {u : SS} {z : Nat} (h1 : ¬ u.2 16 z = 0) (h2 : ¬ 0 < u.2 13 z - (u.1 1 - u.2 17 z)) (h3 : u.2 12 z = 97) : ¬ csQ u z = true := by unfold csQ; rw [decide_eq_false h1, decide_eq_false h2]; simp [h3]
theorem csQ_f2 {u : SS} {z : Nat} (h1 : ¬ u.2 16 z = 0) (h2 : ¬ 0 < u.2 13 z - (u.1 1 - u.2 17 z)) (h3 : anyN (u.1 14).toNat (inP u z) = true) : ¬ csQ u z = true := by unfold csQ; rw [decide_eq_false h1, decide_eq_false h2]; simp [h3]
theorem csp_S {z s : Nat} {u : SS} : (csp z u).1 s = u.1 s := by unfold csp; split <;> rfl
theorem csp_A {z a j : Nat} {u : SS} (h1 : a ≠ 16) (h2 : a ≠ 18) : (csp z u).2 a j = u.2 a j := by
  unfold csp
  split
  · rfl
  · rw [stA_2, if_neg h2, stA_2, if_neg h1]
theorem csp_18 {z j : Nat} {u : SS} : u.2 18 j ≤ (csp z u).2 18 j ∧ (csp z u).2 18 j ≤ u.2 18 j + (if j = z then 1 else 0) := by
  unfold csp
  split
  · split <;> omega
  · rw [stA_2, if_pos rfl]
    by_cases e : j = z
    · rw [if_pos e, if_pos e, e]; omega
    · rw [if_neg e, if_neg e]
      show u.2 18 j ≤ (stA u 16 z 0).2 18 j ∧ _
      rw [stA_2, if_neg (by decide)]; omega
theorem CI_csp {z : Nat} {u : SS} (I : CI u) (h : u.2 18 z + 1 ≤ 1000000) : CI (csp z u) := by
  have i18 := I.a18 z
  unfold csp
  split
  · exact I
  · exact CI_A (CI_A I (by decide) (by decide) (by decide)) (by show 0 ≤ u.2 18 z + 1 ∧ u.2 18 z + 1 ≤ 1000000; omega) (by decide) (by decide)
theorem csl_S {s : Nat} : ∀ {m z : Nat} {u : SS}, (csl m z u).1 s = u.1 s
  | 0, _, _ => rfl
  | m + 1, z, u => by rw [csl_s, csl_S, csp_S]
theorem csl_A {a j : Nat} (h1 : a ≠ 16) (h2 : a ≠ 18) : ∀ {m z : Nat} {u : SS}, (csl m z u).2 a j = u.2 a j
  | 0, _, _ => rfl
  | m + 1, z, u => by rw [csl_s, csl_A h1 h2, csp_A h1 h2]
theorem csl_lo {j : Nat} : ∀ {m z : Nat} {u : SS}, j < z → (csl m z u).2 18 j = u.2 18 j
  | 0, _, _, _ => rfl
  | m + 1, z, u, h => by
    have := csp_18 (z := z) (j := j) (u := u)
    rw [if_neg (by omega)] at this
    rw [csl_s, csl_lo (by omega)]
    omega
theorem csl_18 {j : Nat} : ∀ {m z : Nat} {u : SS}, (csl m z u).2 18 j ≤ u.2 18 j + 1
  | 0, _, _ => by show _ ≤ _; unfold csl; omega
  | m + 1, z, u => by
    have h := csp_18 (z := z) (j := j) (u := u)
    rw [csl_s]
    by_cases e : j = z
    · rw [if_pos e] at h
      rw [csl_lo (by omega)]; omega
    · rw [if_neg e] at h
      have := csl_18 (j := j) (m := m) (z := z + 1) (u := csp z u)
      omega
theorem CI_csl : ∀ {m z : Nat} {u : SS}, CI u → (∀ j, z ≤ j → u.2 18 j + 1 ≤ 1000000) → CI (csl m z u)
  | 0, _, _, I, _ => I
  | m + 1, z, u, I, h => by
    rw [csl_s]
    refine CI_csl (CI_csp I (h z (Nat.le_refl _))) (fun j hj => ?_)
    have h6 := csp_18 (z := z) (j := j) (u := u)
    rw [if_neg (by omega)] at h6
    have := h j (by omega)
    omega
set_option maxHeartbeats 4000000 in
set_option maxRecDepth 100000 in
theorem l_X6_startDead {k : Kx} (C : CX k RX6 cX6_startDeadServices 3) (hlv : klev k = 4) {v : SS} {g : GH} {w : SS} {N : Nat} (hN6 : N ≤ 6) (hr : (kmeth k).sig.returnType = none) (hPo : kPo k = PoR (.inl (none, mk w v g))) : ∀ (m z : Nat) (u : SS), m = N - z + 1 → z ≤ N → u.1 14 = (N : Int) → CI u → (∀ j, z ≤ j → u.2 18 j + 1 ≤ 1000000) → csl (N - z) z u = w → EV k 2 [(0, vR (some 1000)), (1, vI (z : Int))] [] (mk u v g) 0 0 := by
  intro m
  induction m with
  | zero =>
    intros
    exfalso
    omega
  | succ m ih =>
    intro z u hm h1 hN I h6 hw
    have i14 := I.s14
    have ia := I.a16 z
    have ib := I.a17 z
    have ic := I.a13 z
    have id := I.a12 z
    have ie := I.a18 z
    have i1 := I.s1
    have hz := h6 z (Nat.le_refl _)
    refine ev_s C dX6_startDeadServices_2 (q := 3) rfl rfl ?_
    refine ev_s C dX6_startDeadServices_3 (q := 4) rfl rfl ?_
    refine cg_1000_4 C dX6_startDeadServices_4 kf_X6_40 (q := 7) rfl ?_
    refine ev_cV C dX6_startDeadServices_7 (q := 10) rfl km_X6_59 kv_Jx4a65c_size_8abf5 kc_Jx4a65c_size_8abf5 (c_size_s) rfl rfl vcJx4a65c rfl (by rw [hlv]; first | decide | omega) (by decide) (Nat.le_of_ble_eq_true rfl) (by first | exact Nat.zero_le _ | (rw [hmc]; decide) | (rw [hmc]; omega)) (by first | exact Nat.zero_le _ | (rw [hms]; decide) | (rw [hms]; omega)) ?_
    refine ev_icmp_ge C dX6_startDeadServices_10 (tgt := 81) (q := 13) (by decide) rfl (by first | decide | (unfold rg; omega) | assumption | exact bAnd_rg _ _) (by first | decide | (unfold rg; omega) | assumption | exact bAnd_rg _ _) (fun b0 => ?_) (fun b0 => ?_)
    · exact ev_vret C hr dX6_startDeadServices_81 (Nat.zero_le _) (Nat.zero_le _) (po_0 hPo (by (obtain rfl : z = N := (by omega)); rw [Nat.sub_self] at hw; subst hw; rfl))
    · refine ev_s C dX6_startDeadServices_13 (q := 14) rfl rfl ?_
      refine cg_1000_4 C dX6_startDeadServices_14 kf_X6_40 (q := 17) rfl ?_
      refine ev_s C dX6_startDeadServices_17 (q := 18) rfl rfl ?_
      refine ev_cV C dX6_startDeadServices_18 (q := 21) rfl km_X6_200 kv_Jx4a65c_get_915e3 kc_Jx4a65c_get_915e3 (c_get_s I (i := z) (by omega)) rfl rfl vcJx4a65c rfl (by rw [hlv]; first | decide | omega) (by decide) (Nat.le_of_ble_eq_true rfl) (by first | exact Nat.zero_le _ | (rw [hmc]; decide) | (rw [hmc]; omega)) (by first | exact Nat.zero_le _ | (rw [hms]; decide) | (rw [hms]; omega)) ?_
      refine ev_chk C dX6_startDeadServices_21 (q := 24) rfl vcX4 kl_X6_68 (fun n h => by cases h; exact ⟨_, gs_ (by show (_ : Int) < u.1 14; omega) (by omega)⟩) ?_
      refine ev_s C dX6_startDeadServices_24 (q := 25) rfl rfl ?_
      refine ev_s C dX6_startDeadServices_25 (q := 26) rfl rfl ?_
      refine cgs_6 C dX6_startDeadServices_26 kf_X6_217 (q := 29) rfl (by show (_ : Int) < u.1 14; omega) (by omega) ?_
      refine ev_if_eq C dX6_startDeadServices_29 (tgt := 75) (q := 32) (by decide) rfl (by first | decide | (unfold rg; omega) | assumption | exact bAnd_rg _ _) (fun b1 => ?_) (fun b1 => ?_)
      · refine ev_s C dX6_startDeadServices_75 (q := 78) rfl rfl ?_
        refine ev_goto C dX6_startDeadServices_78 (tgt := 2) (by decide) ?_
        refine ev_keep [0, 1] rfl ?_
        rw [show N - z = (N - (z + 1)) + 1 by omega, csl_s] at hw
        have J := CI_csp (z := z) I (h6 z (Nat.le_refl _))
        have J6 : ∀ j, z + 1 ≤ j → (csp z u).2 18 j + 1 ≤ 1000000 := fun j hj => by
          have h7 := csp_18 (z := z) (j := j) (u := u)
          rw [if_neg (by omega)] at h7
          have := h6 j (by omega)
          omega
        first
          | (have hq : csQ u z = true := (by first | exact csQ_1 b1 | exact csQ_2 bt | exact csQ_3 bq b4)
             have eq : csp z u = u := by unfold csp; rw [if_pos hq]
             rw [eq] at hw J J6
             exact ih (z + 1) u (by omega) (by omega) hN J J6 hw)
          | (have hq : ¬ csQ u z = true := (by first | exact csQ_f1 b1 bt bq | exact csQ_f2 b1 bt b4)
             have eq : csp z u = stA (stA u 16 z 0) 18 z (u.2 18 z + 1) := by unfold csp; rw [if_neg hq]
             rw [eq] at hw J J6
             exact ih (z + 1) _ (by omega) (by omega) hN J J6 hw)
      · refine ev_s C dX6_startDeadServices_32 (q := 33) rfl rfl ?_
        refine ev_s C dX6_startDeadServices_33 (q := 34) rfl rfl ?_
        refine cg_1000_6 C dX6_startDeadServices_34 kf_X6_165 (q := 37) rfl ?_
        refine ev_cV C dX6_startDeadServices_37 (q := 40) rfl km_X6_227 kv_X4_delayLeft kc_X4_delayLeft (c_X4_delayLeft I (s := z) (by omega)) rfl rfl vcX4 (gs_ (by show (_ : Int) < u.1 14; omega) (by omega)) (by rw [hlv]; first | decide | omega) (by decide) (Nat.le_of_ble_eq_true rfl) (by first | exact Nat.zero_le _ | (rw [hmc]; decide) | (rw [hmc]; omega)) (by first | exact Nat.zero_le _ | (rw [hms]; decide) | (rw [hms]; omega)) ?_
        refine ev_if_gt C dX6_startDeadServices_40 (tgt := 75) (q := 43) (by decide) rfl (by first | decide | (unfold rg; omega) | assumption | exact bAnd_rg _ _) (fun b2 => ?_) (fun b2 => ?_)
        · have bt : 0 < u.2 13 z - (u.1 1 - u.2 17 z) := by omega
          refine ev_s C dX6_startDeadServices_75 (q := 78) rfl rfl ?_
          refine ev_goto C dX6_startDeadServices_78 (tgt := 2) (by decide) ?_
          refine ev_keep [0, 1] rfl ?_
          rw [show N - z = (N - (z + 1)) + 1 by omega, csl_s] at hw
          have J := CI_csp (z := z) I (h6 z (Nat.le_refl _))
          have J6 : ∀ j, z + 1 ≤ j → (csp z u).2 18 j + 1 ≤ 1000000 := fun j hj => by
            have h7 := csp_18 (z := z) (j := j) (u := u)
            rw [if_neg (by omega)] at h7
            have := h6 j (by omega)
            omega
          first
            | (have hq : csQ u z = true := (by first | exact csQ_1 b1 | exact csQ_2 bt | exact csQ_3 bq b4)
               have eq : csp z u = u := by unfold csp; rw [if_pos hq]
               rw [eq] at hw J J6
               exact ih (z + 1) u (by omega) (by omega) hN J J6 hw)
            | (have hq : ¬ csQ u z = true := (by first | exact csQ_f1 b1 bt bq | exact csQ_f2 b1 bt b4)
               have eq : csp z u = stA (stA u 16 z 0) 18 z (u.2 18 z + 1) := by unfold csp; rw [if_neg hq]
               rw [eq] at hw J J6
               exact ih (z + 1) _ (by omega) (by omega) hN J J6 hw)
        · have bt : ¬ 0 < u.2 13 z - (u.1 1 - u.2 17 z) := by omega
          refine ev_s C dX6_startDeadServices_43 (q := 44) rfl rfl ?_
          refine cgs_2 C dX6_startDeadServices_44 kf_X6_330 (q := 47) rfl (by show (_ : Int) < u.1 14; omega) (by omega) ?_
          refine ev_s C dX6_startDeadServices_47 (q := 49) rfl rfl ?_
          refine ev_icmp_eq C dX6_startDeadServices_49 (tgt := 60) (q := 52) (by decide) rfl (by first | decide | (unfold rg; omega) | assumption | exact bAnd_rg _ _) (by first | decide | (unfold rg; omega) | assumption | exact bAnd_rg _ _) (fun b3 => ?_) (fun b3 => ?_)
          · have bq : u.2 12 z = 97 := by omega
            refine ev_s C dX6_startDeadServices_60 (q := 61) rfl rfl ?_
            refine ev_s C dX6_startDeadServices_61 (q := 62) rfl rfl ?_
            refine cps_6 C dX6_startDeadServices_62 kf_X6_217 (q := 65) rfl (fit_Z (by first | decide | exact bI_01 _ | assumption)) (by show (_ : Int) < u.1 14; omega) (by omega) ?_
            refine ev_s C dX6_startDeadServices_65 (q := 66) rfl rfl ?_
            refine ev_s C dX6_startDeadServices_66 (q := 67) rfl rfl ?_
            refine cgs_8 C dX6_startDeadServices_67 kf_X6_236 (q := 70) rfl (by show (_ : Int) < u.1 14; omega) (by omega) ?_
            refine ev_s C dX6_startDeadServices_70 (q := 71) rfl rfl ?_
            refine ev_s C dX6_startDeadServices_71 (q := 72) rfl rfl ?_
            refine cps_8 C dX6_startDeadServices_72 kf_X6_236 (q := 75) rfl (fit_I _) (by show (_ : Int) < u.1 14; omega) (by omega) ?_
            refine ev_s C dX6_startDeadServices_75 (q := 78) rfl rfl ?_
            refine ev_goto C dX6_startDeadServices_78 (tgt := 2) (by decide) ?_
            refine ev_keep [0, 1] rfl ?_
            rw [show N - z = (N - (z + 1)) + 1 by omega, csl_s] at hw
            have J := CI_csp (z := z) I (h6 z (Nat.le_refl _))
            have J6 : ∀ j, z + 1 ≤ j → (csp z u).2 18 j + 1 ≤ 1000000 := fun j hj => by
              have h7 := csp_18 (z := z) (j := j) (u := u)
              rw [if_neg (by omega)] at h7
              have := h6 j (by omega)
              omega
            first
              | (have hq : csQ u z = true := (by first | exact csQ_1 b1 | exact csQ_2 bt | exact csQ_3 bq b4)
                 have eq : csp z u = u := by unfold csp; rw [if_pos hq]
                 rw [eq] at hw J J6
                 exact ih (z + 1) u (by omega) (by omega) hN J J6 hw)
              | (have hq : ¬ csQ u z = true := (by first | exact csQ_f1 b1 bt bq | exact csQ_f2 b1 bt b4)
                 have eq : csp z u = stA (stA u 16 z 0) 18 z (u.2 18 z + 1) := by unfold csp; rw [if_neg hq]
                 rw [eq] at hw J J6
                 exact ih (z + 1) _ (by omega) (by omega) hN J J6 hw)
          · have bq : u.2 12 z ≠ 97 := by omega
            refine ev_s C dX6_startDeadServices_52 (q := 53) rfl rfl ?_
            refine ev_s C dX6_startDeadServices_53 (q := 54) rfl rfl ?_
            refine ev_cV C dX6_startDeadServices_54 (q := 57) rfl km_X6_222 kv_X6_isNeededByLiving kc_X6_isNeededByLiving (c_X6_isNeededByLiving I (s := z)) rfl rfl vcX6 rfl (by rw [hlv]; first | decide | omega) (by decide) (Nat.le_of_ble_eq_true rfl) (by first | exact Nat.zero_le _ | (rw [hmc]; decide) | (rw [hmc]; omega)) (by first | exact Nat.zero_le _ | (rw [hms]; decide) | (rw [hms]; omega)) ?_
            refine ev_ifB_eq C dX6_startDeadServices_57 (tgt := 75) (q := 60) (by decide) rfl (fun b4 => ?_) (fun b4 => ?_)
            · refine ev_s C dX6_startDeadServices_75 (q := 78) rfl rfl ?_
              refine ev_goto C dX6_startDeadServices_78 (tgt := 2) (by decide) ?_
              refine ev_keep [0, 1] rfl ?_
              rw [show N - z = (N - (z + 1)) + 1 by omega, csl_s] at hw
              have J := CI_csp (z := z) I (h6 z (Nat.le_refl _))
              have J6 : ∀ j, z + 1 ≤ j → (csp z u).2 18 j + 1 ≤ 1000000 := fun j hj => by
                have h7 := csp_18 (z := z) (j := j) (u := u)
                rw [if_neg (by omega)] at h7
                have := h6 j (by omega)
                omega
              first
                | (have hq : csQ u z = true := (by first | exact csQ_1 b1 | exact csQ_2 bt | exact csQ_3 bq b4)
                   have eq : csp z u = u := by unfold csp; rw [if_pos hq]
                   rw [eq] at hw J J6
                   exact ih (z + 1) u (by omega) (by omega) hN J J6 hw)
                | (have hq : ¬ csQ u z = true := (by first | exact csQ_f1 b1 bt bq | exact csQ_f2 b1 bt b4)
                   have eq : csp z u = stA (stA u 16 z 0) 18 z (u.2 18 z + 1) := by unfold csp; rw [if_neg hq]
                   rw [eq] at hw J J6
                   exact ih (z + 1) _ (by omega) (by omega) hN J J6 hw)
            · refine ev_s C dX6_startDeadServices_60 (q := 61) rfl rfl ?_
              refine ev_s C dX6_startDeadServices_61 (q := 62) rfl rfl ?_
              refine cps_6 C dX6_startDeadServices_62 kf_X6_217 (q := 65) rfl (fit_Z (by first | decide | exact bI_01 _ | assumption)) (by show (_ : Int) < u.1 14; omega) (by omega) ?_
              refine ev_s C dX6_startDeadServices_65 (q := 66) rfl rfl ?_
              refine ev_s C dX6_startDeadServices_66 (q := 67) rfl rfl ?_
              refine cgs_8 C dX6_startDeadServices_67 kf_X6_236 (q := 70) rfl (by show (_ : Int) < u.1 14; omega) (by omega) ?_
              refine ev_s C dX6_startDeadServices_70 (q := 71) rfl rfl ?_
              refine ev_s C dX6_startDeadServices_71 (q := 72) rfl rfl ?_
              refine cps_8 C dX6_startDeadServices_72 kf_X6_236 (q := 75) rfl (fit_I _) (by show (_ : Int) < u.1 14; omega) (by omega) ?_
              refine ev_s C dX6_startDeadServices_75 (q := 78) rfl rfl ?_
              refine ev_goto C dX6_startDeadServices_78 (tgt := 2) (by decide) ?_
              refine ev_keep [0, 1] rfl ?_
              rw [show N - z = (N - (z + 1)) + 1 by omega, csl_s] at hw
              have J := CI_csp (z := z) I (h6 z (Nat.le_refl _))
              have J6 : ∀ j, z + 1 ≤ j → (csp z u).2 18 j + 1 ≤ 1000000 := fun j hj => by
                have h7 := csp_18 (z := z) (j := j) (u := u)
                rw [if_neg (by omega)] at h7
                have := h6 j (by omega)
                omega
              first
                | (have hq : csQ u z = true := (by first | exact csQ_1 b1 | exact csQ_2 bt | exact csQ_3 bq b4)
                   have eq : csp z u = u := by unfold csp; rw [if_pos hq]
                   rw [eq] at hw J J6
                   exact ih (z + 1) u (by omega) (by omega) hN J J6 hw)
                | (have hq : ¬ csQ u z = true := (by first | exact csQ_f1 b1 bt bq | exact csQ_f2 b1 bt b4)
                   have eq : csp z u = stA (stA u 16 z 0) 18 z (u.2 18 z + 1) := by unfold csp; rw [if_neg hq]
                   rw [eq] at hw J J6
                   exact ih (z + 1) _ (by omega) (by omega) hN J J6 hw)
set_option maxHeartbeats 4000000 in
set_option maxRecDepth 100000 in
theorem c_X6_startDeadServices {u v : SS} {g : GH} (I : CI u) (hb : ∀ j, u.2 18 j + 1 ≤ 1000000) : Cn yX6_startDeadServices (wsy yX6_startDeadServices cX6_startDeadServices 3 none) 4 0 0 nn [vR (some 1000)] (mk u v g) (.inl (none, mk (csl (u.1 14).toNat 0 u) v g)) := by
  refine con_j (lv := [(0, vR (some 1000))]) (by decide) (fun ad => Nat.le_of_ble_eq_true rfl) (fun ad => rfl) rfl ?_
  intro k C hr hlv hmc hms hPo hPx htab
  refine ev_s C dX6_startDeadServices_0 (q := 1) rfl rfl ?_
  refine ev_s C dX6_startDeadServices_1 (q := 2) rfl rfl ?_
  have i14 := I.s14
  exact l_X6_startDead C hlv (N := (u.1 14).toNat) (by omega) hr hPo ((u.1 14).toNat - 0 + 1) 0 u rfl (Nat.zero_le _) (by omega) I (fun j _ => hb j) rfl
def cpA (u : SS) : SS := if u.1 0 < csum u then fgM (knV u) else u
def cpB (a : SS) : SS := btM (stS a 1 (a.1 1 + 1))
def cpM (u : SS) : SS := csl ((cpB (cpA u)).1 14).toNat 0 (cpB (cpA u))
def cBG (u : SS) (b : Int) : Prop := u.1 1 + b ≤ 1000000 ∧ u.1 2 + b ≤ 1000000 ∧ ∀ j, u.2 18 j + b ≤ 1000000
theorem knV_S {u : SS} {t : Nat} (h1 : t ≠ 10) (h2 : t ≠ 11) (h3 : t ≠ 6) (h4 : t ≠ 2) : (knV u).1 t = u.1 t := by
  unfold knV
  split
  · rfl
  · exact knM_S h1 h2 h3 h4
theorem knV_A {u : SS} {a j : Nat} (h0 : a ≠ 0) (h1 : a ≠ 23) (h2 : a ≠ 24) (h3 : a ≠ 25) (h4 : a ≠ 3) (h5 : a ≠ 2) (h6 : a ≠ 16) (h7 : a ≠ 17) : (knV u).2 a j = u.2 a j := by
  unfold knV
  split
  · rfl
  · exact knM_A h0 h1 h2 h3 h4 h5 h6 h7
theorem knV_2 {u : SS} : u.1 2 ≤ (knV u).1 2 ∧ (knV u).1 2 ≤ u.1 2 + 1 := by
  unfold knV
  split
  · omega
  · rw [knM_2]; omega
theorem knV_I {u : SS} (I : CI u) (hf : frOK u) (hb : u.1 2 + 1 ≤ 1000000) : CI (knV u) ∧ frOK (knV u) := by
  have hcb := cwst_b u (u.1 14).toNat
  have i14 := I.s14
  unfold knV
  split
  · exact ⟨I, hf⟩
  · exact ⟨CI_knM I (by omega) hf hb, frOK_knM I (by omega) hf⟩
theorem fgM_A {u : SS} {a j : Nat} (h : a ≠ 4) : (fgM u).2 a j = u.2 a j := by
  unfold fgM
  rw [stA_2, if_neg h, stA_2, if_neg h, stA_2, if_neg h, stA_2, if_neg h]
theorem CI_fg {u : SS} (I : CI u) : CI (fgM u) := CI_A (CI_A (CI_A (CI_A I (by decide) (by decide) (by decide)) (by decide) (by decide) (by decide)) (by decide) (by decide) (by decide)) (by decide) (by decide) (by decide)
theorem CI_bt1 {u : SS} {i : Nat} (I : CI u) : CI (bt1 u i) := CI_A I (I.a4 i) (by decide) (by decide)
theorem CI_bt {u : SS} (I : CI u) : CI (btM u) := CI_A (CI_bt1 (CI_bt1 (CI_bt1 I))) (by decide) (by decide) (by decide)
theorem btM_A {u : SS} {a j : Nat} (h : a ≠ 4) : (btM u).2 a j = u.2 a j := by
  unfold btM bt1
  rw [stA_2, if_neg h, stA_2, if_neg h, stA_2, if_neg h, stA_2, if_neg h]
theorem cpA_I {u : SS} (I : CI u) (hf : frOK u) (hb : u.1 2 + 1 ≤ 1000000) : CI (cpA u) ∧ frOK (cpA u) := by
  unfold cpA
  have h := knV_I I hf hb
  split
  · refine ⟨CI_fg h.1, fun p hp => ?_⟩
    rw [fgM_A (by decide)] at hp ⊢
    exact h.2 p hp
  · exact ⟨I, hf⟩
theorem cpA_S {u : SS} {t : Nat} (h1 : t ≠ 10) (h2 : t ≠ 11) (h3 : t ≠ 6) (h4 : t ≠ 2) : (cpA u).1 t = u.1 t := by
  unfold cpA
  split
  · exact knV_S h1 h2 h3 h4
  · rfl
theorem cpA_2 {u : SS} : u.1 2 ≤ (cpA u).1 2 ∧ (cpA u).1 2 ≤ u.1 2 + 1 := by
  unfold cpA
  split
  · exact knV_2
  · omega
theorem cpA_A {u : SS} {a j : Nat} (h0 : a ≠ 0) (h1 : a ≠ 23) (h2 : a ≠ 24) (h3 : a ≠ 25) (h4 : a ≠ 3) (h5 : a ≠ 2) (h6 : a ≠ 16) (h7 : a ≠ 17) (h8 : a ≠ 4) : (cpA u).2 a j = u.2 a j := by
  unfold cpA
  split
  · rw [fgM_A h8]; exact knV_A h0 h1 h2 h3 h4 h5 h6 h7
  · rfl
theorem CI_cpB {a : SS} (I : CI a) (h : a.1 1 + 1 ≤ 1000000) : CI (cpB a) := by
  have i1 := I.s1
  exact CI_bt (CI_S I (Or.inr (Or.inr (by show 0 ≤ a.1 1 + 1 ∧ a.1 1 + 1 ≤ 1000000; omega))) (by decide) (by decide) (by decide) (by decide))
theorem cpB_A {a : SS} {b j : Nat} (h : b ≠ 4) : (cpB a).2 b j = a.2 b j := by unfold cpB; rw [btM_A h]; rfl
theorem cpB_18 {u : SS} {j : Nat} : (cpB (cpA u)).2 18 j = u.2 18 j := by
  rw [cpB_A (by decide), cpA_A (by decide) (by decide) (by decide) (by decide) (by decide) (by decide) (by decide) (by decide) (by decide)]
theorem cpM_I {u : SS} {b : Int} (I : CI u) (hf : frOK u) (hb : cBG u (b + 1)) (hb0 : 0 ≤ b) : CI (cpM u) ∧ frOK (cpM u) ∧ cBG (cpM u) b := by
  obtain ⟨h1, h2, h3⟩ := hb
  have hA := cpA_I I hf (by omega)
  have e1 : (cpA u).1 1 = u.1 1 := cpA_S (by decide) (by decide) (by decide) (by decide)
  have e2 := cpA_2 (u := u)
  have hB := CI_cpB hA.1 (by omega)
  refine ⟨CI_csl hB (fun j _ => by rw [cpB_18]; have := h3 j; omega), fun p hp => ?_, ?_, ?_, fun j => ?_⟩
  · unfold cpM at hp ⊢
    rw [csl_A (by decide) (by decide), cpB_A (by decide)] at hp ⊢
    exact hA.2 p hp
  · show (csl _ _ _).1 1 + b ≤ _
    rw [csl_S]
    show (cpA u).1 1 + 1 + b ≤ _
    omega
  · show (csl _ _ _).1 2 + b ≤ _
    rw [csl_S]
    show (cpA u).1 2 + b ≤ _
    omega
  · have := csl_18 (j := j) (m := ((cpB (cpA u)).1 14).toNat) (z := 0) (u := cpB (cpA u))
    rw [cpB_18] at this
    have := h3 j
    show (csl _ _ _).2 18 j + b ≤ _
    omega
theorem cpM_S {u : SS} {t : Nat} (h1 : t ≠ 10) (h2 : t ≠ 11) (h3 : t ≠ 6) (h4 : t ≠ 2) (h5 : t ≠ 1) : (cpM u).1 t = u.1 t := by
  show (csl _ _ _).1 t = _
  rw [csl_S]
  show (stS (cpA u) 1 _).1 t = _
  rw [stS_1, if_neg h5, cpA_S h1 h2 h3 h4]
theorem cpM_2 {u : SS} : u.1 2 ≤ (cpM u).1 2 ∧ (cpM u).1 2 ≤ u.1 2 + 1 := by
  have e : (cpM u).1 2 = (cpA u).1 2 := by show (csl _ _ _).1 2 = _; rw [csl_S]; rfl
  rw [e]
  exact cpA_2
set_option maxHeartbeats 4000000 in
set_option maxRecDepth 100000 in
theorem l_X6_tick3 {k : Kx} (C : CX k RX6 cX6_passOneTick 1) (hlv : klev k = 6) {u v : SS} {g : GH} (I : CI u) (hf : frOK u) (hb : cBG u 1) (hr : (kmeth k).sig.returnType = none) (hPo : kPo k = PoR (.inl (none, mk (cpM u) v g))) : EV k 25 [(0, vR (some 1000))] [] (mk (cpA u) v g) 0 0 := by
  have hA := cpA_I I hf hb.2.1
  have e1 : (cpA u).1 1 = u.1 1 := cpA_S (by decide) (by decide) (by decide) (by decide)
  have i1 := I.s1
  have hb1 := hb.1
  have hB := CI_cpB hA.1 (by omega)
  have hJ : CI (stS (cpA u) 1 ((cpA u).1 1 + 1)) := CI_S hA.1 (Or.inr (Or.inr (by show 0 ≤ (cpA u).1 1 + 1 ∧ (cpA u).1 1 + 1 ≤ 1000000; omega))) (by decide) (by decide) (by decide) (by decide)
  refine ev_s C dX6_passOneTick_25 (q := 26) rfl rfl ?_
  refine ev_s C dX6_passOneTick_26 (q := 27) rfl rfl ?_
  refine cg_1000_6 C dX6_passOneTick_27 kf_X6_165 (q := 30) rfl ?_
  refine ev_s C dX6_passOneTick_30 (q := 31) rfl rfl ?_
  refine ev_s C dX6_passOneTick_31 (q := 32) rfl rfl ?_
  refine cp_1000_6 C dX6_passOneTick_32 kf_X6_165 (q := 35) rfl (fit_I _) ?_
  refine ev_s C dX6_passOneTick_35 (q := 36) rfl rfl ?_
  refine cg_1000_3 C dX6_passOneTick_36 kf_X6_33 (q := 39) rfl ?_
  refine ev_cV C dX6_passOneTick_39 (q := 42) rfl km_X6_317 kv_X3_beginTick kc_X3_beginTick (c_X3_beginTick (u := stS (cpA u) 1 ((cpA u).1 1 + 1)) hJ) rfl rfl vcX3 rfl (by rw [hlv]; first | decide | omega) (by decide) (Nat.le_of_ble_eq_true rfl) (by first | exact Nat.zero_le _ | (rw [hmc]; decide) | (rw [hmc]; omega)) (by first | exact Nat.zero_le _ | (rw [hms]; decide) | (rw [hms]; omega)) ?_
  refine ev_s C dX6_passOneTick_42 (q := 43) rfl rfl ?_
  refine ev_cV C dX6_passOneTick_43 (q := 46) rfl km_X6_320 kv_X6_startDeadServices kc_X6_startDeadServices (c_X6_startDeadServices (u := cpB (cpA u)) hB (fun j => by rw [cpB_18]; exact hb.2.2 j)) rfl rfl vcX6 rfl (by rw [hlv]; first | decide | omega) (by decide) (Nat.le_of_ble_eq_true rfl) (by first | exact Nat.zero_le _ | (rw [hmc]; decide) | (rw [hmc]; omega)) (by first | exact Nat.zero_le _ | (rw [hms]; decide) | (rw [hms]; omega)) ?_
  exact ev_vret C hr dX6_passOneTick_46 (Nat.zero_le _) (Nat.zero_le _) (po_0 hPo rfl)
set_option maxHeartbeats 4000000 in
set_option maxRecDepth 100000 in
theorem c_X6_passOneTick {u v : SS} {g : GH} (I : CI u) (hf : frOK u) (hb : cBG u 1) : Cn yX6_passOneTick (wsy yX6_passOneTick cX6_passOneTick 1 none) 6 0 0 nn [vR (some 1000)] (mk u v g) (.inl (none, mk (cpM u) v g)) := by
  refine con_j (lv := [(0, vR (some 1000))]) (by decide) (fun ad => Nat.le_of_ble_eq_true rfl) (fun ad => rfl) rfl ?_
  intro k C hr hlv hmc hms hPo hPx htab
  have i0 := I.s0
  have a0 := I.a4 0
  have a1 := I.a4 1
  have a2 := I.a4 2
  have a3 := I.a4 3
  have ep : 0 ≤ csum u ∧ csum u ≤ 4000000 := by unfold csum; omega
  refine ev_s C dX6_passOneTick_0 (q := 1) rfl rfl ?_
  refine cg_1000_3 C dX6_passOneTick_1 kf_X6_33 (q := 4) rfl ?_
  refine ev_cV C dX6_passOneTick_4 (q := 7) rfl km_X6_210 kv_X3_sum kc_X3_sum (c_X3_sum I) rfl rfl vcX3 rfl (by rw [hlv]; first | decide | omega) (by decide) (Nat.le_of_ble_eq_true rfl) (by first | exact Nat.zero_le _ | (rw [hmc]; decide) | (rw [hmc]; omega)) (by first | exact Nat.zero_le _ | (rw [hms]; decide) | (rw [hms]; omega)) ?_
  refine ev_s C dX6_passOneTick_7 (q := 8) rfl rfl ?_
  refine cg_1000_5 C dX6_passOneTick_8 kf_X6_44 (q := 11) rfl ?_
  refine ev_icmp_le C dX6_passOneTick_11 (tgt := 25) (q := 14) (by decide) rfl (by first | decide | (unfold rg; omega) | assumption | exact bAnd_rg _ _) (by first | decide | (unfold rg; omega) | assumption | exact bAnd_rg _ _) (fun b0 => ?_) (fun b0 => ?_)
  · refine ev_eq (G := mk (cpA u) v g) (by unfold cpA; first | (rw [if_pos (by omega)]; done) | (rw [if_neg (by omega)]; done)) ?_
    exact l_X6_tick3 C hlv I hf hb hr hPo
  · refine ev_s C dX6_passOneTick_14 (q := 15) rfl rfl ?_
    refine ev_cV C dX6_passOneTick_15 (q := 18) rfl km_X6_311 kv_X6_killNextVictim kc_X6_killNextVictim (c_X6_killNextVictim I hf) rfl rfl vcX6 rfl (by rw [hlv]; first | decide | omega) (by decide) (Nat.le_of_ble_eq_true rfl) (by first | exact Nat.zero_le _ | (rw [hmc]; decide) | (rw [hmc]; omega)) (by first | exact Nat.zero_le _ | (rw [hms]; decide) | (rw [hms]; omega)) ?_
    refine ev_s C dX6_passOneTick_18 (q := 19) rfl rfl ?_
    refine cg_1000_3 C dX6_passOneTick_19 kf_X6_33 (q := 22) rfl ?_
    refine ev_cV C dX6_passOneTick_22 (q := 25) rfl km_X6_314 kv_X3_forget kc_X3_forget (c_X3_forget (knV_I I hf hb.2.1).1) rfl rfl vcX3 rfl (by rw [hlv]; first | decide | omega) (by decide) (Nat.le_of_ble_eq_true rfl) (by first | exact Nat.zero_le _ | (rw [hmc]; decide) | (rw [hmc]; omega)) (by first | exact Nat.zero_le _ | (rw [hms]; decide) | (rw [hms]; omega)) ?_
    refine ev_eq (G := mk (cpA u) v g) (by unfold cpA; first | (rw [if_pos (by omega)]; done) | (rw [if_neg (by omega)]; done)) ?_
    exact l_X6_tick3 C hlv I hf hb hr hPo
def cti (u : SS) : Nat → SS
  | 0 => u
  | n + 1 => cpM (cti u n)
theorem cti_I {u : SS} (I : CI u) (hf : frOK u) : ∀ (n : Nat) (b : Int), 0 ≤ b → cBG u (b + n) → CI (cti u n) ∧ frOK (cti u n) ∧ cBG (cti u n) b
  | 0, b, _, h => ⟨I, hf, by rw [show b + ((0 : Nat) : Int) = b by omega] at h; exact h⟩
  | n + 1, b, h0, h => by
    have := cti_I I hf n (b + 1) (by omega) (by rw [show b + 1 + (n : Int) = b + ((n + 1 : Nat) : Int) by omega]; exact h)
    exact cpM_I this.1 this.2.1 this.2.2 h0
theorem cti_2 {u : SS} : ∀ n : Nat, u.1 2 ≤ (cti u n).1 2 ∧ (cti u n).1 2 ≤ u.1 2 + n
  | 0 => by unfold cti; omega
  | n + 1 => by
    have := cti_2 (u := u) n
    have := cpM_2 (u := cti u n)
    unfold cti
    omega
set_option maxHeartbeats 4000000 in
set_option maxRecDepth 100000 in
theorem l_X6_tick {k : Kx} (C : CX k RX6 cX6_tick 4) (hlv : klev k = 7) {u v : SS} {g : GH} (I : CI u) (hf : frOK u) {N : Nat} (hN : N ≤ 50) (hb : cBG u 51) (hr : (kmeth k).sig.returnType = some .int) (hPo : kPo k = PoR (.inl (some (vI ((cti u N).1 2 - u.1 2)), mk (cti u N) v g))) : ∀ (m z : Nat), z ≤ N → N < z + m → EV k 14 [(0, vR (some 1000)), (1, vI (N : Int)), (2, vI (u.1 2)), (3, vI (z : Int))] [] (mk (cti u z) v g) 0 0 := by
  intro m
  induction m with
  | zero =>
    intros
    exfalso
    omega
  | succ m ih =>
    intro z h1 h2
    have J := cti_I I hf z 1 (by decide) (by obtain ⟨q1, q2, q3⟩ := hb; refine ⟨by omega, by omega, fun j => ?_⟩; have := q3 j; omega)
    refine ev_s C dX6_tick_14 (q := 15) rfl rfl ?_
    refine ev_s C dX6_tick_15 (q := 16) rfl rfl ?_
    refine ev_icmp_ge C dX6_tick_16 (tgt := 29) (q := 19) (by decide) rfl (by first | decide | (unfold rg; omega) | assumption | exact bAnd_rg _ _) (by first | decide | (unfold rg; omega) | assumption | exact bAnd_rg _ _) (fun b0 => ?_) (fun b0 => ?_)
    · refine ev_s C dX6_tick_29 (q := 30) rfl rfl ?_
      refine cg_1000_7 C dX6_tick_30 kf_X6_159 (q := 33) rfl ?_
      refine ev_s C dX6_tick_33 (q := 34) rfl rfl ?_
      refine ev_s C dX6_tick_34 (q := 35) rfl rfl ?_
      exact ev_iret C hr dX6_tick_35 (Nat.zero_le _) (Nat.zero_le _) (po_1 hPo (by (obtain rfl : z = N := (by omega)); rfl) (by (obtain rfl : z = N := (by omega)); rfl))
    · refine ev_s C dX6_tick_19 (q := 20) rfl rfl ?_
      refine ev_cV C dX6_tick_20 (q := 23) rfl km_X6_162 kv_X6_passOneTick kc_X6_passOneTick (c_X6_passOneTick (u := cti u z) J.1 J.2.1 J.2.2) rfl rfl vcX6 rfl (by rw [hlv]; first | decide | omega) (by decide) (Nat.le_of_ble_eq_true rfl) (by first | exact Nat.zero_le _ | (rw [hmc]; decide) | (rw [hmc]; omega)) (by first | exact Nat.zero_le _ | (rw [hms]; decide) | (rw [hms]; omega)) ?_
      refine ev_s C dX6_tick_23 (q := 26) rfl rfl ?_
      refine ev_goto C dX6_tick_26 (tgt := 14) (by decide) ?_
      exact ih (z + 1) (by omega) (by omega)
set_option maxHeartbeats 4000000 in
set_option maxRecDepth 100000 in
theorem c_X6_tick_x {u v : SS} {g : GH} (I : CI u) {x : Int} (hx : rg x) (h : ¬ (1 ≤ x ∧ x ≤ 50)) : Cn yX6_tick (wsy yX6_tick cX6_tick 4 (some .int)) 7 1 6 nn [vR (some 1000), vI x] (mk u v g) (.inr ("java/lang/IllegalArgumentException", mk u v g)) := by
  refine con_j (lv := [(0, vR (some 1000)), (1, vI x)]) (by decide) (fun ad => Nat.le_of_ble_eq_true rfl) (fun ad => rfl) rfl ?_
  intro k C hr hlv hmc hms hPo hPx htab
  refine ev_s C dX6_tick_0 (q := 1) rfl rfl ?_
  refine ev_s C dX6_tick_1 (q := 2) rfl rfl ?_
  refine ev_s C dX6_tick_2 (q := 4) rfl rfl ?_
  refine ev_cSx C dX6_tick_4 (q := 7) rfl km_X6_48 ks_X6_requireRange kc_X6_requireRange (c_X6_requireRange_x hx (by unfold rg; decide) (by unfold rg; decide) h) rfl rfl (by rw [hlv]; first | decide | omega) (by decide) (Nat.le_of_ble_eq_true rfl) (by first | exact Nat.zero_le _ | (rw [hmc]; decide) | (rw [hmc]; omega)) (by first | exact Nat.zero_le _ | (rw [hms]; decide) | (rw [hms]; omega)) (fun E G1 h => by cases h; exact ex_out C htab (by first | exact Nat.zero_le _ | (rw [hmc]; decide) | (rw [hmc]; omega)) (by first | exact Nat.zero_le _ | (rw [hms]; decide) | (rw [hms]; omega)) (px_1 hPx rfl rfl)) (fun a G1 h => nomatch h)
set_option maxHeartbeats 4000000 in
set_option maxRecDepth 100000 in
theorem c_X6_tick {u v : SS} {g : GH} (I : CI u) (hf : frOK u) {x : Int} (hx : 1 ≤ x ∧ x ≤ 50) (hb : cBG u 51) : Cn yX6_tick (wsy yX6_tick cX6_tick 4 (some .int)) 7 0 0 nn [vR (some 1000), vI x] (mk u v g) (.inl (some (vI ((cti u x.toNat).1 2 - u.1 2)), mk (cti u x.toNat) v g)) := by
  refine con_j (lv := [(0, vR (some 1000)), (1, vI x)]) (by decide) (fun ad => Nat.le_of_ble_eq_true rfl) (fun ad => rfl) rfl ?_
  intro k C hr hlv hmc hms hPo hPx htab
  refine ev_s C dX6_tick_0 (q := 1) rfl rfl ?_
  refine ev_s C dX6_tick_1 (q := 2) rfl rfl ?_
  refine ev_s C dX6_tick_2 (q := 4) rfl rfl ?_
  refine ev_cS C dX6_tick_4 (q := 7) rfl km_X6_48 ks_X6_requireRange kc_X6_requireRange (c_X6_requireRange (by unfold rg; omega) (by unfold rg; decide) (by unfold rg; decide) hx) rfl rfl (by rw [hlv]; first | decide | omega) (by decide) (Nat.le_of_ble_eq_true rfl) (by first | exact Nat.zero_le _ | (rw [hmc]; decide) | (rw [hmc]; omega)) (by first | exact Nat.zero_le _ | (rw [hms]; decide) | (rw [hms]; omega)) ?_
  refine ev_s C dX6_tick_7 (q := 8) rfl rfl ?_
  refine cg_1000_7 C dX6_tick_8 kf_X6_159 (q := 11) rfl ?_
  refine ev_s C dX6_tick_11 (q := 12) rfl rfl ?_
  refine ev_s C dX6_tick_12 (q := 13) rfl rfl ?_
  refine ev_s C dX6_tick_13 (q := 14) rfl rfl ?_
  refine ev_eqL (lv := [(0, vR (some 1000)), (1, vI ((x.toNat : Nat) : Int)), (2, vI (u.1 2)), (3, vI ((0 : Nat) : Int))]) (by rw [Int.toNat_of_nonneg (by omega)]; rfl) ?_
  exact l_X6_tick C hlv I hf (N := x.toNat) (by omega) hb hr hPo (x.toNat + 1) 0 (Nat.zero_le _) (by omega)
