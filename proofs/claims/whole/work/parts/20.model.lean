/-! THE MODEL: what is added -/
theorem bOr_rg (x y : Int) : rg (bOr x y) := by
  unfold rg bOr
  have h1 := Int32.le_toInt (iI x ||| iI y)
  have h2 := Int32.toInt_lt (iI x ||| iI y)
  omega
theorem bOr_63 : ∀ x : Fin 64, ∀ o : Fin 6, 0 ≤ bOr (x.val : Int) (bShl 1 (o.val : Int)) ∧ bOr (x.val : Int) (bShl 1 (o.val : Int)) ≤ 63 := by decide +kernel
theorem bOr_bd {x : Int} {o : Nat} (hx : 0 ≤ x ∧ x ≤ 63) (ho : o < 6) : 0 ≤ bOr x (bShl 1 (o : Int)) ∧ bOr x (bShl 1 (o : Int)) ≤ 63 := by
  have h := bOr_63 ⟨x.toNat, by omega⟩ ⟨o, ho⟩
  have e : ((x.toNat : Nat) : Int) = x := by omega
  simp only [e] at h
  exact h
def asX (w c d : Int) : Bool := !inB w 0 100 || ((!decide (c = 97) && !decide (c = 110)) || !inB d 1 20)
def szF (v : SS) (n z : Nat) : SS := stF v 9 (fun j => if 8 * n ≤ j ∧ j < z then 2 else v.2 9 j)
theorem szF_0 {v : SS} {n : Nat} : szF v n (8 * n) = v := by
  unfold szF
  have : (fun j => if 8 * n ≤ j ∧ j < 8 * n then (2 : Int) else v.2 9 j) = v.2 9 := by
    funext j
    rw [if_neg (by omega)]
  rw [this, stF_self]
theorem szF_s {v : SS} {n z : Nat} (h : 8 * n ≤ z) : stA (szF v n z) 9 z 2 = szF v n (z + 1) := by
  unfold szF
  rw [stF_A]
  congr 1
  funext j
  by_cases e : j = z
  · subst e
    rw [if_pos rfl, if_pos (by omega)]
  · rw [if_neg e]
    by_cases h2 : 8 * n ≤ j ∧ j < z
    · rw [if_pos h2, if_pos (by omega)]
    · rw [if_neg h2, if_neg (by omega)]
def as0 (v : SS) (w c d : Int) : SS := stA (stA (stA (stS v 26 0) 1 (v.1 0).toNat w) 2 (v.1 0).toNat c) 3 (v.1 0).toNat d
def asM (v : SS) (w c d : Int) : SS := stS (szF (as0 v w c d) (v.1 0).toNat (8 * (v.1 0).toNat + 8)) 0 (v.1 0 + 1)
theorem MI_szF {v : SS} {n z : Nat} (I : MI v) : MI (szF v n z) := by
  refine MI_F I (fun j => ?_)
  by_cases h2 : 8 * n ≤ j ∧ j < z
  · rw [if_pos h2]; decide
  · rw [if_neg h2]; exact I.a9 j
theorem inB_t {x a b : Int} (h : inB x a b = true) : a ≤ x ∧ x ≤ b := by
  unfold inB at h
  simpa using h
theorem asX_f {w c d : Int} (h : asX w c d = false) : (0 ≤ w ∧ w ≤ 100) ∧ (c = 97 ∨ c = 110) ∧ 1 ≤ d ∧ d ≤ 20 := by
  unfold asX at h
  simp only [Bool.or_eq_false_iff, Bool.not_eq_false', Bool.and_eq_false_iff, decide_eq_true_eq] at h
  exact ⟨inB_t h.1, h.2.1, inB_t h.2.2⟩
theorem asM_I {v : SS} {w c d : Int} (I : MI v) (h : asX w c d = false) (h6 : v.1 0 < 6) : MI (asM v w c d) := by
  have hx := asX_f h
  have i0 := I.s0
  exact MI_S (MI_szF (MI_A (MI_A (MI_A (MI_S I (by decide)) (by show 0 ≤ w ∧ w ≤ 100; omega)) (by show 0 ≤ c ∧ c ≤ 65535; omega)) (by show 0 ≤ d ∧ d ≤ 20; omega))) (by show 0 ≤ v.1 0 + 1 ∧ v.1 0 + 1 ≤ 6; omega)
set_option maxHeartbeats 4000000 in
set_option maxRecDepth 100000 in
theorem c_X7_addService_x1 {u v : SS} {g : GH} (I : MI v) {w c d : Int} (hw : rg w) (hc : 0 ≤ c ∧ c < 65536) (hd : rg d) (h : asX w c d = true) : Cn yX7_addService (wsy yX7_addService cX7_addService 5 (some .int)) 3 0 0 nn [vR (some 0), vI w, vI c, vI d] (mk u v g) (.inl (some (vI 0), mk u (stS v 26 1) g)) := by
  refine con_j (lv := [(0, vR (some 0)), (1, vI w), (2, vI c), (3, vI d)]) (by decide) (fun ad => Nat.le_of_ble_eq_true rfl) (fun ad => rfl) rfl ?_
  intro k C hr hlv hmc hms hPo hPx htab
  have i0 := I.s0
  refine ev_s C dX7_addService_0 (q := 1) rfl rfl ?_
  refine ev_s C dX7_addService_1 (q := 2) rfl rfl ?_
  refine ev_s C dX7_addService_2 (q := 3) rfl rfl ?_
  refine ev_s C dX7_addService_3 (q := 5) rfl rfl ?_
  refine ev_cS C dX7_addService_5 (q := 8) rfl km_X7_71 ks_X7_in kc_X7_in (c_X7_in (by first | decide | (unfold rg; omega) | assumption | exact bAnd_rg _ _) (by first | decide | (unfold rg; omega) | assumption | exact bAnd_rg _ _) (by first | decide | (unfold rg; omega) | assumption | exact bAnd_rg _ _)) rfl rfl (by rw [hlv]; first | decide | omega) (by decide) (Nat.le_of_ble_eq_true rfl) (Nat.zero_le _) (Nat.zero_le _) ?_
  refine ev_ifB_eq C dX7_addService_8 (tgt := 33) (q := 11) (by decide) rfl (fun b0 => ?_) (fun b0 => ?_)
  · refine ev_s C dX7_addService_33 (q := 34) rfl rfl ?_
    refine ev_goto C dX7_addService_34 (tgt := 51) (by decide) ?_
    refine ev_cV C dX7_addService_51 (q := 54) rfl km_X7_79 kv_X7_fails kc_X7_fails (c_X7_fails (by first | decide | (unfold rg; omega) | assumption | exact bAnd_rg _ _)) rfl rfl vcX7 go_0 (by rw [hlv]; first | decide | omega) (by decide) (Nat.le_of_ble_eq_true rfl) (Nat.zero_le _) (Nat.zero_le _) ?_
    refine ev_ifB_eq C dX7_addService_54 (tgt := 59) (q := 57) (by decide) rfl (fun b1 => ?_) (fun b1 => ?_)
    · exact absurd b1 (by decide)
    · refine ev_s C dX7_addService_57 (q := 58) rfl rfl ?_
      exact ev_iret C hr dX7_addService_58 (Nat.zero_le _) (Nat.zero_le _) (po_1 hPo (by first | rfl | simp [*]) rfl)
  · refine ev_s C dX7_addService_11 (q := 12) rfl rfl ?_
    refine ev_s C dX7_addService_12 (q := 14) rfl rfl ?_
    refine ev_icmp_eq C dX7_addService_14 (tgt := 23) (q := 17) (by decide) rfl (by first | decide | (unfold rg; omega) | assumption | exact bAnd_rg _ _ | exact bOr_rg _ _) (by first | decide | (unfold rg; omega) | assumption | exact bAnd_rg _ _ | exact bOr_rg _ _) (fun b2 => ?_) (fun b2 => ?_)
    · refine ev_s C dX7_addService_23 (q := 24) rfl rfl ?_
      refine ev_s C dX7_addService_24 (q := 25) rfl rfl ?_
      refine ev_s C dX7_addService_25 (q := 27) rfl rfl ?_
      refine ev_cS C dX7_addService_27 (q := 30) rfl km_X7_71 ks_X7_in kc_X7_in (c_X7_in (by first | decide | (unfold rg; omega) | assumption | exact bAnd_rg _ _) (by first | decide | (unfold rg; omega) | assumption | exact bAnd_rg _ _) (by first | decide | (unfold rg; omega) | assumption | exact bAnd_rg _ _)) rfl rfl (by rw [hlv]; first | decide | omega) (by decide) (Nat.le_of_ble_eq_true rfl) (Nat.zero_le _) (Nat.zero_le _) ?_
      refine ev_ifB_ne C dX7_addService_30 (tgt := 37) (q := 33) (by decide) rfl (fun b3 => ?_) (fun b3 => ?_)
      · exfalso; simp [asX, *] at h
      · refine ev_s C dX7_addService_33 (q := 34) rfl rfl ?_
        refine ev_goto C dX7_addService_34 (tgt := 51) (by decide) ?_
        refine ev_cV C dX7_addService_51 (q := 54) rfl km_X7_79 kv_X7_fails kc_X7_fails (c_X7_fails (by first | decide | (unfold rg; omega) | assumption | exact bAnd_rg _ _)) rfl rfl vcX7 go_0 (by rw [hlv]; first | decide | omega) (by decide) (Nat.le_of_ble_eq_true rfl) (Nat.zero_le _) (Nat.zero_le _) ?_
        refine ev_ifB_eq C dX7_addService_54 (tgt := 59) (q := 57) (by decide) rfl (fun b4 => ?_) (fun b4 => ?_)
        · exact absurd b4 (by decide)
        · refine ev_s C dX7_addService_57 (q := 58) rfl rfl ?_
          exact ev_iret C hr dX7_addService_58 (Nat.zero_le _) (Nat.zero_le _) (po_1 hPo (by first | rfl | simp [*]) rfl)
    · refine ev_s C dX7_addService_17 (q := 18) rfl rfl ?_
      refine ev_s C dX7_addService_18 (q := 20) rfl rfl ?_
      refine ev_icmp_ne C dX7_addService_20 (tgt := 33) (q := 23) (by decide) rfl (by first | decide | (unfold rg; omega) | assumption | exact bAnd_rg _ _ | exact bOr_rg _ _) (by first | decide | (unfold rg; omega) | assumption | exact bAnd_rg _ _ | exact bOr_rg _ _) (fun b5 => ?_) (fun b5 => ?_)
      · refine ev_s C dX7_addService_33 (q := 34) rfl rfl ?_
        refine ev_goto C dX7_addService_34 (tgt := 51) (by decide) ?_
        refine ev_cV C dX7_addService_51 (q := 54) rfl km_X7_79 kv_X7_fails kc_X7_fails (c_X7_fails (by first | decide | (unfold rg; omega) | assumption | exact bAnd_rg _ _)) rfl rfl vcX7 go_0 (by rw [hlv]; first | decide | omega) (by decide) (Nat.le_of_ble_eq_true rfl) (Nat.zero_le _) (Nat.zero_le _) ?_
        refine ev_ifB_eq C dX7_addService_54 (tgt := 59) (q := 57) (by decide) rfl (fun b6 => ?_) (fun b6 => ?_)
        · exact absurd b6 (by decide)
        · refine ev_s C dX7_addService_57 (q := 58) rfl rfl ?_
          exact ev_iret C hr dX7_addService_58 (Nat.zero_le _) (Nat.zero_le _) (po_1 hPo (by first | rfl | simp [*]) rfl)
      · refine ev_s C dX7_addService_23 (q := 24) rfl rfl ?_
        refine ev_s C dX7_addService_24 (q := 25) rfl rfl ?_
        refine ev_s C dX7_addService_25 (q := 27) rfl rfl ?_
        refine ev_cS C dX7_addService_27 (q := 30) rfl km_X7_71 ks_X7_in kc_X7_in (c_X7_in (by first | decide | (unfold rg; omega) | assumption | exact bAnd_rg _ _) (by first | decide | (unfold rg; omega) | assumption | exact bAnd_rg _ _) (by first | decide | (unfold rg; omega) | assumption | exact bAnd_rg _ _)) rfl rfl (by rw [hlv]; first | decide | omega) (by decide) (Nat.le_of_ble_eq_true rfl) (Nat.zero_le _) (Nat.zero_le _) ?_
        refine ev_ifB_ne C dX7_addService_30 (tgt := 37) (q := 33) (by decide) rfl (fun b7 => ?_) (fun b7 => ?_)
        · exfalso; simp [asX, *] at h
        · refine ev_s C dX7_addService_33 (q := 34) rfl rfl ?_
          refine ev_goto C dX7_addService_34 (tgt := 51) (by decide) ?_
          refine ev_cV C dX7_addService_51 (q := 54) rfl km_X7_79 kv_X7_fails kc_X7_fails (c_X7_fails (by first | decide | (unfold rg; omega) | assumption | exact bAnd_rg _ _)) rfl rfl vcX7 go_0 (by rw [hlv]; first | decide | omega) (by decide) (Nat.le_of_ble_eq_true rfl) (Nat.zero_le _) (Nat.zero_le _) ?_
          refine ev_ifB_eq C dX7_addService_54 (tgt := 59) (q := 57) (by decide) rfl (fun b8 => ?_) (fun b8 => ?_)
          · exact absurd b8 (by decide)
          · refine ev_s C dX7_addService_57 (q := 58) rfl rfl ?_
            exact ev_iret C hr dX7_addService_58 (Nat.zero_le _) (Nat.zero_le _) (po_1 hPo (by first | rfl | simp [*]) rfl)
set_option maxHeartbeats 4000000 in
set_option maxRecDepth 100000 in
theorem c_X7_addService_x2 {u v : SS} {g : GH} (I : MI v) {w c d : Int} (hw : rg w) (hc : 0 ≤ c ∧ c < 65536) (hd : rg d) (h : asX w c d = false) (h6 : v.1 0 = 6) : Cn yX7_addService (wsy yX7_addService cX7_addService 5 (some .int)) 3 0 0 nn [vR (some 0), vI w, vI c, vI d] (mk u v g) (.inl (some (vI 0), mk u (stS v 26 2) g)) := by
  refine con_j (lv := [(0, vR (some 0)), (1, vI w), (2, vI c), (3, vI d)]) (by decide) (fun ad => Nat.le_of_ble_eq_true rfl) (fun ad => rfl) rfl ?_
  intro k C hr hlv hmc hms hPo hPx htab
  have i0 := I.s0
  refine ev_s C dX7_addService_0 (q := 1) rfl rfl ?_
  refine ev_s C dX7_addService_1 (q := 2) rfl rfl ?_
  refine ev_s C dX7_addService_2 (q := 3) rfl rfl ?_
  refine ev_s C dX7_addService_3 (q := 5) rfl rfl ?_
  refine ev_cS C dX7_addService_5 (q := 8) rfl km_X7_71 ks_X7_in kc_X7_in (c_X7_in (by first | decide | (unfold rg; omega) | assumption | exact bAnd_rg _ _) (by first | decide | (unfold rg; omega) | assumption | exact bAnd_rg _ _) (by first | decide | (unfold rg; omega) | assumption | exact bAnd_rg _ _)) rfl rfl (by rw [hlv]; first | decide | omega) (by decide) (Nat.le_of_ble_eq_true rfl) (Nat.zero_le _) (Nat.zero_le _) ?_
  refine ev_ifB_eq C dX7_addService_8 (tgt := 33) (q := 11) (by decide) rfl (fun b0 => ?_) (fun b0 => ?_)
  · exfalso; simp [asX, *] at h
  · refine ev_s C dX7_addService_11 (q := 12) rfl rfl ?_
    refine ev_s C dX7_addService_12 (q := 14) rfl rfl ?_
    refine ev_icmp_eq C dX7_addService_14 (tgt := 23) (q := 17) (by decide) rfl (by first | decide | (unfold rg; omega) | assumption | exact bAnd_rg _ _ | exact bOr_rg _ _) (by first | decide | (unfold rg; omega) | assumption | exact bAnd_rg _ _ | exact bOr_rg _ _) (fun b1 => ?_) (fun b1 => ?_)
    · refine ev_s C dX7_addService_23 (q := 24) rfl rfl ?_
      refine ev_s C dX7_addService_24 (q := 25) rfl rfl ?_
      refine ev_s C dX7_addService_25 (q := 27) rfl rfl ?_
      refine ev_cS C dX7_addService_27 (q := 30) rfl km_X7_71 ks_X7_in kc_X7_in (c_X7_in (by first | decide | (unfold rg; omega) | assumption | exact bAnd_rg _ _) (by first | decide | (unfold rg; omega) | assumption | exact bAnd_rg _ _) (by first | decide | (unfold rg; omega) | assumption | exact bAnd_rg _ _)) rfl rfl (by rw [hlv]; first | decide | omega) (by decide) (Nat.le_of_ble_eq_true rfl) (Nat.zero_le _) (Nat.zero_le _) ?_
      refine ev_ifB_ne C dX7_addService_30 (tgt := 37) (q := 33) (by decide) rfl (fun b2 => ?_) (fun b2 => ?_)
      · refine ev_s C dX7_addService_37 (q := 38) rfl rfl ?_
        refine mg_0 C dX7_addService_38 (q := 41) rfl ?_
        refine ev_s C dX7_addService_41 (q := 43) rfl rfl ?_
        refine ev_icmp_ne C dX7_addService_43 (tgt := 50) (q := 46) (by decide) rfl (by first | decide | (unfold rg; omega) | assumption | exact bAnd_rg _ _ | exact bOr_rg _ _) (by first | decide | (unfold rg; omega) | assumption | exact bAnd_rg _ _ | exact bOr_rg _ _) (fun b3 => ?_) (fun b3 => ?_)
        · exact absurd h6 b3
        · refine ev_s C dX7_addService_46 (q := 47) rfl rfl ?_
          refine ev_goto C dX7_addService_47 (tgt := 51) (by decide) ?_
          refine ev_cV C dX7_addService_51 (q := 54) rfl km_X7_79 kv_X7_fails kc_X7_fails (c_X7_fails (by first | decide | (unfold rg; omega) | assumption | exact bAnd_rg _ _)) rfl rfl vcX7 go_0 (by rw [hlv]; first | decide | omega) (by decide) (Nat.le_of_ble_eq_true rfl) (Nat.zero_le _) (Nat.zero_le _) ?_
          refine ev_ifB_eq C dX7_addService_54 (tgt := 59) (q := 57) (by decide) rfl (fun b4 => ?_) (fun b4 => ?_)
          · exact absurd b4 (by decide)
          · refine ev_s C dX7_addService_57 (q := 58) rfl rfl ?_
            exact ev_iret C hr dX7_addService_58 (Nat.zero_le _) (Nat.zero_le _) (po_1 hPo (by first | rfl | simp [*]) rfl)
      · exfalso; simp [asX, *] at h
    · refine ev_s C dX7_addService_17 (q := 18) rfl rfl ?_
      refine ev_s C dX7_addService_18 (q := 20) rfl rfl ?_
      refine ev_icmp_ne C dX7_addService_20 (tgt := 33) (q := 23) (by decide) rfl (by first | decide | (unfold rg; omega) | assumption | exact bAnd_rg _ _ | exact bOr_rg _ _) (by first | decide | (unfold rg; omega) | assumption | exact bAnd_rg _ _ | exact bOr_rg _ _) (fun b5 => ?_) (fun b5 => ?_)
      · exfalso; simp [asX, *] at h
      · refine ev_s C dX7_addService_23 (q := 24) rfl rfl ?_
        refine ev_s C dX7_addService_24 (q := 25) rfl rfl ?_
        refine ev_s C dX7_addService_25 (q := 27) rfl rfl ?_
        refine ev_cS C dX7_addService_27 (q := 30) rfl km_X7_71 ks_X7_in kc_X7_in (c_X7_in (by first | decide | (unfold rg; omega) | assumption | exact bAnd_rg _ _) (by first | decide | (unfold rg; omega) | assumption | exact bAnd_rg _ _) (by first | decide | (unfold rg; omega) | assumption | exact bAnd_rg _ _)) rfl rfl (by rw [hlv]; first | decide | omega) (by decide) (Nat.le_of_ble_eq_true rfl) (Nat.zero_le _) (Nat.zero_le _) ?_
        refine ev_ifB_ne C dX7_addService_30 (tgt := 37) (q := 33) (by decide) rfl (fun b6 => ?_) (fun b6 => ?_)
        · refine ev_s C dX7_addService_37 (q := 38) rfl rfl ?_
          refine mg_0 C dX7_addService_38 (q := 41) rfl ?_
          refine ev_s C dX7_addService_41 (q := 43) rfl rfl ?_
          refine ev_icmp_ne C dX7_addService_43 (tgt := 50) (q := 46) (by decide) rfl (by first | decide | (unfold rg; omega) | assumption | exact bAnd_rg _ _ | exact bOr_rg _ _) (by first | decide | (unfold rg; omega) | assumption | exact bAnd_rg _ _ | exact bOr_rg _ _) (fun b7 => ?_) (fun b7 => ?_)
          · exact absurd h6 b7
          · refine ev_s C dX7_addService_46 (q := 47) rfl rfl ?_
            refine ev_goto C dX7_addService_47 (tgt := 51) (by decide) ?_
            refine ev_cV C dX7_addService_51 (q := 54) rfl km_X7_79 kv_X7_fails kc_X7_fails (c_X7_fails (by first | decide | (unfold rg; omega) | assumption | exact bAnd_rg _ _)) rfl rfl vcX7 go_0 (by rw [hlv]; first | decide | omega) (by decide) (Nat.le_of_ble_eq_true rfl) (Nat.zero_le _) (Nat.zero_le _) ?_
            refine ev_ifB_eq C dX7_addService_54 (tgt := 59) (q := 57) (by decide) rfl (fun b8 => ?_) (fun b8 => ?_)
            · exact absurd b8 (by decide)
            · refine ev_s C dX7_addService_57 (q := 58) rfl rfl ?_
              exact ev_iret C hr dX7_addService_58 (Nat.zero_le _) (Nat.zero_le _) (po_1 hPo (by first | rfl | simp [*]) rfl)
        · exfalso; simp [asX, *] at h
set_option maxHeartbeats 4000000 in
set_option maxRecDepth 100000 in
theorem l_X7_addService {k : Kx} (C : CX k RX7 cX7_addService 5) {u v : SS} {g : GH} {w c d : Int} {n : Nat} (hn : n < 6) (hN : v.1 0 = (n : Int)) : ∀ (m z : Nat) (iz : Int), iz = z → 8 * n ≤ z → z ≤ 8 * n + 8 → 8 * n + 8 < z + m → EV k 127 [(0, vR (some 0)), (1, vI w), (2, vI c), (3, vI d), (4, vI (((8 * n + 8 : Nat)) : Int))] [] (mk u (szF v n (8 * n + 8)) g) 0 0 → EV k 98 [(0, vR (some 0)), (1, vI w), (2, vI c), (3, vI d), (4, vI iz)] [] (mk u (szF v n z) g) 0 0 := by
  intro m
  induction m with
  | zero =>
    intros
    exfalso
    omega
  | succ m ih =>
    intro z iz e0 h0 h1 h2 kx
    have hN2 : (szF v n z).1 0 = (n : Int) := hN
    refine ev_s C dX7_addService_98 (q := 100) rfl rfl ?_
    refine ev_s C dX7_addService_100 (q := 102) rfl rfl ?_
    refine ev_s C dX7_addService_102 (q := 103) rfl rfl ?_
    refine mg_0 C dX7_addService_103 (q := 106) rfl ?_
    refine ev_s C dX7_addService_106 (q := 107) rfl rfl ?_
    refine ev_s C dX7_addService_107 (q := 109) rfl rfl ?_
    refine ev_s C dX7_addService_109 (q := 110) rfl rfl ?_
    refine ev_icmp_ge C dX7_addService_110 (tgt := 127) (q := 113) (by decide) rfl (by first | decide | (unfold rg; omega) | assumption | exact bAnd_rg _ _ | exact bOr_rg _ _) (by first | decide | (unfold rg; omega) | assumption | exact bAnd_rg _ _ | exact bOr_rg _ _) (fun b0 => ?_) (fun b0 => ?_)
    · obtain rfl : z = 8 * n + 8 := by omega
      subst e0
      exact kx
    · refine ev_s C dX7_addService_113 (q := 114) rfl rfl ?_
      refine mg_9 C dX7_addService_114 (q := 117) rfl ?_
      refine ev_s C dX7_addService_117 (q := 119) rfl rfl ?_
      refine ev_s C dX7_addService_119 (q := 120) rfl rfl ?_
      refine ms_9 C dX7_addService_120 (q := 121) rfl (by omega) ?_
      refine ev_s C dX7_addService_121 (q := 124) rfl rfl ?_
      refine ev_goto C dX7_addService_124 (tgt := 98) (by decide) ?_
      subst e0
      refine ev_eq (G := mk u (szF v n (z + 1)) g) (by rw [← szF_s h0]; rfl) ?_
      exact ih (z + 1) _ (by omega) (by omega) (by omega) (by omega) kx
set_option maxHeartbeats 4000000 in
set_option maxRecDepth 100000 in
theorem c_X7_addService {u v : SS} {g : GH} (I : MI v) {w c d : Int} (hw : rg w) (hc : 0 ≤ c ∧ c < 65536) (hd : rg d) (h : asX w c d = false) (h6 : v.1 0 < 6) : Cn yX7_addService (wsy yX7_addService cX7_addService 5 (some .int)) 3 0 0 nn [vR (some 0), vI w, vI c, vI d] (mk u v g) (.inl (some (vI (v.1 0)), mk u (asM v w c d) g)) := by
  refine con_j (lv := [(0, vR (some 0)), (1, vI w), (2, vI c), (3, vI d)]) (by decide) (fun ad => Nat.le_of_ble_eq_true rfl) (fun ad => rfl) rfl ?_
  intro k C hr hlv hmc hms hPo hPx htab
  have i0 := I.s0
  have hx := asX_f h
  refine ev_s C dX7_addService_0 (q := 1) rfl rfl ?_
  refine ev_s C dX7_addService_1 (q := 2) rfl rfl ?_
  refine ev_s C dX7_addService_2 (q := 3) rfl rfl ?_
  refine ev_s C dX7_addService_3 (q := 5) rfl rfl ?_
  refine ev_cS C dX7_addService_5 (q := 8) rfl km_X7_71 ks_X7_in kc_X7_in (c_X7_in (by first | decide | (unfold rg; omega) | assumption | exact bAnd_rg _ _) (by first | decide | (unfold rg; omega) | assumption | exact bAnd_rg _ _) (by first | decide | (unfold rg; omega) | assumption | exact bAnd_rg _ _)) rfl rfl (by rw [hlv]; first | decide | omega) (by decide) (Nat.le_of_ble_eq_true rfl) (Nat.zero_le _) (Nat.zero_le _) ?_
  refine ev_ifB_eq C dX7_addService_8 (tgt := 33) (q := 11) (by decide) rfl (fun b0 => ?_) (fun b0 => ?_)
  · exfalso; simp [asX, *] at h
  · refine ev_s C dX7_addService_11 (q := 12) rfl rfl ?_
    refine ev_s C dX7_addService_12 (q := 14) rfl rfl ?_
    refine ev_icmp_eq C dX7_addService_14 (tgt := 23) (q := 17) (by decide) rfl (by first | decide | (unfold rg; omega) | assumption | exact bAnd_rg _ _ | exact bOr_rg _ _) (by first | decide | (unfold rg; omega) | assumption | exact bAnd_rg _ _ | exact bOr_rg _ _) (fun b1 => ?_) (fun b1 => ?_)
    · refine ev_s C dX7_addService_23 (q := 24) rfl rfl ?_
      refine ev_s C dX7_addService_24 (q := 25) rfl rfl ?_
      refine ev_s C dX7_addService_25 (q := 27) rfl rfl ?_
      refine ev_cS C dX7_addService_27 (q := 30) rfl km_X7_71 ks_X7_in kc_X7_in (c_X7_in (by first | decide | (unfold rg; omega) | assumption | exact bAnd_rg _ _) (by first | decide | (unfold rg; omega) | assumption | exact bAnd_rg _ _) (by first | decide | (unfold rg; omega) | assumption | exact bAnd_rg _ _)) rfl rfl (by rw [hlv]; first | decide | omega) (by decide) (Nat.le_of_ble_eq_true rfl) (Nat.zero_le _) (Nat.zero_le _) ?_
      refine ev_ifB_ne C dX7_addService_30 (tgt := 37) (q := 33) (by decide) rfl (fun b2 => ?_) (fun b2 => ?_)
      · refine ev_s C dX7_addService_37 (q := 38) rfl rfl ?_
        refine mg_0 C dX7_addService_38 (q := 41) rfl ?_
        refine ev_s C dX7_addService_41 (q := 43) rfl rfl ?_
        refine ev_icmp_ne C dX7_addService_43 (tgt := 50) (q := 46) (by decide) rfl (by first | decide | (unfold rg; omega) | assumption | exact bAnd_rg _ _ | exact bOr_rg _ _) (by first | decide | (unfold rg; omega) | assumption | exact bAnd_rg _ _ | exact bOr_rg _ _) (fun b3 => ?_) (fun b3 => ?_)
        · refine ev_s C dX7_addService_50 (q := 51) rfl rfl ?_
          refine ev_cV C dX7_addService_51 (q := 54) rfl km_X7_79 kv_X7_fails kc_X7_fails (c_X7_fails (by first | decide | (unfold rg; omega) | assumption | exact bAnd_rg _ _)) rfl rfl vcX7 go_0 (by rw [hlv]; first | decide | omega) (by decide) (Nat.le_of_ble_eq_true rfl) (Nat.zero_le _) (Nat.zero_le _) ?_
          refine ev_ifB_eq C dX7_addService_54 (tgt := 59) (q := 57) (by decide) rfl (fun b4 => ?_) (fun b4 => ?_)
          · refine ev_s C dX7_addService_59 (q := 60) rfl rfl ?_
            refine mg_1 C dX7_addService_60 (q := 63) rfl ?_
            refine ev_s C dX7_addService_63 (q := 64) rfl rfl ?_
            refine mg_0 C dX7_addService_64 (q := 67) rfl ?_
            refine ev_s C dX7_addService_67 (q := 68) rfl rfl ?_
            refine ms_1 C dX7_addService_68 (q := 69) rfl (by show 0 ≤ v.1 0 ∧ v.1 0 < 6; omega) ?_
            refine ev_s C dX7_addService_69 (q := 70) rfl rfl ?_
            refine mg_2 C dX7_addService_70 (q := 73) rfl ?_
            refine ev_s C dX7_addService_73 (q := 74) rfl rfl ?_
            refine mg_0 C dX7_addService_74 (q := 77) rfl ?_
            refine ev_s C dX7_addService_77 (q := 78) rfl rfl ?_
            refine ms_2 C dX7_addService_78 (q := 79) rfl (by omega) (by show 0 ≤ v.1 0 ∧ v.1 0 < 6; omega) ?_
            refine ev_s C dX7_addService_79 (q := 80) rfl rfl ?_
            refine mg_3 C dX7_addService_80 (q := 83) rfl ?_
            refine ev_s C dX7_addService_83 (q := 84) rfl rfl ?_
            refine mg_0 C dX7_addService_84 (q := 87) rfl ?_
            refine ev_s C dX7_addService_87 (q := 88) rfl rfl ?_
            refine ms_3 C dX7_addService_88 (q := 89) rfl (by show 0 ≤ v.1 0 ∧ v.1 0 < 6; omega) ?_
            refine ev_s C dX7_addService_89 (q := 91) rfl rfl ?_
            refine ev_s C dX7_addService_91 (q := 92) rfl rfl ?_
            refine mg_0 C dX7_addService_92 (q := 95) rfl ?_
            refine ev_s C dX7_addService_95 (q := 96) rfl rfl ?_
            refine ev_s C dX7_addService_96 (q := 98) rfl rfl ?_
            have q0 : (as0 v w c d).1 0 = v.1 0 := rfl
            refine ev_eq (G := mk u (szF (as0 v w c d) (v.1 0).toNat (8 * (v.1 0).toNat)) g) (by rw [szF_0]; rfl) ?_
            refine l_X7_addService C (n := (v.1 0).toNat) (by omega) (by omega) 9 (8 * (v.1 0).toNat) _ (by show 8 * v.1 0 = _; omega) (Nat.le_refl _) (by omega) (by omega) ?_
            refine ev_s C dX7_addService_127 (q := 128) rfl rfl ?_
            refine ev_s C dX7_addService_128 (q := 129) rfl rfl ?_
            refine mg_0 C dX7_addService_129 (q := 132) rfl ?_
            refine ev_s C dX7_addService_132 (q := 133) rfl rfl ?_
            refine ev_s C dX7_addService_133 (q := 134) rfl rfl ?_
            refine mp_0 C dX7_addService_134 (q := 137) rfl ?_
            refine ev_s C dX7_addService_137 (q := 138) rfl rfl ?_
            refine mg_0 C dX7_addService_138 (q := 141) rfl ?_
            refine ev_s C dX7_addService_141 (q := 142) rfl rfl ?_
            refine ev_s C dX7_addService_142 (q := 143) rfl rfl ?_
            exact ev_iret C hr dX7_addService_143 (Nat.zero_le _) (Nat.zero_le _) (po_1 hPo (congrArg vI (by show v.1 0 = v.1 0 + 1 - 1; omega)) rfl)
          · exact absurd b4 (by decide)
        · exfalso; omega
      · exfalso; simp [asX, *] at h
    · refine ev_s C dX7_addService_17 (q := 18) rfl rfl ?_
      refine ev_s C dX7_addService_18 (q := 20) rfl rfl ?_
      refine ev_icmp_ne C dX7_addService_20 (tgt := 33) (q := 23) (by decide) rfl (by first | decide | (unfold rg; omega) | assumption | exact bAnd_rg _ _ | exact bOr_rg _ _) (by first | decide | (unfold rg; omega) | assumption | exact bAnd_rg _ _ | exact bOr_rg _ _) (fun b5 => ?_) (fun b5 => ?_)
      · exfalso; simp [asX, *] at h
      · refine ev_s C dX7_addService_23 (q := 24) rfl rfl ?_
        refine ev_s C dX7_addService_24 (q := 25) rfl rfl ?_
        refine ev_s C dX7_addService_25 (q := 27) rfl rfl ?_
        refine ev_cS C dX7_addService_27 (q := 30) rfl km_X7_71 ks_X7_in kc_X7_in (c_X7_in (by first | decide | (unfold rg; omega) | assumption | exact bAnd_rg _ _) (by first | decide | (unfold rg; omega) | assumption | exact bAnd_rg _ _) (by first | decide | (unfold rg; omega) | assumption | exact bAnd_rg _ _)) rfl rfl (by rw [hlv]; first | decide | omega) (by decide) (Nat.le_of_ble_eq_true rfl) (Nat.zero_le _) (Nat.zero_le _) ?_
        refine ev_ifB_ne C dX7_addService_30 (tgt := 37) (q := 33) (by decide) rfl (fun b6 => ?_) (fun b6 => ?_)
        · refine ev_s C dX7_addService_37 (q := 38) rfl rfl ?_
          refine mg_0 C dX7_addService_38 (q := 41) rfl ?_
          refine ev_s C dX7_addService_41 (q := 43) rfl rfl ?_
          refine ev_icmp_ne C dX7_addService_43 (tgt := 50) (q := 46) (by decide) rfl (by first | decide | (unfold rg; omega) | assumption | exact bAnd_rg _ _ | exact bOr_rg _ _) (by first | decide | (unfold rg; omega) | assumption | exact bAnd_rg _ _ | exact bOr_rg _ _) (fun b7 => ?_) (fun b7 => ?_)
          · refine ev_s C dX7_addService_50 (q := 51) rfl rfl ?_
            refine ev_cV C dX7_addService_51 (q := 54) rfl km_X7_79 kv_X7_fails kc_X7_fails (c_X7_fails (by first | decide | (unfold rg; omega) | assumption | exact bAnd_rg _ _)) rfl rfl vcX7 go_0 (by rw [hlv]; first | decide | omega) (by decide) (Nat.le_of_ble_eq_true rfl) (Nat.zero_le _) (Nat.zero_le _) ?_
            refine ev_ifB_eq C dX7_addService_54 (tgt := 59) (q := 57) (by decide) rfl (fun b8 => ?_) (fun b8 => ?_)
            · refine ev_s C dX7_addService_59 (q := 60) rfl rfl ?_
              refine mg_1 C dX7_addService_60 (q := 63) rfl ?_
              refine ev_s C dX7_addService_63 (q := 64) rfl rfl ?_
              refine mg_0 C dX7_addService_64 (q := 67) rfl ?_
              refine ev_s C dX7_addService_67 (q := 68) rfl rfl ?_
              refine ms_1 C dX7_addService_68 (q := 69) rfl (by show 0 ≤ v.1 0 ∧ v.1 0 < 6; omega) ?_
              refine ev_s C dX7_addService_69 (q := 70) rfl rfl ?_
              refine mg_2 C dX7_addService_70 (q := 73) rfl ?_
              refine ev_s C dX7_addService_73 (q := 74) rfl rfl ?_
              refine mg_0 C dX7_addService_74 (q := 77) rfl ?_
              refine ev_s C dX7_addService_77 (q := 78) rfl rfl ?_
              refine ms_2 C dX7_addService_78 (q := 79) rfl (by omega) (by show 0 ≤ v.1 0 ∧ v.1 0 < 6; omega) ?_
              refine ev_s C dX7_addService_79 (q := 80) rfl rfl ?_
              refine mg_3 C dX7_addService_80 (q := 83) rfl ?_
              refine ev_s C dX7_addService_83 (q := 84) rfl rfl ?_
              refine mg_0 C dX7_addService_84 (q := 87) rfl ?_
              refine ev_s C dX7_addService_87 (q := 88) rfl rfl ?_
              refine ms_3 C dX7_addService_88 (q := 89) rfl (by show 0 ≤ v.1 0 ∧ v.1 0 < 6; omega) ?_
              refine ev_s C dX7_addService_89 (q := 91) rfl rfl ?_
              refine ev_s C dX7_addService_91 (q := 92) rfl rfl ?_
              refine mg_0 C dX7_addService_92 (q := 95) rfl ?_
              refine ev_s C dX7_addService_95 (q := 96) rfl rfl ?_
              refine ev_s C dX7_addService_96 (q := 98) rfl rfl ?_
              have q0 : (as0 v w c d).1 0 = v.1 0 := rfl
              refine ev_eq (G := mk u (szF (as0 v w c d) (v.1 0).toNat (8 * (v.1 0).toNat)) g) (by rw [szF_0]; rfl) ?_
              refine l_X7_addService C (n := (v.1 0).toNat) (by omega) (by omega) 9 (8 * (v.1 0).toNat) _ (by show 8 * v.1 0 = _; omega) (Nat.le_refl _) (by omega) (by omega) ?_
              refine ev_s C dX7_addService_127 (q := 128) rfl rfl ?_
              refine ev_s C dX7_addService_128 (q := 129) rfl rfl ?_
              refine mg_0 C dX7_addService_129 (q := 132) rfl ?_
              refine ev_s C dX7_addService_132 (q := 133) rfl rfl ?_
              refine ev_s C dX7_addService_133 (q := 134) rfl rfl ?_
              refine mp_0 C dX7_addService_134 (q := 137) rfl ?_
              refine ev_s C dX7_addService_137 (q := 138) rfl rfl ?_
              refine mg_0 C dX7_addService_138 (q := 141) rfl ?_
              refine ev_s C dX7_addService_141 (q := 142) rfl rfl ?_
              refine ev_s C dX7_addService_142 (q := 143) rfl rfl ?_
              exact ev_iret C hr dX7_addService_143 (Nat.zero_le _) (Nat.zero_le _) (po_1 hPo (congrArg vI (by show v.1 0 = v.1 0 + 1 - 1; omega)) rfl)
            · exact absurd b8 (by decide)
          · exfalso; omega
        · exfalso; simp [asX, *] at h
set_option maxHeartbeats 4000000 in
set_option maxRecDepth 100000 in
theorem c_X7_setSize_x1 {u v : SS} {g : GH} (I : MI v) {s p x : Int} (hs : rg s) (hp : rg p) (hx : rg x) (h : noPg v s p = true) : Cn yX7_setSize (wsy yX7_setSize cX7_setSize 5 (some .int)) 3 0 0 nn [vR (some 0), vI s, vI p, vI x] (mk u v g) (.inl (some (vI 0), mk u (stS v 26 1) g)) := by
  refine con_j (lv := [(0, vR (some 0)), (1, vI s), (2, vI p), (3, vI x)]) (by decide) (fun ad => Nat.le_of_ble_eq_true rfl) (fun ad => rfl) rfl ?_
  intro k C hr hlv hmc hms hPo hPx htab
  refine ev_s C dX7_setSize_0 (q := 1) rfl rfl ?_
  refine ev_s C dX7_setSize_1 (q := 2) rfl rfl ?_
  refine ev_s C dX7_setSize_2 (q := 3) rfl rfl ?_
  refine ev_cV C dX7_setSize_3 (q := 6) rfl km_X7_91 kv_X7_isNoPage kc_X7_isNoPage (c_X7_isNoPage I (by first | decide | (unfold rg; omega) | assumption | exact bAnd_rg _ _) (by first | decide | (unfold rg; omega) | assumption | exact bAnd_rg _ _)) rfl rfl vcX7 go_0 (by rw [hlv]; first | decide | omega) (by decide) (Nat.le_of_ble_eq_true rfl) (Nat.zero_le _) (Nat.zero_le _) ?_
  rw [h]
  refine ev_eq (G := mk u (stS v 26 1) g) rfl ?_
  refine ev_ifB_ne C dX7_setSize_6 (tgt := 49) (q := 9) (by decide) rfl (fun b0 => ?_) (fun b0 => ?_)
  · refine ev_s C dX7_setSize_49 (q := 50) rfl rfl ?_
    exact ev_iret C hr dX7_setSize_50 (Nat.zero_le _) (Nat.zero_le _) (po_1 hPo (by first | rfl | simp [*]) rfl)
  · exact absurd b0 (by decide)
set_option maxHeartbeats 4000000 in
set_option maxRecDepth 100000 in
theorem c_X7_setSize_x2 {u v : SS} {g : GH} (I : MI v) {s p x : Int} (hs : rg s) (hp : rg p) (hx : rg x) (h : noPg v s p = false) (h2 : inB x 1 4 = false) : Cn yX7_setSize (wsy yX7_setSize cX7_setSize 5 (some .int)) 3 0 0 nn [vR (some 0), vI s, vI p, vI x] (mk u v g) (.inl (some (vI 0), mk u (stS (stS v 26 0) 26 2) g)) := by
  refine con_j (lv := [(0, vR (some 0)), (1, vI s), (2, vI p), (3, vI x)]) (by decide) (fun ad => Nat.le_of_ble_eq_true rfl) (fun ad => rfl) rfl ?_
  intro k C hr hlv hmc hms hPo hPx htab
  have hq := noPg_f h
  have i0 := I.s0
  have J : MI (stS v 26 0) := MI_S I (by decide)
  have ja := J.a10 (8 * s + p).toNat
  refine ev_s C dX7_setSize_0 (q := 1) rfl rfl ?_
  refine ev_s C dX7_setSize_1 (q := 2) rfl rfl ?_
  refine ev_s C dX7_setSize_2 (q := 3) rfl rfl ?_
  refine ev_cV C dX7_setSize_3 (q := 6) rfl km_X7_91 kv_X7_isNoPage kc_X7_isNoPage (c_X7_isNoPage I (by first | decide | (unfold rg; omega) | assumption | exact bAnd_rg _ _) (by first | decide | (unfold rg; omega) | assumption | exact bAnd_rg _ _)) rfl rfl vcX7 go_0 (by rw [hlv]; first | decide | omega) (by decide) (Nat.le_of_ble_eq_true rfl) (Nat.zero_le _) (Nat.zero_le _) ?_
  rw [h]
  refine ev_eq (G := mk u (stS v 26 0) g) rfl ?_
  refine ev_ifB_ne C dX7_setSize_6 (tgt := 49) (q := 9) (by decide) rfl (fun b0 => ?_) (fun b0 => ?_)
  · exact absurd b0 (by decide)
  · refine ev_s C dX7_setSize_9 (q := 10) rfl rfl ?_
    refine ev_s C dX7_setSize_10 (q := 11) rfl rfl ?_
    refine ev_s C dX7_setSize_11 (q := 12) rfl rfl ?_
    refine ev_s C dX7_setSize_12 (q := 13) rfl rfl ?_
    refine ev_cS C dX7_setSize_13 (q := 16) rfl km_X7_71 ks_X7_in kc_X7_in (c_X7_in (by first | decide | (unfold rg; omega) | assumption | exact bAnd_rg _ _) (by first | decide | (unfold rg; omega) | assumption | exact bAnd_rg _ _) (by first | decide | (unfold rg; omega) | assumption | exact bAnd_rg _ _)) rfl rfl (by rw [hlv]; first | decide | omega) (by decide) (Nat.le_of_ble_eq_true rfl) (Nat.zero_le _) (Nat.zero_le _) ?_
    refine ev_ifB_ne C dX7_setSize_16 (tgt := 23) (q := 19) (by decide) rfl (fun b1 => ?_) (fun b1 => ?_)
    · exact absurd (h2.symm.trans b1) (by decide)
    · refine ev_s C dX7_setSize_19 (q := 20) rfl rfl ?_
      refine ev_goto C dX7_setSize_20 (tgt := 43) (by decide) ?_
      refine ev_cV C dX7_setSize_43 (q := 46) rfl km_X7_79 kv_X7_fails kc_X7_fails (c_X7_fails (by first | decide | (unfold rg; omega) | assumption | exact bAnd_rg _ _)) rfl rfl vcX7 go_0 (by rw [hlv]; first | decide | omega) (by decide) (Nat.le_of_ble_eq_true rfl) (Nat.zero_le _) (Nat.zero_le _) ?_
      refine ev_ifB_eq C dX7_setSize_46 (tgt := 51) (q := 49) (by decide) rfl (fun b2 => ?_) (fun b2 => ?_)
      · exact absurd b2 (by decide)
      · refine ev_s C dX7_setSize_49 (q := 50) rfl rfl ?_
        exact ev_iret C hr dX7_setSize_50 (Nat.zero_le _) (Nat.zero_le _) (po_1 hPo (by first | rfl | simp [*]) rfl)
set_option maxHeartbeats 4000000 in
set_option maxRecDepth 100000 in
theorem c_X7_setSize_x3 {u v : SS} {g : GH} (I : MI v) {s p x : Int} (hs : rg s) (hp : rg p) (hx : rg x) (h : noPg v s p = false) (h2 : 1 ≤ x ∧ x ≤ 4) (h3 : v.2 10 (8 * s + p).toNat = 2) : Cn yX7_setSize (wsy yX7_setSize cX7_setSize 5 (some .int)) 3 0 0 nn [vR (some 0), vI s, vI p, vI x] (mk u v g) (.inl (some (vI 0), mk u (stS (stS v 26 0) 26 3) g)) := by
  refine con_j (lv := [(0, vR (some 0)), (1, vI s), (2, vI p), (3, vI x)]) (by decide) (fun ad => Nat.le_of_ble_eq_true rfl) (fun ad => rfl) rfl ?_
  intro k C hr hlv hmc hms hPo hPx htab
  have hq := noPg_f h
  have i0 := I.s0
  have J : MI (stS v 26 0) := MI_S I (by decide)
  have ja := J.a10 (8 * s + p).toNat
  refine ev_s C dX7_setSize_0 (q := 1) rfl rfl ?_
  refine ev_s C dX7_setSize_1 (q := 2) rfl rfl ?_
  refine ev_s C dX7_setSize_2 (q := 3) rfl rfl ?_
  refine ev_cV C dX7_setSize_3 (q := 6) rfl km_X7_91 kv_X7_isNoPage kc_X7_isNoPage (c_X7_isNoPage I (by first | decide | (unfold rg; omega) | assumption | exact bAnd_rg _ _) (by first | decide | (unfold rg; omega) | assumption | exact bAnd_rg _ _)) rfl rfl vcX7 go_0 (by rw [hlv]; first | decide | omega) (by decide) (Nat.le_of_ble_eq_true rfl) (Nat.zero_le _) (Nat.zero_le _) ?_
  rw [h]
  refine ev_eq (G := mk u (stS v 26 0) g) rfl ?_
  refine ev_ifB_ne C dX7_setSize_6 (tgt := 49) (q := 9) (by decide) rfl (fun b0 => ?_) (fun b0 => ?_)
  · exact absurd b0 (by decide)
  · refine ev_s C dX7_setSize_9 (q := 10) rfl rfl ?_
    refine ev_s C dX7_setSize_10 (q := 11) rfl rfl ?_
    refine ev_s C dX7_setSize_11 (q := 12) rfl rfl ?_
    refine ev_s C dX7_setSize_12 (q := 13) rfl rfl ?_
    refine ev_cS C dX7_setSize_13 (q := 16) rfl km_X7_71 ks_X7_in kc_X7_in (c_X7_in (by first | decide | (unfold rg; omega) | assumption | exact bAnd_rg _ _) (by first | decide | (unfold rg; omega) | assumption | exact bAnd_rg _ _) (by first | decide | (unfold rg; omega) | assumption | exact bAnd_rg _ _)) rfl rfl (by rw [hlv]; first | decide | omega) (by decide) (Nat.le_of_ble_eq_true rfl) (Nat.zero_le _) (Nat.zero_le _) ?_
    refine ev_ifB_ne C dX7_setSize_16 (tgt := 23) (q := 19) (by decide) rfl (fun b1 => ?_) (fun b1 => ?_)
    · refine ev_s C dX7_setSize_23 (q := 24) rfl rfl ?_
      refine mg_10 C dX7_setSize_24 (q := 27) rfl ?_
      refine ev_s C dX7_setSize_27 (q := 29) rfl rfl ?_
      refine ev_s C dX7_setSize_29 (q := 30) rfl rfl ?_
      refine ev_s C dX7_setSize_30 (q := 31) rfl rfl ?_
      refine ev_s C dX7_setSize_31 (q := 32) rfl rfl ?_
      refine ev_s C dX7_setSize_32 (q := 33) rfl rfl ?_
      refine ml_10 C dX7_setSize_33 (q := 34) rfl (by omega) ?_
      refine ev_s C dX7_setSize_34 (q := 35) rfl rfl ?_
      refine ev_icmp_ne C dX7_setSize_35 (tgt := 42) (q := 38) (by decide) rfl (by first | decide | (unfold rg; omega) | assumption | exact bAnd_rg _ _ | exact bOr_rg _ _) (by first | decide | (unfold rg; omega) | assumption | exact bAnd_rg _ _ | exact bOr_rg _ _) (fun b2 => ?_) (fun b2 => ?_)
      · exact absurd h3 b2
      · refine ev_s C dX7_setSize_38 (q := 39) rfl rfl ?_
        refine ev_goto C dX7_setSize_39 (tgt := 43) (by decide) ?_
        refine ev_cV C dX7_setSize_43 (q := 46) rfl km_X7_79 kv_X7_fails kc_X7_fails (c_X7_fails (by first | decide | (unfold rg; omega) | assumption | exact bAnd_rg _ _)) rfl rfl vcX7 go_0 (by rw [hlv]; first | decide | omega) (by decide) (Nat.le_of_ble_eq_true rfl) (Nat.zero_le _) (Nat.zero_le _) ?_
        refine ev_ifB_eq C dX7_setSize_46 (tgt := 51) (q := 49) (by decide) rfl (fun b3 => ?_) (fun b3 => ?_)
        · exact absurd b3 (by decide)
        · refine ev_s C dX7_setSize_49 (q := 50) rfl rfl ?_
          exact ev_iret C hr dX7_setSize_50 (Nat.zero_le _) (Nat.zero_le _) (po_1 hPo (by first | rfl | simp [*]) rfl)
    · exact absurd b1 (by unfold inB; simp; omega)
set_option maxHeartbeats 4000000 in
set_option maxRecDepth 100000 in
theorem c_X7_setSize {u v : SS} {g : GH} (I : MI v) {s p x : Int} (hs : rg s) (hp : rg p) (hx : rg x) (h : noPg v s p = false) (h2 : 1 ≤ x ∧ x ≤ 4) (h3 : v.2 10 (8 * s + p).toNat ≠ 2) : Cn yX7_setSize (wsy yX7_setSize cX7_setSize 5 (some .int)) 3 0 0 nn [vR (some 0), vI s, vI p, vI x] (mk u v g) (.inl (some (vI (v.2 9 (8 * s + p).toNat)), mk u (stA (stS (stS v 26 0) 26 0) 9 (8 * s + p).toNat x) g)) := by
  refine con_j (lv := [(0, vR (some 0)), (1, vI s), (2, vI p), (3, vI x)]) (by decide) (fun ad => Nat.le_of_ble_eq_true rfl) (fun ad => rfl) rfl ?_
  intro k C hr hlv hmc hms hPo hPx htab
  have hq := noPg_f h
  have i0 := I.s0
  have J : MI (stS v 26 0) := MI_S I (by decide)
  have ja := J.a10 (8 * s + p).toNat
  refine ev_s C dX7_setSize_0 (q := 1) rfl rfl ?_
  refine ev_s C dX7_setSize_1 (q := 2) rfl rfl ?_
  refine ev_s C dX7_setSize_2 (q := 3) rfl rfl ?_
  refine ev_cV C dX7_setSize_3 (q := 6) rfl km_X7_91 kv_X7_isNoPage kc_X7_isNoPage (c_X7_isNoPage I (by first | decide | (unfold rg; omega) | assumption | exact bAnd_rg _ _) (by first | decide | (unfold rg; omega) | assumption | exact bAnd_rg _ _)) rfl rfl vcX7 go_0 (by rw [hlv]; first | decide | omega) (by decide) (Nat.le_of_ble_eq_true rfl) (Nat.zero_le _) (Nat.zero_le _) ?_
  rw [h]
  refine ev_eq (G := mk u (stS v 26 0) g) rfl ?_
  refine ev_ifB_ne C dX7_setSize_6 (tgt := 49) (q := 9) (by decide) rfl (fun b0 => ?_) (fun b0 => ?_)
  · exact absurd b0 (by decide)
  · refine ev_s C dX7_setSize_9 (q := 10) rfl rfl ?_
    refine ev_s C dX7_setSize_10 (q := 11) rfl rfl ?_
    refine ev_s C dX7_setSize_11 (q := 12) rfl rfl ?_
    refine ev_s C dX7_setSize_12 (q := 13) rfl rfl ?_
    refine ev_cS C dX7_setSize_13 (q := 16) rfl km_X7_71 ks_X7_in kc_X7_in (c_X7_in (by first | decide | (unfold rg; omega) | assumption | exact bAnd_rg _ _) (by first | decide | (unfold rg; omega) | assumption | exact bAnd_rg _ _) (by first | decide | (unfold rg; omega) | assumption | exact bAnd_rg _ _)) rfl rfl (by rw [hlv]; first | decide | omega) (by decide) (Nat.le_of_ble_eq_true rfl) (Nat.zero_le _) (Nat.zero_le _) ?_
    refine ev_ifB_ne C dX7_setSize_16 (tgt := 23) (q := 19) (by decide) rfl (fun b1 => ?_) (fun b1 => ?_)
    · refine ev_s C dX7_setSize_23 (q := 24) rfl rfl ?_
      refine mg_10 C dX7_setSize_24 (q := 27) rfl ?_
      refine ev_s C dX7_setSize_27 (q := 29) rfl rfl ?_
      refine ev_s C dX7_setSize_29 (q := 30) rfl rfl ?_
      refine ev_s C dX7_setSize_30 (q := 31) rfl rfl ?_
      refine ev_s C dX7_setSize_31 (q := 32) rfl rfl ?_
      refine ev_s C dX7_setSize_32 (q := 33) rfl rfl ?_
      refine ml_10 C dX7_setSize_33 (q := 34) rfl (by omega) ?_
      refine ev_s C dX7_setSize_34 (q := 35) rfl rfl ?_
      refine ev_icmp_ne C dX7_setSize_35 (tgt := 42) (q := 38) (by decide) rfl (by first | decide | (unfold rg; omega) | assumption | exact bAnd_rg _ _ | exact bOr_rg _ _) (by first | decide | (unfold rg; omega) | assumption | exact bAnd_rg _ _ | exact bOr_rg _ _) (fun b2 => ?_) (fun b2 => ?_)
      · refine ev_s C dX7_setSize_42 (q := 43) rfl rfl ?_
        refine ev_cV C dX7_setSize_43 (q := 46) rfl km_X7_79 kv_X7_fails kc_X7_fails (c_X7_fails (by first | decide | (unfold rg; omega) | assumption | exact bAnd_rg _ _)) rfl rfl vcX7 go_0 (by rw [hlv]; first | decide | omega) (by decide) (Nat.le_of_ble_eq_true rfl) (Nat.zero_le _) (Nat.zero_le _) ?_
        refine ev_ifB_eq C dX7_setSize_46 (tgt := 51) (q := 49) (by decide) rfl (fun b3 => ?_) (fun b3 => ?_)
        · refine ev_s C dX7_setSize_51 (q := 52) rfl rfl ?_
          refine mg_9 C dX7_setSize_52 (q := 55) rfl ?_
          refine ev_s C dX7_setSize_55 (q := 57) rfl rfl ?_
          refine ev_s C dX7_setSize_57 (q := 58) rfl rfl ?_
          refine ev_s C dX7_setSize_58 (q := 59) rfl rfl ?_
          refine ev_s C dX7_setSize_59 (q := 60) rfl rfl ?_
          refine ev_s C dX7_setSize_60 (q := 61) rfl rfl ?_
          refine ml_9 C dX7_setSize_61 (q := 62) rfl (by omega) ?_
          refine ev_s C dX7_setSize_62 (q := 64) rfl rfl ?_
          refine ev_s C dX7_setSize_64 (q := 65) rfl rfl ?_
          refine mg_9 C dX7_setSize_65 (q := 68) rfl ?_
          refine ev_s C dX7_setSize_68 (q := 70) rfl rfl ?_
          refine ev_s C dX7_setSize_70 (q := 71) rfl rfl ?_
          refine ev_s C dX7_setSize_71 (q := 72) rfl rfl ?_
          refine ev_s C dX7_setSize_72 (q := 73) rfl rfl ?_
          refine ev_s C dX7_setSize_73 (q := 74) rfl rfl ?_
          refine ev_s C dX7_setSize_74 (q := 75) rfl rfl ?_
          refine ms_9 C dX7_setSize_75 (q := 76) rfl (by omega) ?_
          refine ev_s C dX7_setSize_76 (q := 78) rfl rfl ?_
          exact ev_iret C hr dX7_setSize_78 (Nat.zero_le _) (Nat.zero_le _) (po_1 hPo rfl rfl)
        · exact absurd b3 (by decide)
      · exact absurd b2 h3
    · exact absurd b1 (by unfold inB; simp; omega)
set_option maxHeartbeats 4000000 in
set_option maxRecDepth 100000 in
theorem c_X7_addNeed_x1 {u v : SS} {g : GH} (I : MI v) {s o : Int} (hs : rg s) (ho : rg o) (h : (nonB v s || nonB v o) = true) : Cn yX7_addNeed (wsy yX7_addNeed cX7_addNeed 5 (some .int)) 8 0 0 nn [vR (some 0), vI s, vI o] (mk u v g) (.inl (some (vI 0), mk u (stS v 26 1) g)) := by
  refine con_j (lv := [(0, vR (some 0)), (1, vI s), (2, vI o)]) (by decide) (fun ad => Nat.le_of_ble_eq_true rfl) (fun ad => rfl) rfl ?_
  intro k C hr hlv hmc hms hPo hPx htab
  refine ev_s C dX7_addNeed_0 (q := 1) rfl rfl ?_
  refine ev_s C dX7_addNeed_1 (q := 2) rfl rfl ?_
  refine ev_s C dX7_addNeed_2 (q := 3) rfl rfl ?_
  refine ev_cV C dX7_addNeed_3 (q := 6) rfl km_X7_75 kv_X7_isNone kc_X7_isNone (c_X7_isNone I (by first | decide | (unfold rg; omega) | assumption | exact bAnd_rg _ _)) rfl rfl vcX7 go_0 (by rw [hlv]; first | decide | omega) (by decide) (Nat.le_of_ble_eq_true rfl) (Nat.zero_le _) (Nat.zero_le _) ?_
  refine ev_ifB_ne C dX7_addNeed_6 (tgt := 17) (q := 9) (by decide) rfl (fun b0 => ?_) (fun b0 => ?_)
  · refine ev_s C dX7_addNeed_17 (q := 18) rfl rfl ?_
    refine ev_goto C dX7_addNeed_18 (tgt := 44) (by decide) ?_
    refine ev_cV C dX7_addNeed_44 (q := 47) rfl km_X7_79 kv_X7_fails kc_X7_fails (c_X7_fails (by first | decide | (unfold rg; omega) | assumption | exact bAnd_rg _ _)) rfl rfl vcX7 go_0 (by rw [hlv]; first | decide | omega) (by decide) (Nat.le_of_ble_eq_true rfl) (Nat.zero_le _) (Nat.zero_le _) ?_
    refine ev_ifB_eq C dX7_addNeed_47 (tgt := 52) (q := 50) (by decide) rfl (fun b1 => ?_) (fun b1 => ?_)
    · exact absurd b1 (by decide)
    · refine ev_s C dX7_addNeed_50 (q := 51) rfl rfl ?_
      exact ev_iret C hr dX7_addNeed_51 (Nat.zero_le _) (Nat.zero_le _) (po_1 hPo (by first | rfl | simp [*]) rfl)
  · refine ev_s C dX7_addNeed_9 (q := 10) rfl rfl ?_
    refine ev_s C dX7_addNeed_10 (q := 11) rfl rfl ?_
    refine ev_cV C dX7_addNeed_11 (q := 14) rfl km_X7_75 kv_X7_isNone kc_X7_isNone (c_X7_isNone I (by first | decide | (unfold rg; omega) | assumption | exact bAnd_rg _ _)) rfl rfl vcX7 go_0 (by rw [hlv]; first | decide | omega) (by decide) (Nat.le_of_ble_eq_true rfl) (Nat.zero_le _) (Nat.zero_le _) ?_
    refine ev_ifB_eq C dX7_addNeed_14 (tgt := 21) (q := 17) (by decide) rfl (fun b2 => ?_) (fun b2 => ?_)
    · exfalso; simp [*] at h
    · refine ev_s C dX7_addNeed_17 (q := 18) rfl rfl ?_
      refine ev_goto C dX7_addNeed_18 (tgt := 44) (by decide) ?_
      refine ev_cV C dX7_addNeed_44 (q := 47) rfl km_X7_79 kv_X7_fails kc_X7_fails (c_X7_fails (by first | decide | (unfold rg; omega) | assumption | exact bAnd_rg _ _)) rfl rfl vcX7 go_0 (by rw [hlv]; first | decide | omega) (by decide) (Nat.le_of_ble_eq_true rfl) (Nat.zero_le _) (Nat.zero_le _) ?_
      refine ev_ifB_eq C dX7_addNeed_47 (tgt := 52) (q := 50) (by decide) rfl (fun b3 => ?_) (fun b3 => ?_)
      · exact absurd b3 (by decide)
      · refine ev_s C dX7_addNeed_50 (q := 51) rfl rfl ?_
        exact ev_iret C hr dX7_addNeed_51 (Nat.zero_le _) (Nat.zero_le _) (po_1 hPo (by first | rfl | simp [*]) rfl)
theorem nonB_in {v : SS} {s : Nat} (h : (s : Int) < v.1 0) : nonB v s = false := by
  unfold nonB inB
  simp
  omega
set_option maxHeartbeats 4000000 in
set_option maxRecDepth 100000 in
theorem c_X7_addNeed_x2 {u v : SS} {g : GH} (I : MI v) {s o : Nat} (hs : (s : Int) < v.1 0) (ho : (o : Int) < v.1 0) (h : s = o) : Cn yX7_addNeed (wsy yX7_addNeed cX7_addNeed 5 (some .int)) 8 0 0 nn [vR (some 0), vI (s : Int), vI (o : Int)] (mk u v g) (.inl (some (vI 0), mk u (stS v 26 2) g)) := by
  refine con_j (lv := [(0, vR (some 0)), (1, vI (s : Int)), (2, vI (o : Int))]) (by decide) (fun ad => Nat.le_of_ble_eq_true rfl) (fun ad => rfl) rfl ?_
  intro k C hr hlv hmc hms hPo hPx htab
  have i0 := I.s0
  refine ev_s C dX7_addNeed_0 (q := 1) rfl rfl ?_
  refine ev_s C dX7_addNeed_1 (q := 2) rfl rfl ?_
  refine ev_s C dX7_addNeed_2 (q := 3) rfl rfl ?_
  refine ev_cV C dX7_addNeed_3 (q := 6) rfl km_X7_75 kv_X7_isNone kc_X7_isNone (c_X7_isNone I (by first | decide | (unfold rg; omega) | assumption | exact bAnd_rg _ _)) rfl rfl vcX7 go_0 (by rw [hlv]; first | decide | omega) (by decide) (Nat.le_of_ble_eq_true rfl) (Nat.zero_le _) (Nat.zero_le _) ?_
  refine ev_ifB_ne C dX7_addNeed_6 (tgt := 17) (q := 9) (by decide) rfl (fun b0 => ?_) (fun b0 => ?_)
  · exact absurd ((nonB_in hs).symm.trans b0) (by decide)
  · refine ev_s C dX7_addNeed_9 (q := 10) rfl rfl ?_
    refine ev_s C dX7_addNeed_10 (q := 11) rfl rfl ?_
    refine ev_cV C dX7_addNeed_11 (q := 14) rfl km_X7_75 kv_X7_isNone kc_X7_isNone (c_X7_isNone I (by first | decide | (unfold rg; omega) | assumption | exact bAnd_rg _ _)) rfl rfl vcX7 go_0 (by rw [hlv]; first | decide | omega) (by decide) (Nat.le_of_ble_eq_true rfl) (Nat.zero_le _) (Nat.zero_le _) ?_
    refine ev_ifB_eq C dX7_addNeed_14 (tgt := 21) (q := 17) (by decide) rfl (fun b1 => ?_) (fun b1 => ?_)
    · refine ev_s C dX7_addNeed_21 (q := 22) rfl rfl ?_
      refine ev_s C dX7_addNeed_22 (q := 23) rfl rfl ?_
      refine ev_icmp_ne C dX7_addNeed_23 (tgt := 30) (q := 26) (by decide) rfl (by first | decide | (unfold rg; omega) | assumption | exact bAnd_rg _ _ | exact bOr_rg _ _) (by first | decide | (unfold rg; omega) | assumption | exact bAnd_rg _ _ | exact bOr_rg _ _) (fun b2 => ?_) (fun b2 => ?_)
      · exact absurd (congrArg Int.ofNat h) b2
      · refine ev_s C dX7_addNeed_26 (q := 27) rfl rfl ?_
        refine ev_goto C dX7_addNeed_27 (tgt := 44) (by decide) ?_
        refine ev_cV C dX7_addNeed_44 (q := 47) rfl km_X7_79 kv_X7_fails kc_X7_fails (c_X7_fails (by first | decide | (unfold rg; omega) | assumption | exact bAnd_rg _ _)) rfl rfl vcX7 go_0 (by rw [hlv]; first | decide | omega) (by decide) (Nat.le_of_ble_eq_true rfl) (Nat.zero_le _) (Nat.zero_le _) ?_
        refine ev_ifB_eq C dX7_addNeed_47 (tgt := 52) (q := 50) (by decide) rfl (fun b3 => ?_) (fun b3 => ?_)
        · exact absurd b3 (by decide)
        · refine ev_s C dX7_addNeed_50 (q := 51) rfl rfl ?_
          exact ev_iret C hr dX7_addNeed_51 (Nat.zero_le _) (Nat.zero_le _) (po_1 hPo (by first | rfl | simp [*]) rfl)
    · exact absurd ((nonB_in ho).symm.trans b1) (by decide)
set_option maxHeartbeats 4000000 in
set_option maxRecDepth 100000 in
theorem c_X7_addNeed_x3 {u v : SS} {g : GH} (I : MI v) {rk : Nat → Nat} (hk : RK v rk) {s o : Nat} (hs : (s : Int) < v.1 0) (ho : (o : Int) < v.1 0) (h : s ≠ o) (h2 : ral v s 6 o = true) : Cn yX7_addNeed (wsy yX7_addNeed cX7_addNeed 5 (some .int)) 8 0 0 nn [vR (some 0), vI (s : Int), vI (o : Int)] (mk u v g) (.inl (some (vI 0), mk u (stS v 26 3) g)) := by
  refine con_j (lv := [(0, vR (some 0)), (1, vI (s : Int)), (2, vI (o : Int))]) (by decide) (fun ad => Nat.le_of_ble_eq_true rfl) (fun ad => rfl) rfl ?_
  intro k C hr hlv hmc hms hPo hPx htab
  have i0 := I.s0
  refine ev_s C dX7_addNeed_0 (q := 1) rfl rfl ?_
  refine ev_s C dX7_addNeed_1 (q := 2) rfl rfl ?_
  refine ev_s C dX7_addNeed_2 (q := 3) rfl rfl ?_
  refine ev_cV C dX7_addNeed_3 (q := 6) rfl km_X7_75 kv_X7_isNone kc_X7_isNone (c_X7_isNone I (by first | decide | (unfold rg; omega) | assumption | exact bAnd_rg _ _)) rfl rfl vcX7 go_0 (by rw [hlv]; first | decide | omega) (by decide) (Nat.le_of_ble_eq_true rfl) (Nat.zero_le _) (Nat.zero_le _) ?_
  refine ev_ifB_ne C dX7_addNeed_6 (tgt := 17) (q := 9) (by decide) rfl (fun b0 => ?_) (fun b0 => ?_)
  · exact absurd ((nonB_in hs).symm.trans b0) (by decide)
  · refine ev_s C dX7_addNeed_9 (q := 10) rfl rfl ?_
    refine ev_s C dX7_addNeed_10 (q := 11) rfl rfl ?_
    refine ev_cV C dX7_addNeed_11 (q := 14) rfl km_X7_75 kv_X7_isNone kc_X7_isNone (c_X7_isNone I (by first | decide | (unfold rg; omega) | assumption | exact bAnd_rg _ _)) rfl rfl vcX7 go_0 (by rw [hlv]; first | decide | omega) (by decide) (Nat.le_of_ble_eq_true rfl) (Nat.zero_le _) (Nat.zero_le _) ?_
    refine ev_ifB_eq C dX7_addNeed_14 (tgt := 21) (q := 17) (by decide) rfl (fun b1 => ?_) (fun b1 => ?_)
    · refine ev_s C dX7_addNeed_21 (q := 22) rfl rfl ?_
      refine ev_s C dX7_addNeed_22 (q := 23) rfl rfl ?_
      refine ev_icmp_ne C dX7_addNeed_23 (tgt := 30) (q := 26) (by decide) rfl (by first | decide | (unfold rg; omega) | assumption | exact bAnd_rg _ _ | exact bOr_rg _ _) (by first | decide | (unfold rg; omega) | assumption | exact bAnd_rg _ _ | exact bOr_rg _ _) (fun b2 => ?_) (fun b2 => ?_)
      · refine ev_s C dX7_addNeed_30 (q := 31) rfl rfl ?_
        refine ev_s C dX7_addNeed_31 (q := 32) rfl rfl ?_
        refine ev_s C dX7_addNeed_32 (q := 33) rfl rfl ?_
        refine ev_cV C dX7_addNeed_33 (q := 36) rfl km_X7_85 kv_X7_needsAtLast kc_X7_needsAtLast (c_X7_needsAtLast I hk (o := s) (by omega) 6 o (by omega) (hk.1 _)) rfl rfl vcX7 go_0 (by rw [hlv]; first | decide | omega) (by decide) (Nat.le_of_ble_eq_true rfl) (Nat.zero_le _) (Nat.zero_le _) ?_
        refine ev_ifB_eq C dX7_addNeed_36 (tgt := 43) (q := 39) (by decide) rfl (fun b3 => ?_) (fun b3 => ?_)
        · exact absurd (h2.symm.trans b3) (by decide)
        · refine ev_s C dX7_addNeed_39 (q := 40) rfl rfl ?_
          refine ev_goto C dX7_addNeed_40 (tgt := 44) (by decide) ?_
          refine ev_cV C dX7_addNeed_44 (q := 47) rfl km_X7_79 kv_X7_fails kc_X7_fails (c_X7_fails (by first | decide | (unfold rg; omega) | assumption | exact bAnd_rg _ _)) rfl rfl vcX7 go_0 (by rw [hlv]; first | decide | omega) (by decide) (Nat.le_of_ble_eq_true rfl) (Nat.zero_le _) (Nat.zero_le _) ?_
          refine ev_ifB_eq C dX7_addNeed_47 (tgt := 52) (q := 50) (by decide) rfl (fun b4 => ?_) (fun b4 => ?_)
          · exact absurd b4 (by decide)
          · refine ev_s C dX7_addNeed_50 (q := 51) rfl rfl ?_
            exact ev_iret C hr dX7_addNeed_51 (Nat.zero_le _) (Nat.zero_le _) (po_1 hPo (by first | rfl | simp [*]) rfl)
      · exact absurd (Int.ofNat.inj b2) h
    · exact absurd ((nonB_in ho).symm.trans b1) (by decide)
def anM (v : SS) (s o : Nat) : SS := stA (stS v 26 0) 7 s (bOr (v.2 7 s) (bShl 1 (o : Int)))
def ndI (v : SS) (s k : Nat) : Int := bI (ndB v s k)
theorem anM_I {v : SS} {s o : Nat} (I : MI v) (ho : o < 6) : MI (anM v s o) := MI_A (MI_S I (by decide)) (by have := bOr_bd (o := o) (I.a7 s) ho; exact this)
theorem ndI_bd (v : SS) (s n : Nat) : 0 ≤ sumN n (ndI v s) ∧ sumN n (ndI v s) ≤ n := by
  have := sumN_bd (N := n) (p := ndI v s) (a := 0) (b := 1) (fun z _ => by have := bI_01 (ndB v s z); unfold ndI; omega)
  omega
set_option maxHeartbeats 4000000 in
set_option maxRecDepth 100000 in
theorem l_X7_addNeed {k : Kx} (C : CX k RX7 cX7_addNeed 5) (hlv : klev k = 8) {u v : SS} {g : GH} (I : MI v) {s o N : Nat} (hs : s < 6) (hN : v.1 0 = (N : Int)) (hr : (kmeth k).sig.returnType = some .int) (hPo : kPo k = PoR (.inl (some (vI (sumN N (ndI v s))), mk u v g))) : ∀ (m z : Nat) (a iz : Int), iz = z → a = sumN z (ndI v s) → z ≤ N → N < z + m → EV k 69 [(0, vR (some 0)), (1, vI (s : Int)), (2, vI (o : Int)), (3, vI a), (4, vI iz)] [] (mk u v g) 0 0 := by
  intro m
  induction m with
  | zero =>
    intros
    exfalso
    omega
  | succ m ih =>
    intro z a iz e0 ea h1 h2
    have i0 := I.s0
    have hsum := ndI_bd v s z
    subst e0
    refine ev_s C dX7_addNeed_69 (q := 71) rfl rfl ?_
    refine ev_s C dX7_addNeed_71 (q := 72) rfl rfl ?_
    refine mg_0 C dX7_addNeed_72 (q := 75) rfl ?_
    refine ev_icmp_ge C dX7_addNeed_75 (tgt := 102) (q := 78) (by decide) rfl (by first | decide | (unfold rg; omega) | assumption | exact bAnd_rg _ _ | exact bOr_rg _ _) (by first | decide | (unfold rg; omega) | assumption | exact bAnd_rg _ _ | exact bOr_rg _ _) (fun b0 => ?_) (fun b0 => ?_)
    · refine ev_s C dX7_addNeed_102 (q := 103) rfl rfl ?_
      exact ev_iret C hr dX7_addNeed_103 (Nat.zero_le _) (Nat.zero_le _) (po_1 hPo (by (obtain rfl : z = N := (by omega)); rw [ea]) rfl)
    · refine ev_s C dX7_addNeed_78 (q := 79) rfl rfl ?_
      refine ev_s C dX7_addNeed_79 (q := 80) rfl rfl ?_
      refine ev_s C dX7_addNeed_80 (q := 81) rfl rfl ?_
      refine ev_s C dX7_addNeed_81 (q := 83) rfl rfl ?_
      refine ev_cV C dX7_addNeed_83 (q := 86) rfl km_X7_82 kv_X7_needs kc_X7_needs (c_X7_needs (by omega)) rfl rfl vcX7 go_0 (by rw [hlv]; first | decide | omega) (by decide) (Nat.le_of_ble_eq_true rfl) (Nat.zero_le _) (Nat.zero_le _) ?_
      refine ev_ifB_eq C dX7_addNeed_86 (tgt := 93) (q := 89) (by decide) rfl (fun b1 => ?_) (fun b1 => ?_)
      · refine ev_s C dX7_addNeed_93 (q := 94) rfl rfl ?_
        refine ev_s C dX7_addNeed_94 (q := 95) rfl rfl ?_
        refine ev_s C dX7_addNeed_95 (q := 96) rfl rfl ?_
        refine ev_s C dX7_addNeed_96 (q := 99) rfl rfl ?_
        refine ev_goto C dX7_addNeed_99 (tgt := 69) (by decide) ?_
        exact ih (z + 1) _ _ (by omega) (by show _ = sumN z (ndI v s) + ndI v s z; rw [ea]; congr 1; unfold ndI; rw [b1]; rfl) (by omega) (by omega)
      · refine ev_s C dX7_addNeed_89 (q := 90) rfl rfl ?_
        refine ev_goto C dX7_addNeed_90 (tgt := 94) (by decide) ?_
        refine ev_s C dX7_addNeed_94 (q := 95) rfl rfl ?_
        refine ev_s C dX7_addNeed_95 (q := 96) rfl rfl ?_
        refine ev_s C dX7_addNeed_96 (q := 99) rfl rfl ?_
        refine ev_goto C dX7_addNeed_99 (tgt := 69) (by decide) ?_
        exact ih (z + 1) _ _ (by omega) (by show _ = sumN z (ndI v s) + ndI v s z; rw [ea]; congr 1; unfold ndI; rw [b1]; rfl) (by omega) (by omega)
set_option maxHeartbeats 4000000 in
set_option maxRecDepth 100000 in
theorem c_X7_addNeed {u v : SS} {g : GH} (I : MI v) {rk : Nat → Nat} (hk : RK v rk) {s o : Nat} (hs : (s : Int) < v.1 0) (ho : (o : Int) < v.1 0) (h : s ≠ o) (h2 : ral v s 6 o = false) : Cn yX7_addNeed (wsy yX7_addNeed cX7_addNeed 5 (some .int)) 8 0 0 nn [vR (some 0), vI (s : Int), vI (o : Int)] (mk u v g) (.inl (some (vI (sumN (v.1 0).toNat (ndI (anM v s o) s))), mk u (anM v s o) g)) := by
  refine con_j (lv := [(0, vR (some 0)), (1, vI (s : Int)), (2, vI (o : Int))]) (by decide) (fun ad => Nat.le_of_ble_eq_true rfl) (fun ad => rfl) rfl ?_
  intro k C hr hlv hmc hms hPo hPx htab
  have i0 := I.s0
  refine ev_s C dX7_addNeed_0 (q := 1) rfl rfl ?_
  refine ev_s C dX7_addNeed_1 (q := 2) rfl rfl ?_
  refine ev_s C dX7_addNeed_2 (q := 3) rfl rfl ?_
  refine ev_cV C dX7_addNeed_3 (q := 6) rfl km_X7_75 kv_X7_isNone kc_X7_isNone (c_X7_isNone I (by first | decide | (unfold rg; omega) | assumption | exact bAnd_rg _ _)) rfl rfl vcX7 go_0 (by rw [hlv]; first | decide | omega) (by decide) (Nat.le_of_ble_eq_true rfl) (Nat.zero_le _) (Nat.zero_le _) ?_
  refine ev_ifB_ne C dX7_addNeed_6 (tgt := 17) (q := 9) (by decide) rfl (fun b0 => ?_) (fun b0 => ?_)
  · exact absurd ((nonB_in hs).symm.trans b0) (by decide)
  · refine ev_s C dX7_addNeed_9 (q := 10) rfl rfl ?_
    refine ev_s C dX7_addNeed_10 (q := 11) rfl rfl ?_
    refine ev_cV C dX7_addNeed_11 (q := 14) rfl km_X7_75 kv_X7_isNone kc_X7_isNone (c_X7_isNone I (by first | decide | (unfold rg; omega) | assumption | exact bAnd_rg _ _)) rfl rfl vcX7 go_0 (by rw [hlv]; first | decide | omega) (by decide) (Nat.le_of_ble_eq_true rfl) (Nat.zero_le _) (Nat.zero_le _) ?_
    refine ev_ifB_eq C dX7_addNeed_14 (tgt := 21) (q := 17) (by decide) rfl (fun b1 => ?_) (fun b1 => ?_)
    · refine ev_s C dX7_addNeed_21 (q := 22) rfl rfl ?_
      refine ev_s C dX7_addNeed_22 (q := 23) rfl rfl ?_
      refine ev_icmp_ne C dX7_addNeed_23 (tgt := 30) (q := 26) (by decide) rfl (by first | decide | (unfold rg; omega) | assumption | exact bAnd_rg _ _ | exact bOr_rg _ _) (by first | decide | (unfold rg; omega) | assumption | exact bAnd_rg _ _ | exact bOr_rg _ _) (fun b2 => ?_) (fun b2 => ?_)
      · refine ev_s C dX7_addNeed_30 (q := 31) rfl rfl ?_
        refine ev_s C dX7_addNeed_31 (q := 32) rfl rfl ?_
        refine ev_s C dX7_addNeed_32 (q := 33) rfl rfl ?_
        refine ev_cV C dX7_addNeed_33 (q := 36) rfl km_X7_85 kv_X7_needsAtLast kc_X7_needsAtLast (c_X7_needsAtLast I hk (o := s) (by omega) 6 o (by omega) (hk.1 _)) rfl rfl vcX7 go_0 (by rw [hlv]; first | decide | omega) (by decide) (Nat.le_of_ble_eq_true rfl) (Nat.zero_le _) (Nat.zero_le _) ?_
        refine ev_ifB_eq C dX7_addNeed_36 (tgt := 43) (q := 39) (by decide) rfl (fun b3 => ?_) (fun b3 => ?_)
        · refine ev_s C dX7_addNeed_43 (q := 44) rfl rfl ?_
          refine ev_cV C dX7_addNeed_44 (q := 47) rfl km_X7_79 kv_X7_fails kc_X7_fails (c_X7_fails (by first | decide | (unfold rg; omega) | assumption | exact bAnd_rg _ _)) rfl rfl vcX7 go_0 (by rw [hlv]; first | decide | omega) (by decide) (Nat.le_of_ble_eq_true rfl) (Nat.zero_le _) (Nat.zero_le _) ?_
          refine ev_ifB_eq C dX7_addNeed_47 (tgt := 52) (q := 50) (by decide) rfl (fun b4 => ?_) (fun b4 => ?_)
          · refine ev_s C dX7_addNeed_52 (q := 53) rfl rfl ?_
            refine mg_7 C dX7_addNeed_53 (q := 56) rfl ?_
            refine ev_s C dX7_addNeed_56 (q := 57) rfl rfl ?_
            refine ev_s C dX7_addNeed_57 (q := 58) rfl rfl ?_
            refine ml_7 C dX7_addNeed_58 (q := 59) rfl (by omega) ?_
            refine ev_s C dX7_addNeed_59 (q := 60) rfl rfl ?_
            refine ev_s C dX7_addNeed_60 (q := 61) rfl rfl ?_
            refine ev_s C dX7_addNeed_61 (q := 62) rfl rfl ?_
            refine ev_s C dX7_addNeed_62 (q := 63) rfl rfl ?_
            refine ms_7 C dX7_addNeed_63 (q := 64) rfl (by omega) ?_
            refine ev_s C dX7_addNeed_64 (q := 65) rfl rfl ?_
            refine ev_s C dX7_addNeed_65 (q := 66) rfl rfl ?_
            refine ev_s C dX7_addNeed_66 (q := 67) rfl rfl ?_
            refine ev_s C dX7_addNeed_67 (q := 69) rfl rfl ?_
            exact l_X7_addNeed C hlv (v := anM v s o) (anM_I I (by omega)) (N := (v.1 0).toNat) (by omega) (by show v.1 0 = _; omega) hr hPo ((v.1 0).toNat + 1) 0 _ _ rfl rfl (Nat.zero_le _) (by omega)
          · exact absurd b4 (by decide)
        · exact absurd (h2.symm.trans b3) (by decide)
      · exact absurd (Int.ofNat.inj b2) h
    · exact absurd ((nonB_in ho).symm.trans b1) (by decide)
def fuI (v : SS) (f : Nat) : Int := bI (!frB v f)
theorem fuI_bd (v : SS) (n : Nat) : 0 ≤ sumN n (fuI v) ∧ sumN n (fuI v) ≤ n := by
  have := sumN_bd (N := n) (p := fuI v) (a := 0) (b := 1) (fun z _ => by have := bI_01 (!frB v z); unfold fuI; omega)
  omega
def frS (v : SS) (n : Nat) : Int := sumN n (fun j => sumN 8 (ipf v j 1))
theorem frS_bd (v : SS) (n : Nat) : 0 ≤ frS v n ∧ frS v n ≤ 8 * n := by
  have := sumN_bd (N := n) (p := fun j => sumN 8 (ipf v j 1)) (a := 0) (b := 8) (fun j _ => ipf_bd v j 1)
  unfold frS
  omega
def sdB (v : SS) : Bool := decide (frS v (v.1 0).toNat = sumN (v.1 11).toNat (fuI v)) && decide (tk v ≤ v.1 15)
set_option maxHeartbeats 4000000 in
set_option maxRecDepth 100000 in
theorem l_X7_isSound1 {k : Kx} (C : CX k RX7 cX7_isSound 4) (hlv : klev k = 1) {u v : SS} {g : GH} (I : MI v) {N : Nat} (hN : v.1 0 = (N : Int)) : ∀ (m z : Nat) (a iz : Int), iz = z → a = frS v z → z ≤ N → N < z + m → EV k 32 [(0, vR (some 0)), (1, vI (frS v N)), (2, vI (N : Int))] [] (mk u v g) 0 0 → EV k 9 [(0, vR (some 0)), (1, vI a), (2, vI iz)] [] (mk u v g) 0 0 := by
  intro m
  induction m with
  | zero =>
    intros
    exfalso
    omega
  | succ m ih =>
    intro z a iz e0 ea h1 h2 kx
    have i0 := I.s0
    have ib := ipf_bd v iz 1
    have hsum := frS_bd v z
    refine ev_s C dX7_isSound_9 (q := 10) rfl rfl ?_
    refine ev_s C dX7_isSound_10 (q := 11) rfl rfl ?_
    refine mg_0 C dX7_isSound_11 (q := 14) rfl ?_
    refine ev_icmp_ge C dX7_isSound_14 (tgt := 32) (q := 17) (by decide) rfl (by first | decide | (unfold rg; omega) | assumption | exact bAnd_rg _ _ | exact bOr_rg _ _) (by first | decide | (unfold rg; omega) | assumption | exact bAnd_rg _ _ | exact bOr_rg _ _) (fun b0 => ?_) (fun b0 => ?_)
    · obtain rfl : z = N := by omega
      rw [ea, e0]
      exact kx
    · refine ev_s C dX7_isSound_17 (q := 18) rfl rfl ?_
      refine ev_s C dX7_isSound_18 (q := 19) rfl rfl ?_
      refine ev_s C dX7_isSound_19 (q := 20) rfl rfl ?_
      refine ev_s C dX7_isSound_20 (q := 21) rfl rfl ?_
      refine ev_cV C dX7_isSound_21 (q := 24) rfl km_X7_146 kv_X7_inPlace kc_X7_inPlace (c_X7_inPlace I (by omega) (by unfold rg; omega)) rfl rfl vcX7 go_0 (by rw [hlv]; first | decide | omega) (by decide) (Nat.le_of_ble_eq_true rfl) (Nat.zero_le _) (Nat.zero_le _) ?_
      refine ev_s C dX7_isSound_24 (q := 25) rfl rfl ?_
      refine ev_s C dX7_isSound_25 (q := 26) rfl rfl ?_
      refine ev_s C dX7_isSound_26 (q := 29) rfl rfl ?_
      refine ev_goto C dX7_isSound_29 (tgt := 9) (by decide) ?_
      subst e0
      exact ih (z + 1) _ _ (by omega) (by show _ = sumN z (fun j => sumN 8 (ipf v j 1)) + sumN 8 (ipf v z 1); rw [ea]; rfl) (by omega) (by omega) kx
set_option maxHeartbeats 4000000 in
set_option maxRecDepth 100000 in
theorem l_X7_isSound2 {k : Kx} (C : CX k RX7 cX7_isSound 4) {u v : SS} {g : GH} (I : MI v) {fs : Int} {N : Nat} (hN : v.1 11 = (N : Int)) : ∀ (m z : Nat) (a iz : Int), iz = z → a = sumN z (fuI v) → z ≤ N → N < z + m → EV k 67 [(0, vR (some 0)), (1, vI fs), (2, vI (sumN N (fuI v))), (3, vI (N : Int))] [] (mk u v g) 0 0 → EV k 36 [(0, vR (some 0)), (1, vI fs), (2, vI a), (3, vI iz)] [] (mk u v g) 0 0 := by
  intro m
  induction m with
  | zero =>
    intros
    exfalso
    omega
  | succ m ih =>
    intro z a iz e0 ea h1 h2 kx
    have i11 := I.s11
    have ib := I.a12 iz.toNat
    have e1 : v.2 12 iz.toNat = v.2 12 z := by rw [e0]; rfl
    have hsum := fuI_bd v z
    refine ev_s C dX7_isSound_36 (q := 37) rfl rfl ?_
    refine ev_s C dX7_isSound_37 (q := 38) rfl rfl ?_
    refine mg_11 C dX7_isSound_38 (q := 41) rfl ?_
    refine ev_icmp_ge C dX7_isSound_41 (tgt := 67) (q := 44) (by decide) rfl (by first | decide | (unfold rg; omega) | assumption | exact bAnd_rg _ _ | exact bOr_rg _ _) (by first | decide | (unfold rg; omega) | assumption | exact bAnd_rg _ _ | exact bOr_rg _ _) (fun b0 => ?_) (fun b0 => ?_)
    · obtain rfl : z = N := by omega
      rw [ea, e0]
      exact kx
    · refine ev_s C dX7_isSound_44 (q := 45) rfl rfl ?_
      refine ev_s C dX7_isSound_45 (q := 46) rfl rfl ?_
      refine mg_12 C dX7_isSound_46 (q := 49) rfl ?_
      refine ev_s C dX7_isSound_49 (q := 50) rfl rfl ?_
      refine ml_12 C dX7_isSound_50 (q := 51) rfl (by omega) ?_
      refine ev_if_ge C dX7_isSound_51 (tgt := 58) (q := 54) (by decide) rfl (by first | decide | (unfold rg; omega) | assumption | exact bAnd_rg _ _ | exact bOr_rg _ _) (fun b1 => ?_) (fun b1 => ?_)
      · refine ev_s C dX7_isSound_58 (q := 59) rfl rfl ?_
        refine ev_s C dX7_isSound_59 (q := 60) rfl rfl ?_
        refine ev_s C dX7_isSound_60 (q := 61) rfl rfl ?_
        refine ev_s C dX7_isSound_61 (q := 64) rfl rfl ?_
        refine ev_goto C dX7_isSound_64 (tgt := 36) (by decide) ?_
        subst e0
        exact ih (z + 1) _ _ (by omega) (by show _ = sumN z (fuI v) + fuI v z; rw [ea]; congr 1; unfold fuI frB; first | (rw [decide_eq_true (show v.2 12 z < 0 by omega)]; rfl) | (rw [decide_eq_false (show ¬ v.2 12 z < 0 by omega)]; rfl)) (by omega) (by omega) kx
      · refine ev_s C dX7_isSound_54 (q := 55) rfl rfl ?_
        refine ev_goto C dX7_isSound_55 (tgt := 59) (by decide) ?_
        refine ev_s C dX7_isSound_59 (q := 60) rfl rfl ?_
        refine ev_s C dX7_isSound_60 (q := 61) rfl rfl ?_
        refine ev_s C dX7_isSound_61 (q := 64) rfl rfl ?_
        refine ev_goto C dX7_isSound_64 (tgt := 36) (by decide) ?_
        subst e0
        exact ih (z + 1) _ _ (by omega) (by show _ = sumN z (fuI v) + fuI v z; rw [ea]; congr 1; unfold fuI frB; first | (rw [decide_eq_true (show v.2 12 z < 0 by omega)]; rfl) | (rw [decide_eq_false (show ¬ v.2 12 z < 0 by omega)]; rfl)) (by omega) (by omega) kx
set_option maxHeartbeats 4000000 in
set_option maxRecDepth 100000 in
theorem c_X7_isSound {u v : SS} {g : GH} (I : MI v) : Cn yX7_isSound (wsy yX7_isSound cX7_isSound 4 (some .boolean)) 1 0 0 nn [vR (some 0)] (mk u v g) (.inl (some (vI (bI (sdB v))), mk u (stS v 26 0) g)) := by
  refine con_j (lv := [(0, vR (some 0))]) (by decide) (fun ad => Nat.le_of_ble_eq_true rfl) (fun ad => rfl) rfl ?_
  intro k C hr hlv hmc hms hPo hPx htab
  have i0 := I.s0
  have i11 := I.s11
  have i15 := I.s15
  have J : MI (stS v 26 0) := MI_S I (by decide)
  have ht := tk_bd I
  have hf := frS_bd v (v.1 0).toNat
  have hg := fuI_bd v (v.1 11).toNat
  refine ev_s C dX7_isSound_0 (q := 1) rfl rfl ?_
  refine ev_s C dX7_isSound_1 (q := 2) rfl rfl ?_
  refine mp_26 C dX7_isSound_2 (q := 5) rfl ?_
  refine ev_s C dX7_isSound_5 (q := 6) rfl rfl ?_
  refine ev_s C dX7_isSound_6 (q := 7) rfl rfl ?_
  refine ev_s C dX7_isSound_7 (q := 8) rfl rfl ?_
  refine ev_s C dX7_isSound_8 (q := 9) rfl rfl ?_
  refine l_X7_isSound1 C hlv J (N := (v.1 0).toNat) (by show v.1 0 = _; omega) ((v.1 0).toNat + 1) 0 _ _ rfl rfl (Nat.zero_le _) (by omega) ?_
  refine ev_s C dX7_isSound_32 (q := 33) rfl rfl ?_
  refine ev_s C dX7_isSound_33 (q := 34) rfl rfl ?_
  refine ev_s C dX7_isSound_34 (q := 35) rfl rfl ?_
  refine ev_s C dX7_isSound_35 (q := 36) rfl rfl ?_
  refine l_X7_isSound2 C J (N := (v.1 11).toNat) (by show v.1 11 = _; omega) ((v.1 11).toNat + 1) 0 _ _ rfl rfl (Nat.zero_le _) (by omega) ?_
  refine ev_s C dX7_isSound_67 (q := 68) rfl rfl ?_
  refine ev_s C dX7_isSound_68 (q := 69) rfl rfl ?_
  refine ev_icmp_ne C dX7_isSound_69 (tgt := 87) (q := 72) (by decide) rfl (by first | decide | (unfold rg; omega) | assumption | (show rg (tk v); unfold rg; omega) | (show rg (v.1 15); unfold rg; omega) | (show rg (frS v (v.1 0).toNat); unfold rg; omega) | (show rg (sumN (v.1 11).toNat (fuI v)); unfold rg; omega)) (by first | decide | (unfold rg; omega) | assumption | (show rg (tk v); unfold rg; omega) | (show rg (v.1 15); unfold rg; omega) | (show rg (frS v (v.1 0).toNat); unfold rg; omega) | (show rg (sumN (v.1 11).toNat (fuI v)); unfold rg; omega)) (fun b0 => ?_) (fun b0 => ?_)
  · have b8 : ¬ frS v (v.1 0).toNat = sumN (v.1 11).toNat (fuI v) := b0
    refine ev_s C dX7_isSound_87 (q := 88) rfl rfl ?_
    exact ev_zret C hr (fit_Z (by first | decide | exact bI_01 _ | assumption)) dX7_isSound_88 (Nat.zero_le _) (Nat.zero_le _) (po_1 hPo (by simp [sdB, bI, *]) rfl)
  · have b8 : frS v (v.1 0).toNat = sumN (v.1 11).toNat (fuI v) := b0
    refine ev_s C dX7_isSound_72 (q := 73) rfl rfl ?_
    refine ev_cV C dX7_isSound_73 (q := 76) rfl km_X7_97 kv_X7_taken kc_X7_taken (c_X7_taken J) rfl rfl vcX7 go_0 (by rw [hlv]; first | decide | omega) (by decide) (Nat.le_of_ble_eq_true rfl) (Nat.zero_le _) (Nat.zero_le _) ?_
    refine ev_s C dX7_isSound_76 (q := 77) rfl rfl ?_
    refine mg_15 C dX7_isSound_77 (q := 80) rfl ?_
    refine ev_icmp_gt C dX7_isSound_80 (tgt := 87) (q := 83) (by decide) rfl (by first | decide | (unfold rg; omega) | assumption | (show rg (tk v); unfold rg; omega) | (show rg (v.1 15); unfold rg; omega) | (show rg (frS v (v.1 0).toNat); unfold rg; omega) | (show rg (sumN (v.1 11).toNat (fuI v)); unfold rg; omega)) (by first | decide | (unfold rg; omega) | assumption | (show rg (tk v); unfold rg; omega) | (show rg (v.1 15); unfold rg; omega) | (show rg (frS v (v.1 0).toNat); unfold rg; omega) | (show rg (sumN (v.1 11).toNat (fuI v)); unfold rg; omega)) (fun b1 => ?_) (fun b1 => ?_)
    · have b9 : ¬ tk v ≤ v.1 15 := Int.not_le.mpr b1
      refine ev_s C dX7_isSound_87 (q := 88) rfl rfl ?_
      exact ev_zret C hr (fit_Z (by first | decide | exact bI_01 _ | assumption)) dX7_isSound_88 (Nat.zero_le _) (Nat.zero_le _) (po_1 hPo (by simp [sdB, bI, *]) rfl)
    · have b9 : tk v ≤ v.1 15 := Int.not_lt.mp b1
      refine ev_s C dX7_isSound_83 (q := 84) rfl rfl ?_
      refine ev_goto C dX7_isSound_84 (tgt := 88) (by decide) ?_
      exact ev_zret C hr (fit_Z (by first | decide | exact bI_01 _ | assumption)) dX7_isSound_88 (Nat.zero_le _) (Nat.zero_le _) (po_1 hPo (by simp [sdB, bI, *]) rfl)
