/-! THE MODEL: settings, the clock, a page comes -/
def occ (v : SS) : Int := sumN 16 (fun f => bI (decide (0 ≤ v.2 12 f)))
theorem sumN_pos {p : Nat → Int} {z : Nat} : ∀ {N : Nat}, (∀ j, j < N → 0 ≤ p j) → z < N → p z ≤ sumN N p
  | 0, _, h => absurd h (Nat.not_lt_zero _)
  | N + 1, h0, h => by
    have h1 := sumN_bd (N := N) (p := p) (a := 0) (b := 0)
    unfold sumN
    by_cases e : z = N
    · subst e
      have : ∀ n, n ≤ z → 0 ≤ sumN n p := fun n => by
        induction n with
        | zero => intro _; unfold sumN; omega
        | succ n ih => intro hn; have := ih (by omega); have := h0 n (by omega); unfold sumN; omega
      have := this z (Nat.le_refl _)
      omega
    · have := sumN_pos (z := z) (N := N) (fun j hj => h0 j (by omega)) (by omega)
      have := h0 N (by omega)
      omega
theorem sumN_up {p q : Nat → Int} {z : Nat} : ∀ {N : Nat}, z < N → (∀ j, j < N → j ≠ z → q j = p j) → sumN N q = sumN N p + (q z - p z)
  | 0, h, _ => absurd h (Nat.not_lt_zero _)
  | N + 1, h, h0 => by
    unfold sumN
    by_cases e : z = N
    · subst e
      rw [sumN_c (fun j hj => h0 j (by omega) (by omega))]
      omega
    · rw [sumN_up (z := z) (N := N) (by omega) (fun j hj hn => h0 j (by omega) hn), h0 N (by omega) (by omega)]
      omega
theorem occ_pos {v : SS} {f : Nat} (hf : f < 16) (h : 0 ≤ v.2 12 f) : 1 ≤ occ v := by
  have := sumN_pos (p := fun f => bI (decide (0 ≤ v.2 12 f))) (z := f) (N := 16) (fun j _ => by have := bI_01 (decide (0 ≤ v.2 12 j)); omega) hf
  simp only [h, decide_true, bI_t] at this
  exact this
theorem toB_A {w : SS} {p : Int} {a j : Nat} (h1 : a ≠ 10) : (toB w p).2 a j = w.2 a j := by
  show (stA w 10 p.toNat 3).2 a j = _
  rw [stA_2, if_neg h1]
theorem toC_A {w : SS} {p : Int} {a j : Nat} (h1 : a ≠ 10) (h2 : a ≠ 17) : (toC w p).2 a j = w.2 a j := by
  show (stA (stA w 10 p.toNat 2) 17 (w.1 16).toNat p).2 a j = _
  rw [stA_2, if_neg h2, stA_2, if_neg h1]
theorem toM_A {v : SS} {f a j : Nat} (h1 : a ≠ 10) (h2 : a ≠ 17) (h3 : a ≠ 12) (h4 : a ≠ 13) : (toM v f).2 a j = v.2 a j := by
  have e0 : (toA v f).2 a j = v.2 a j := by
    unfold toA
    rw [stA_2, if_neg h4, stA_2, if_neg h3]
  unfold toM
  split
  · show (stA (toA v f) 10 _ 3).2 a j = _
    rw [stA_2, if_neg h1, e0]
  · show (stA (stA _ 10 _ 2) 17 _ _).2 a j = _
    rw [stA_2, if_neg h2, stA_2, if_neg h1, mkr_A h1 h2, e0]
theorem toM_12 {v : SS} {f j : Nat} : (toM v f).2 12 j = if j = f then -1 else v.2 12 j := by
  have e0 : (toA v f).2 12 j = if j = f then -1 else v.2 12 j := rfl
  unfold toM
  split
  · rw [toB_A (by decide), e0]
  · rw [toC_A (by decide) (by decide), mkr_A (by decide) (by decide), e0]
theorem toM_13 {v : SS} {f j : Nat} : (toM v f).2 13 j = if j = f then 0 else v.2 13 j := by
  have e0 : (toA v f).2 13 j = if j = f then 0 else v.2 13 j := rfl
  unfold toM
  split
  · rw [toB_A (by decide), e0]
  · rw [toC_A (by decide) (by decide), mkr_A (by decide) (by decide), e0]
theorem toM_S {v : SS} {f k : Nat} (h1 : k ≠ 16) (h2 : k ≠ 21) : (toM v f).1 k = v.1 k := by
  unfold toM
  split
  · show (stS (stA (toA v f) 10 _ 3) 21 _).1 k = _
    rw [stS_1, if_neg h2]; rfl
  · show (stS (stS (stA (stA _ 10 _ 2) 17 _ _) 16 _) 21 _).1 k = _
    rw [stS_1, if_neg h2, stS_1, if_neg h1]
    show (mkr _ _ (toA v f)).1 k = _
    rw [mkr_S h1 h2]; rfl
theorem toM_occ {v : SS} {f : Nat} (hf : f < 16) (h : 0 ≤ v.2 12 f) : occ (toM v f) = occ v - 1 := by
  have := sumN_up (p := fun f => bI (decide (0 ≤ v.2 12 f))) (q := fun j => bI (decide (0 ≤ (toM v f).2 12 j))) (z := f) (N := 16) hf (fun j _ hn => by show bI (decide (0 ≤ (toM v f).2 12 j)) = _; rw [toM_12, if_neg hn])
  unfold occ
  rw [this]
  have e : (toM v f).2 12 f = -1 := by rw [toM_12, if_pos rfl]
  simp only [e, h, decide_true, bI_t]
  have : bI (decide (0 ≤ (-1 : Int))) = 0 := by decide
  omega
/-- frames from z on are emptied, m of them -/
def sfl : Nat → Nat → SS → SS
  | 0, _, v => v
  | m + 1, z, v => sfl m (z + 1) (if 0 ≤ v.2 12 z then toM v z else v)
theorem sfl_s {m z : Nat} {v : SS} : sfl (m + 1) z v = sfl m (z + 1) (if 0 ≤ v.2 12 z then toM v z else v) := rfl
theorem sfl_I : ∀ (m z : Nat) (v : SS), MI v → v.1 16 + occ v ≤ 48 → v.1 21 + 300 * m ≤ 100000000 → z + m ≤ 16 → MI (sfl m z v) ∧ (sfl m z v).1 21 ≤ v.1 21 + 300 * m ∧ (sfl m z v).1 16 + occ (sfl m z v) ≤ 48
  | 0, z, v, I, ho, hm, hz => ⟨I, by unfold sfl; omega, ho⟩
  | m + 1, z, v, I, ho, hm, hz => by
    rw [sfl_s]
    by_cases h : 0 ≤ v.2 12 z
    · rw [if_pos h]
      have h1 := occ_pos (v := v) (f := z) (by omega) h
      have h2 := toM_I (f := z) I h (by omega) (by omega)
      have h3 := toM_occ (v := v) (f := z) (by omega) h
      have h4 := sfl_I m (z + 1) (toM v z) h2.1 (by omega) (by omega) (by omega)
      exact ⟨h4.1, by omega, h4.2.2⟩
    · rw [if_neg h]
      have h4 := sfl_I m (z + 1) v I ho (by omega) (by omega)
      exact ⟨h4.1, by omega, h4.2.2⟩
theorem sfl_S {k : Nat} (h1 : k ≠ 16) (h2 : k ≠ 21) : ∀ (m z : Nat) (v : SS), (sfl m z v).1 k = v.1 k
  | 0, z, v => rfl
  | m + 1, z, v => by
    rw [sfl_s, sfl_S h1 h2]
    split
    · exact toM_S h1 h2
    · rfl
set_option maxHeartbeats 4000000 in
set_option maxRecDepth 100000 in
theorem l_X7_setFrames {k : Kx} (C : CX k RX7 cX7_setFrames 4) (hlv : klev k = 3) {u : SS} {g : GH} {x : Int} {W : Nat} (hW : W ≤ 16) : ∀ (m z : Nat) (v : SS), z ≤ W → m = W - z + 1 → MI v → v.1 16 + occ v ≤ 48 → v.1 21 + 300 * m ≤ 100000000 → EV k 56 [(0, vR (some 0)), (1, vI x), (2, vI (W : Int)), (3, vI (W : Int))] [] (mk u (sfl (W - z) z v) g) 0 0 → EV k 31 [(0, vR (some 0)), (1, vI x), (2, vI (W : Int)), (3, vI (z : Int))] [] (mk u v g) 0 0 := by
  intro m
  induction m with
  | zero =>
    intros
    exfalso
    omega
  | succ m ih =>
    intro z v h1 h2 I ho hm kx
    have ia := I.a12 z
    refine ev_s C dX7_setFrames_31 (q := 32) rfl rfl ?_
    refine ev_s C dX7_setFrames_32 (q := 33) rfl rfl ?_
    refine ev_icmp_ge C dX7_setFrames_33 (tgt := 56) (q := 36) (by decide) rfl (by first | decide | (unfold rg; omega) | assumption | exact bAnd_rg _ _) (by first | decide | (unfold rg; omega) | assumption | exact bAnd_rg _ _) (fun b0 => ?_) (fun b0 => ?_)
    · obtain rfl : z = W := by omega
      rw [Nat.sub_self] at kx
      exact kx
    · refine ev_s C dX7_setFrames_36 (q := 37) rfl rfl ?_
      refine mg_12 C dX7_setFrames_37 (q := 40) rfl ?_
      refine ev_s C dX7_setFrames_40 (q := 41) rfl rfl ?_
      refine ml_12 C dX7_setFrames_41 (q := 42) rfl (by omega) ?_
      show EV k 42 _ (vI (v.2 12 z) :: []) _ _ _
      refine ev_if_lt C dX7_setFrames_42 (tgt := 50) (q := 45) (by decide) rfl (by first | decide | (unfold rg; omega) | assumption | exact bAnd_rg _ _) (fun b1 => ?_) (fun b1 => ?_)
      · refine ev_s C dX7_setFrames_50 (q := 53) rfl rfl ?_
        refine ev_goto C dX7_setFrames_53 (tgt := 31) (by decide) ?_
        rw [show W - z = (W - (z + 1)) + 1 by omega, sfl_s] at kx
        first
          | (rw [if_pos hc] at kx
             exact ih (z + 1) (toM v z) (by omega) (by omega) h9.1 (by omega) (by omega) kx)
          | (rw [if_neg (by omega)] at kx
             exact ih (z + 1) v (by omega) (by omega) I ho (by omega) kx)
      · have hc : 0 ≤ v.2 12 z := by omega
        have h8 := occ_pos (v := v) (f := z) (by omega) hc
        have h9 := toM_I (f := z) I hc (by omega) (by omega)
        have h10 := toM_occ (v := v) (f := z) (by omega) hc
        refine ev_s C dX7_setFrames_45 (q := 46) rfl rfl ?_
        refine ev_s C dX7_setFrames_46 (q := 47) rfl rfl ?_
        refine ev_cV C dX7_setFrames_47 (q := 50) rfl km_X7_111 kv_X7_takesOut kc_X7_takesOut (c_X7_takesOut I (f := z) rfl (by omega) hc (by omega) (by omega)) rfl rfl vcX7 go_0 (by rw [hlv]; decide) (by decide) (Nat.le_of_ble_eq_true rfl) (Nat.zero_le _) (Nat.zero_le _) ?_
        refine ev_s C dX7_setFrames_50 (q := 53) rfl rfl ?_
        refine ev_goto C dX7_setFrames_53 (tgt := 31) (by decide) ?_
        rw [show W - z = (W - (z + 1)) + 1 by omega, sfl_s] at kx
        first
          | (rw [if_pos hc] at kx
             exact ih (z + 1) (toM v z) (by omega) (by omega) h9.1 (by omega) (by omega) kx)
          | (rw [if_neg (by omega)] at kx
             exact ih (z + 1) v (by omega) (by omega) I ho (by omega) kx)
def sfM (v : SS) (x : Int) : SS :=
  let w := sfl ((v.1 11).toNat - x.toNat) x.toNat (stS v 26 0)
  let y := stS w 11 x
  if x ≤ y.1 14 then stS y 14 0 else y
set_option maxHeartbeats 4000000 in
set_option maxRecDepth 100000 in
theorem c_X7_setFrames_x {u v : SS} {g : GH} (I : MI v) {x : Int} (hx : rg x) (h : inB x 1 16 = false) : Cn yX7_setFrames (wsy yX7_setFrames cX7_setFrames 4 (some .int)) 3 0 0 nn [vR (some 0), vI x] (mk u v g) (.inl (some (vI 0), mk u (stS v 26 1) g)) := by
  refine con_j (lv := [(0, vR (some 0)), (1, vI x)]) (by decide) (fun ad => Nat.le_of_ble_eq_true rfl) (fun ad => rfl) rfl ?_
  intro k C hr hlv hmc hms hPo hPx htab
  refine ev_s C dX7_setFrames_0 (q := 1) rfl rfl ?_
  refine ev_s C dX7_setFrames_1 (q := 2) rfl rfl ?_
  refine ev_s C dX7_setFrames_2 (q := 3) rfl rfl ?_
  refine ev_s C dX7_setFrames_3 (q := 5) rfl rfl ?_
  refine ev_cS C dX7_setFrames_5 (q := 8) rfl km_X7_71 ks_X7_in kc_X7_in (c_X7_in (by first | decide | (unfold rg; omega) | assumption | exact bAnd_rg _ _) (by first | decide | (unfold rg; omega) | assumption | exact bAnd_rg _ _) (by first | decide | (unfold rg; omega) | assumption | exact bAnd_rg _ _)) rfl rfl (by rw [hlv]; decide) (by decide) (Nat.le_of_ble_eq_true rfl) (Nat.zero_le _) (Nat.zero_le _) ?_
  refine ev_ifB_eq C dX7_setFrames_8 (tgt := 15) (q := 11) (by decide) rfl (fun b0 => ?_) (fun b0 => ?_)
  · refine ev_s C dX7_setFrames_15 (q := 16) rfl rfl ?_
    refine ev_cV C dX7_setFrames_16 (q := 19) rfl km_X7_79 kv_X7_fails kc_X7_fails (c_X7_fails (by first | decide | (unfold rg; omega) | assumption | exact bAnd_rg _ _)) rfl rfl vcX7 go_0 (by rw [hlv]; decide) (by decide) (Nat.le_of_ble_eq_true rfl) (Nat.zero_le _) (Nat.zero_le _) ?_
    refine ev_ifB_eq C dX7_setFrames_19 (tgt := 24) (q := 22) (by decide) rfl (fun b1 => ?_) (fun b1 => ?_)
    · exact absurd b1 (by decide)
    · refine ev_s C dX7_setFrames_22 (q := 23) rfl rfl ?_
      exact ev_iret C hr dX7_setFrames_23 (Nat.zero_le _) (Nat.zero_le _) (po_1 hPo (by first | rfl | simp [*]) rfl)
  · exact absurd (h.symm.trans b0) (by decide)
set_option maxHeartbeats 4000000 in
set_option maxRecDepth 100000 in
theorem c_X7_setFrames {u v : SS} {g : GH} (I : MI v) {x : Int} (hx : 1 ≤ x ∧ x ≤ 16) (ho : v.1 16 + occ v ≤ 48) (hm : v.1 21 + 300 * 17 ≤ 100000000) : Cn yX7_setFrames (wsy yX7_setFrames cX7_setFrames 4 (some .int)) 3 0 0 nn [vR (some 0), vI x] (mk u v g) (.inl (some (vI (v.1 11)), mk u (sfM v x) g)) := by
  refine con_j (lv := [(0, vR (some 0)), (1, vI x)]) (by decide) (fun ad => Nat.le_of_ble_eq_true rfl) (fun ad => rfl) rfl ?_
  intro k C hr hlv hmc hms hPo hPx htab
  have i11 := I.s11
  refine ev_s C dX7_setFrames_0 (q := 1) rfl rfl ?_
  refine ev_s C dX7_setFrames_1 (q := 2) rfl rfl ?_
  refine ev_s C dX7_setFrames_2 (q := 3) rfl rfl ?_
  refine ev_s C dX7_setFrames_3 (q := 5) rfl rfl ?_
  refine ev_cS C dX7_setFrames_5 (q := 8) rfl km_X7_71 ks_X7_in kc_X7_in (c_X7_in (by first | decide | (unfold rg; omega) | assumption | exact bAnd_rg _ _) (by first | decide | (unfold rg; omega) | assumption | exact bAnd_rg _ _) (by first | decide | (unfold rg; omega) | assumption | exact bAnd_rg _ _)) rfl rfl (by rw [hlv]; decide) (by decide) (Nat.le_of_ble_eq_true rfl) (Nat.zero_le _) (Nat.zero_le _) ?_
  refine ev_ifB_eq C dX7_setFrames_8 (tgt := 15) (q := 11) (by decide) rfl (fun b0 => ?_) (fun b0 => ?_)
  · exact absurd b0 (by unfold inB; simp; omega)
  · refine ev_s C dX7_setFrames_11 (q := 12) rfl rfl ?_
    refine ev_goto C dX7_setFrames_12 (tgt := 16) (by decide) ?_
    refine ev_cV C dX7_setFrames_16 (q := 19) rfl km_X7_79 kv_X7_fails kc_X7_fails (c_X7_fails (by first | decide | (unfold rg; omega) | assumption | exact bAnd_rg _ _)) rfl rfl vcX7 go_0 (by rw [hlv]; decide) (by decide) (Nat.le_of_ble_eq_true rfl) (Nat.zero_le _) (Nat.zero_le _) ?_
    refine ev_ifB_eq C dX7_setFrames_19 (tgt := 24) (q := 22) (by decide) rfl (fun b1 => ?_) (fun b1 => ?_)
    · refine ev_s C dX7_setFrames_24 (q := 25) rfl rfl ?_
      refine mg_11 C dX7_setFrames_25 (q := 28) rfl ?_
      refine ev_s C dX7_setFrames_28 (q := 29) rfl rfl ?_
      refine ev_s C dX7_setFrames_29 (q := 30) rfl rfl ?_
      refine ev_s C dX7_setFrames_30 (q := 31) rfl rfl ?_
      have J : MI (stS v 26 0) := MI_S I (by decide)
      have i14 := I.s14
      by_cases hle : x ≤ v.1 11
      · refine ev_eqL (lv := [(0, vR (some 0)), (1, vI x), (2, vI (((v.1 11).toNat : Nat) : Int)), (3, vI ((x.toNat : Nat) : Int))]) (by rw [Int.toNat_of_nonneg (by omega), Int.toNat_of_nonneg (by omega)]; rfl) ?_
        refine l_X7_setFrames C hlv (W := (v.1 11).toNat) (by omega) ((v.1 11).toNat - x.toNat + 1) x.toNat (stS v 26 0) (by omega) rfl J ho (by show v.1 21 + _ ≤ _; omega) ?_
        rw [Int.toNat_of_nonneg (a := v.1 11) (by omega)]
        refine ev_s C dX7_setFrames_56 (q := 57) rfl rfl ?_
        refine ev_s C dX7_setFrames_57 (q := 58) rfl rfl ?_
        refine mp_11 C dX7_setFrames_58 (q := 61) rfl ?_
        refine ev_s C dX7_setFrames_61 (q := 62) rfl rfl ?_
        refine mg_14 C dX7_setFrames_62 (q := 65) rfl ?_
        refine ev_s C dX7_setFrames_65 (q := 66) rfl rfl ?_
        have i14b : (sfl ((v.1 11).toNat - x.toNat) x.toNat (stS v 26 0)).1 14 = v.1 14 := sfl_S (by decide) (by decide) _ _ _
        show EV k 66 _ (vI x :: vI ((sfl ((v.1 11).toNat - x.toNat) x.toNat (stS v 26 0)).1 14) :: []) _ _ _
        rw [i14b]
        refine ev_icmp_lt C dX7_setFrames_66 (tgt := 74) (q := 69) (by decide) rfl (by first | decide | (unfold rg; omega) | assumption | exact bAnd_rg _ _) (by first | decide | (unfold rg; omega) | assumption | exact bAnd_rg _ _) (fun b0 => ?_) (fun b0 => ?_)
        · have b9 : ¬ x ≤ (sfl ((v.1 11).toNat - x.toNat) x.toNat (stS v 26 0)).1 14 := by omega
          refine ev_s C dX7_setFrames_74 (q := 75) rfl rfl ?_
          exact ev_iret C hr dX7_setFrames_75 (Nat.zero_le _) (Nat.zero_le _) (po_1 hPo rfl (by unfold sfM; simp only []; first | (rw [if_pos (by first | exact b9 | omega)] <;> rfl) | (rw [if_neg (by first | exact b9 | omega)] <;> rfl)))
        · have b9 : x ≤ (sfl ((v.1 11).toNat - x.toNat) x.toNat (stS v 26 0)).1 14 := by omega
          refine ev_s C dX7_setFrames_69 (q := 70) rfl rfl ?_
          refine ev_s C dX7_setFrames_70 (q := 71) rfl rfl ?_
          refine mp_14 C dX7_setFrames_71 (q := 74) rfl ?_
          refine ev_s C dX7_setFrames_74 (q := 75) rfl rfl ?_
          exact ev_iret C hr dX7_setFrames_75 (Nat.zero_le _) (Nat.zero_le _) (po_1 hPo rfl (by unfold sfM; simp only []; first | (rw [if_pos (by first | exact b9 | omega)] <;> rfl) | (rw [if_neg (by first | exact b9 | omega)] <;> rfl)))
      · refine ev_s C dX7_setFrames_31 (q := 32) rfl rfl ?_
        refine ev_s C dX7_setFrames_32 (q := 33) rfl rfl ?_
        refine ev_eqS (st := [vI (v.1 11), vI x]) rfl ?_
        refine ev_icmp_ge C dX7_setFrames_33 (tgt := 56) (q := 36) (by decide) rfl (by unfold rg; omega) (by unfold rg; omega) (fun b => ?_) (fun b => absurd b (by omega))
        refine ev_eq (G := mk u (sfl ((v.1 11).toNat - x.toNat) x.toNat (stS v 26 0)) g) (by rw [show (v.1 11).toNat - x.toNat = 0 by omega]; rfl) ?_
        refine ev_s C dX7_setFrames_56 (q := 57) rfl rfl ?_
        refine ev_s C dX7_setFrames_57 (q := 58) rfl rfl ?_
        refine mp_11 C dX7_setFrames_58 (q := 61) rfl ?_
        refine ev_s C dX7_setFrames_61 (q := 62) rfl rfl ?_
        refine mg_14 C dX7_setFrames_62 (q := 65) rfl ?_
        refine ev_s C dX7_setFrames_65 (q := 66) rfl rfl ?_
        have i14b : (sfl ((v.1 11).toNat - x.toNat) x.toNat (stS v 26 0)).1 14 = v.1 14 := sfl_S (by decide) (by decide) _ _ _
        show EV k 66 _ (vI x :: vI ((sfl ((v.1 11).toNat - x.toNat) x.toNat (stS v 26 0)).1 14) :: []) _ _ _
        rw [i14b]
        refine ev_icmp_lt C dX7_setFrames_66 (tgt := 74) (q := 69) (by decide) rfl (by first | decide | (unfold rg; omega) | assumption | exact bAnd_rg _ _) (by first | decide | (unfold rg; omega) | assumption | exact bAnd_rg _ _) (fun b0 => ?_) (fun b0 => ?_)
        · have b9 : ¬ x ≤ (sfl ((v.1 11).toNat - x.toNat) x.toNat (stS v 26 0)).1 14 := by omega
          refine ev_s C dX7_setFrames_74 (q := 75) rfl rfl ?_
          exact ev_iret C hr dX7_setFrames_75 (Nat.zero_le _) (Nat.zero_le _) (po_1 hPo rfl (by unfold sfM; simp only []; first | (rw [if_pos (by first | exact b9 | omega)] <;> rfl) | (rw [if_neg (by first | exact b9 | omega)] <;> rfl)))
        · have b9 : x ≤ (sfl ((v.1 11).toNat - x.toNat) x.toNat (stS v 26 0)).1 14 := by omega
          refine ev_s C dX7_setFrames_69 (q := 70) rfl rfl ?_
          refine ev_s C dX7_setFrames_70 (q := 71) rfl rfl ?_
          refine mp_14 C dX7_setFrames_71 (q := 74) rfl ?_
          refine ev_s C dX7_setFrames_74 (q := 75) rfl rfl ?_
          exact ev_iret C hr dX7_setFrames_75 (Nat.zero_le _) (Nat.zero_le _) (po_1 hPo rfl (by unfold sfM; simp only []; first | (rw [if_pos (by first | exact b9 | omega)] <;> rfl) | (rw [if_neg (by first | exact b9 | omega)] <;> rfl)))
    · exact absurd b1 (by decide)
set_option maxHeartbeats 4000000 in
set_option maxRecDepth 100000 in
theorem c_X7_setRoom_x {u v : SS} {g : GH} (I : MI v) {x : Int} (hx : rg x) (h : inB x 0 60 = false) : Cn yX7_setRoom (wsy yX7_setRoom cX7_setRoom 3 (some .int)) 3 0 0 nn [vR (some 0), vI x] (mk u v g) (.inl (some (vI 0), mk u (stS v 26 1) g)) := by
  refine con_j (lv := [(0, vR (some 0)), (1, vI x)]) (by decide) (fun ad => Nat.le_of_ble_eq_true rfl) (fun ad => rfl) rfl ?_
  intro k C hr hlv hmc hms hPo hPx htab
  refine ev_s C dX7_setRoom_0 (q := 1) rfl rfl ?_
  refine ev_s C dX7_setRoom_1 (q := 2) rfl rfl ?_
  refine ev_s C dX7_setRoom_2 (q := 3) rfl rfl ?_
  refine ev_s C dX7_setRoom_3 (q := 5) rfl rfl ?_
  refine ev_cS C dX7_setRoom_5 (q := 8) rfl km_X7_71 ks_X7_in kc_X7_in (c_X7_in (by first | decide | (unfold rg; omega) | assumption | exact bAnd_rg _ _) (by first | decide | (unfold rg; omega) | assumption | exact bAnd_rg _ _) (by first | decide | (unfold rg; omega) | assumption | exact bAnd_rg _ _)) rfl rfl (by rw [hlv]; decide) (by decide) (Nat.le_of_ble_eq_true rfl) (Nat.zero_le _) (Nat.zero_le _) ?_
  refine ev_ifB_eq C dX7_setRoom_8 (tgt := 15) (q := 11) (by decide) rfl (fun b0 => ?_) (fun b0 => ?_)
  · refine ev_s C dX7_setRoom_15 (q := 16) rfl rfl ?_
    refine ev_cV C dX7_setRoom_16 (q := 19) rfl km_X7_79 kv_X7_fails kc_X7_fails (c_X7_fails (by first | decide | (unfold rg; omega) | assumption | exact bAnd_rg _ _)) rfl rfl vcX7 go_0 (by rw [hlv]; decide) (by decide) (Nat.le_of_ble_eq_true rfl) (Nat.zero_le _) (Nat.zero_le _) ?_
    refine ev_ifB_eq C dX7_setRoom_19 (tgt := 24) (q := 22) (by decide) rfl (fun b1 => ?_) (fun b1 => ?_)
    · exact absurd b1 (by decide)
    · refine ev_s C dX7_setRoom_22 (q := 23) rfl rfl ?_
      exact ev_iret C hr dX7_setRoom_23 (Nat.zero_le _) (Nat.zero_le _) (po_1 hPo (by first | rfl | simp [*]) rfl)
  · exact absurd (h.symm.trans b0) (by decide)
def srM (v : SS) (x : Int) : SS := mkr 0 ((v.1 16).toNat + 1) (stS (stS v 26 0) 15 x)
set_option maxHeartbeats 4000000 in
set_option maxRecDepth 100000 in
theorem c_X7_setRoom {u v : SS} {g : GH} (I : MI v) {x : Int} (hx : 0 ≤ x ∧ x ≤ 60) (hm : v.1 21 + 300 ≤ 100000000) : Cn yX7_setRoom (wsy yX7_setRoom cX7_setRoom 3 (some .int)) 3 0 0 nn [vR (some 0), vI x] (mk u v g) (.inl (some (vI (v.1 15)), mk u (srM v x) g)) := by
  refine con_j (lv := [(0, vR (some 0)), (1, vI x)]) (by decide) (fun ad => Nat.le_of_ble_eq_true rfl) (fun ad => rfl) rfl ?_
  intro k C hr hlv hmc hms hPo hPx htab
  have i15 := I.s15
  refine ev_s C dX7_setRoom_0 (q := 1) rfl rfl ?_
  refine ev_s C dX7_setRoom_1 (q := 2) rfl rfl ?_
  refine ev_s C dX7_setRoom_2 (q := 3) rfl rfl ?_
  refine ev_s C dX7_setRoom_3 (q := 5) rfl rfl ?_
  refine ev_cS C dX7_setRoom_5 (q := 8) rfl km_X7_71 ks_X7_in kc_X7_in (c_X7_in (by first | decide | (unfold rg; omega) | assumption | exact bAnd_rg _ _) (by first | decide | (unfold rg; omega) | assumption | exact bAnd_rg _ _) (by first | decide | (unfold rg; omega) | assumption | exact bAnd_rg _ _)) rfl rfl (by rw [hlv]; decide) (by decide) (Nat.le_of_ble_eq_true rfl) (Nat.zero_le _) (Nat.zero_le _) ?_
  refine ev_ifB_eq C dX7_setRoom_8 (tgt := 15) (q := 11) (by decide) rfl (fun b0 => ?_) (fun b0 => ?_)
  · exact absurd b0 (by unfold inB; simp; omega)
  · refine ev_s C dX7_setRoom_11 (q := 12) rfl rfl ?_
    refine ev_goto C dX7_setRoom_12 (tgt := 16) (by decide) ?_
    refine ev_cV C dX7_setRoom_16 (q := 19) rfl km_X7_79 kv_X7_fails kc_X7_fails (c_X7_fails (by first | decide | (unfold rg; omega) | assumption | exact bAnd_rg _ _)) rfl rfl vcX7 go_0 (by rw [hlv]; decide) (by decide) (Nat.le_of_ble_eq_true rfl) (Nat.zero_le _) (Nat.zero_le _) ?_
    refine ev_ifB_eq C dX7_setRoom_19 (tgt := 24) (q := 22) (by decide) rfl (fun b1 => ?_) (fun b1 => ?_)
    · refine ev_s C dX7_setRoom_24 (q := 25) rfl rfl ?_
      refine mg_15 C dX7_setRoom_25 (q := 28) rfl ?_
      refine ev_s C dX7_setRoom_28 (q := 29) rfl rfl ?_
      refine ev_s C dX7_setRoom_29 (q := 30) rfl rfl ?_
      refine ev_s C dX7_setRoom_30 (q := 31) rfl rfl ?_
      refine mp_15 C dX7_setRoom_31 (q := 34) rfl ?_
      refine ev_s C dX7_setRoom_34 (q := 35) rfl rfl ?_
      refine ev_s C dX7_setRoom_35 (q := 36) rfl rfl ?_
      refine ev_cV C dX7_setRoom_36 (q := 39) rfl km_X7_108 kv_X7_makesRoom kc_X7_makesRoom (c_X7_makesRoom (v := stS (stS v 26 0) 15 x) (MI_S (MI_S I (by decide)) (by show 0 ≤ x ∧ x ≤ 60; omega)) (by show 0 ≤ (0 : Int) ∧ (0 : Int) ≤ x; omega) (by show v.1 21 + 300 ≤ _; omega)) rfl rfl vcX7 go_0 (by rw [hlv]; decide) (by decide) (Nat.le_of_ble_eq_true rfl) (Nat.zero_le _) (Nat.zero_le _) ?_
      refine ev_s C dX7_setRoom_39 (q := 40) rfl rfl ?_
      exact ev_iret C hr dX7_setRoom_40 (Nat.zero_le _) (Nat.zero_le _) (po_1 hPo rfl rfl)
    · exact absurd b1 (by decide)
set_option maxHeartbeats 4000000 in
set_option maxRecDepth 100000 in
theorem c_X7_setLimit_x {u v : SS} {g : GH} (I : MI v) {x : Int} (hx : rg x) (h : inB x 0 999 = false) : Cn yX7_setLimit (wsy yX7_setLimit cX7_setLimit 3 (some .int)) 3 0 0 nn [vR (some 0), vI x] (mk u v g) (.inl (some (vI 0), mk u (stS v 26 1) g)) := by
  refine con_j (lv := [(0, vR (some 0)), (1, vI x)]) (by decide) (fun ad => Nat.le_of_ble_eq_true rfl) (fun ad => rfl) rfl ?_
  intro k C hr hlv hmc hms hPo hPx htab
  refine ev_s C dX7_setLimit_0 (q := 1) rfl rfl ?_
  refine ev_s C dX7_setLimit_1 (q := 2) rfl rfl ?_
  refine ev_s C dX7_setLimit_2 (q := 3) rfl rfl ?_
  refine ev_s C dX7_setLimit_3 (q := 6) rfl rfl ?_
  refine ev_cS C dX7_setLimit_6 (q := 9) rfl km_X7_71 ks_X7_in kc_X7_in (c_X7_in (by first | decide | (unfold rg; omega) | assumption | exact bAnd_rg _ _) (by first | decide | (unfold rg; omega) | assumption | exact bAnd_rg _ _) (by first | decide | (unfold rg; omega) | assumption | exact bAnd_rg _ _)) rfl rfl (by rw [hlv]; decide) (by decide) (Nat.le_of_ble_eq_true rfl) (Nat.zero_le _) (Nat.zero_le _) ?_
  refine ev_ifB_eq C dX7_setLimit_9 (tgt := 16) (q := 12) (by decide) rfl (fun b0 => ?_) (fun b0 => ?_)
  · refine ev_s C dX7_setLimit_16 (q := 17) rfl rfl ?_
    refine ev_cV C dX7_setLimit_17 (q := 20) rfl km_X7_79 kv_X7_fails kc_X7_fails (c_X7_fails (by first | decide | (unfold rg; omega) | assumption | exact bAnd_rg _ _)) rfl rfl vcX7 go_0 (by rw [hlv]; decide) (by decide) (Nat.le_of_ble_eq_true rfl) (Nat.zero_le _) (Nat.zero_le _) ?_
    refine ev_ifB_eq C dX7_setLimit_20 (tgt := 25) (q := 23) (by decide) rfl (fun b1 => ?_) (fun b1 => ?_)
    · exact absurd b1 (by decide)
    · refine ev_s C dX7_setLimit_23 (q := 24) rfl rfl ?_
      exact ev_iret C hr dX7_setLimit_24 (Nat.zero_le _) (Nat.zero_le _) (po_1 hPo (by first | rfl | simp [*]) rfl)
  · exact absurd (h.symm.trans b0) (by decide)
set_option maxHeartbeats 4000000 in
set_option maxRecDepth 100000 in
theorem c_X7_setLimit {u v : SS} {g : GH} (I : MI v) {x : Int} (hx : 0 ≤ x ∧ x ≤ 999) : Cn yX7_setLimit (wsy yX7_setLimit cX7_setLimit 3 (some .int)) 3 0 0 nn [vR (some 0), vI x] (mk u v g) (.inl (some (vI (v.1 18)), mk u (stS (stS v 26 0) 18 x) g)) := by
  refine con_j (lv := [(0, vR (some 0)), (1, vI x)]) (by decide) (fun ad => Nat.le_of_ble_eq_true rfl) (fun ad => rfl) rfl ?_
  intro k C hr hlv hmc hms hPo hPx htab
  refine ev_s C dX7_setLimit_0 (q := 1) rfl rfl ?_
  refine ev_s C dX7_setLimit_1 (q := 2) rfl rfl ?_
  refine ev_s C dX7_setLimit_2 (q := 3) rfl rfl ?_
  refine ev_s C dX7_setLimit_3 (q := 6) rfl rfl ?_
  refine ev_cS C dX7_setLimit_6 (q := 9) rfl km_X7_71 ks_X7_in kc_X7_in (c_X7_in (by first | decide | (unfold rg; omega) | assumption | exact bAnd_rg _ _) (by first | decide | (unfold rg; omega) | assumption | exact bAnd_rg _ _) (by first | decide | (unfold rg; omega) | assumption | exact bAnd_rg _ _)) rfl rfl (by rw [hlv]; decide) (by decide) (Nat.le_of_ble_eq_true rfl) (Nat.zero_le _) (Nat.zero_le _) ?_
  refine ev_ifB_eq C dX7_setLimit_9 (tgt := 16) (q := 12) (by decide) rfl (fun b0 => ?_) (fun b0 => ?_)
  · exact absurd b0 (by unfold inB; simp; omega)
  · refine ev_s C dX7_setLimit_12 (q := 13) rfl rfl ?_
    refine ev_goto C dX7_setLimit_13 (tgt := 17) (by decide) ?_
    refine ev_cV C dX7_setLimit_17 (q := 20) rfl km_X7_79 kv_X7_fails kc_X7_fails (c_X7_fails (by first | decide | (unfold rg; omega) | assumption | exact bAnd_rg _ _)) rfl rfl vcX7 go_0 (by rw [hlv]; decide) (by decide) (Nat.le_of_ble_eq_true rfl) (Nat.zero_le _) (Nat.zero_le _) ?_
    refine ev_ifB_eq C dX7_setLimit_20 (tgt := 25) (q := 23) (by decide) rfl (fun b1 => ?_) (fun b1 => ?_)
    · refine ev_s C dX7_setLimit_25 (q := 26) rfl rfl ?_
      refine mg_18 C dX7_setLimit_26 (q := 29) rfl ?_
      refine ev_s C dX7_setLimit_29 (q := 30) rfl rfl ?_
      refine ev_s C dX7_setLimit_30 (q := 31) rfl rfl ?_
      refine ev_s C dX7_setLimit_31 (q := 32) rfl rfl ?_
      refine mp_18 C dX7_setLimit_32 (q := 35) rfl ?_
      refine ev_s C dX7_setLimit_35 (q := 36) rfl rfl ?_
      exact ev_iret C hr dX7_setLimit_36 (Nat.zero_le _) (Nat.zero_le _) (po_1 hPo rfl rfl)
    · exact absurd b1 (by decide)
