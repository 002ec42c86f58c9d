/-! THE MODEL: what changes -/
set_option maxHeartbeats 4000000 in
set_option maxRecDepth 100000 in
theorem c_X7_unstores {u v : SS} {g : GH} (I : MI v) {p : Nat} {pz : Int} (hp : pz = p) (hp2 : p < (v.1 16).toNat) : Cn yX7_unstores (wsy yX7_unstores cX7_unstores 3 none) 0 0 0 nn [vR (some 0), vI pz] (mk u v g) (.inl (none, mk u (unsM v p) g)) := by
  refine con_j (lv := [(0, vR (some 0)), (1, vI pz)]) (by decide) (fun ad => Nat.le_of_ble_eq_true rfl) (fun ad => rfl) rfl ?_
  intro k C hr hlv hmc hms hPo hPx htab
  subst hp
  refine ev_s C dX7_unstores_0 (q := 1) rfl rfl ?_
  refine ev_s C dX7_unstores_1 (q := 2) rfl rfl ?_
  refine mg_16 C dX7_unstores_2 (q := 5) rfl ?_
  refine ev_s C dX7_unstores_5 (q := 6) rfl rfl ?_
  refine ev_s C dX7_unstores_6 (q := 7) rfl rfl ?_
  refine mp_16 C dX7_unstores_7 (q := 10) rfl ?_
  refine ev_s C dX7_unstores_10 (q := 11) rfl rfl ?_
  refine ev_s C dX7_unstores_11 (q := 12) rfl rfl ?_
  have i16 := I.s16
  refine ev_eq (G := mk u (stF (stS v 16 (v.1 16 - 1)) 17 (shf (v.2 17) p p)) g) (by rw [shf_0]; rfl) ?_
  refine l_X7_unstores C (N := (v.1 16 - 1).toNat) (by show v.1 16 - 1 = _; omega) (by omega) ((v.1 16 - 1).toNat + 1) p (Nat.le_refl _) (by omega) (by omega) ?_
  exact ev_vret C hr dX7_unstores_40 (Nat.zero_le _) (Nat.zero_le _) (po_0 hPo rfl)
def tk (v : SS) : Int := sumN (v.1 16).toNat (tkf v)
def pop (v : SS) : SS := stS (unsM (stA v 10 (v.2 17 0).toNat 3) 0) 21 (v.1 21 + 5)
def mkr (sz : Int) : Nat → SS → SS
  | 0, v => v
  | d + 1, v => if v.1 15 < tk v + sz then mkr sz d (pop v) else v
theorem mkr_s {sz : Int} {d : Nat} {v : SS} : mkr sz (d + 1) v = if v.1 15 < tk v + sz then mkr sz d (pop v) else v := rfl
theorem MI_uns {v : SS} {p : Nat} (I : MI v) (h : 1 ≤ v.1 16) : MI (unsM v p) := by
  have i16 := I.s16
  refine MI_F (MI_S I (by show 0 ≤ v.1 16 - 1 ∧ v.1 16 - 1 ≤ 48; omega)) (fun j => ?_)
  unfold shf
  split
  · exact I.a17 _
  · exact I.a17 _
theorem MI_pop {v : SS} (I : MI v) (h : 1 ≤ v.1 16) (hm : v.1 21 + 5 ≤ 100000000) : MI (pop v) := by
  have i21 := I.s21
  have J : MI (stA v 10 (v.2 17 0).toNat 3) := MI_A I (by decide)
  exact MI_S (MI_uns J h) (by show 0 ≤ v.1 21 + 5 ∧ v.1 21 + 5 ≤ 100000000; omega)
theorem pop_S {v : SS} {k : Nat} (h1 : k ≠ 16) (h2 : k ≠ 21) : (pop v).1 k = v.1 k := by
  unfold pop unsM
  rw [stS_1, if_neg h2]
  show (stS (stA v 10 (v.2 17 0).toNat 3) 16 _).1 k = _
  rw [stS_1, if_neg h1]
  rfl
theorem pop_16 {v : SS} : (pop v).1 16 = v.1 16 - 1 := rfl
theorem pop_21 {v : SS} : (pop v).1 21 = v.1 21 + 5 := rfl
theorem pop_A {v : SS} {a j : Nat} (h1 : a ≠ 10) (h2 : a ≠ 17) : (pop v).2 a j = v.2 a j := by
  show (if a = 17 then _ else (stA v 10 (v.2 17 0).toNat 3).2 a) j = _
  rw [if_neg h2, stA_2, if_neg h1]
theorem tk_bd {v : SS} (I : MI v) : 0 ≤ tk v ∧ tk v ≤ 192 := by
  have i16 := I.s16
  have h := sumN_bd (N := (v.1 16).toNat) (p := tkf v) (a := 0) (b := 4) (fun z _ => by have := I.a9 (v.2 17 z).toNat; unfold tkf; omega)
  unfold tk
  omega
theorem tk_0 {v : SS} (h : v.1 16 = 0) : tk v = 0 := by unfold tk; rw [h]; rfl
theorem mkr_S {sz : Int} {k : Nat} (h1 : k ≠ 16) (h2 : k ≠ 21) : ∀ (d : Nat) (v : SS), (mkr sz d v).1 k = v.1 k
  | 0, v => rfl
  | d + 1, v => by
    unfold mkr
    split
    · rw [mkr_S h1 h2 d, pop_S h1 h2]
    · rfl
theorem mkr_A {sz : Int} {a j : Nat} (h1 : a ≠ 10) (h2 : a ≠ 17) : ∀ (d : Nat) (v : SS), (mkr sz d v).2 a j = v.2 a j
  | 0, v => rfl
  | d + 1, v => by
    unfold mkr
    split
    · rw [mkr_A h1 h2 d, pop_A h1 h2]
    · rfl
theorem mkr_I {sz : Int} : ∀ (d : Nat) (v : SS), MI v → sz ≤ v.1 15 → v.1 21 + 5 * d ≤ 100000000 → MI (mkr sz d v) ∧ (mkr sz d v).1 16 ≤ v.1 16 ∧ v.1 21 ≤ (mkr sz d v).1 21 ∧ (mkr sz d v).1 21 ≤ v.1 21 + 5 * d
  | 0, v, I, _, _ => ⟨I, Int.le_refl _, Int.le_refl _, by unfold mkr; omega⟩
  | d + 1, v, I, h1, h2 => by
    unfold mkr
    split
    · rename_i hc
      have i16 := I.s16
      have h16 : 1 ≤ v.1 16 := by
        by_cases e : v.1 16 = 0
        · rw [tk_0 e] at hc; omega
        · omega
      have h := mkr_I (sz := sz) d (pop v) (MI_pop I h16 (by omega)) (by rw [pop_S (by decide) (by decide)]; exact h1) (by rw [pop_21]; omega)
      rw [pop_16, pop_21] at h
      exact ⟨h.1, by omega, by omega, by omega⟩
    · exact ⟨I, Int.le_refl _, Int.le_refl _, by omega⟩
set_option maxHeartbeats 4000000 in
set_option maxRecDepth 100000 in
theorem l_X7_makesRoom {k : Kx} (C : CX k RX7 cX7_makesRoom 2) (hlv : klev k = 1) {u : SS} {g : GH} {sz : Int} (hsz : 0 ≤ sz ∧ sz ≤ 60) : ∀ (m : Nat) (v : SS), MI v → v.1 16 < m → sz ≤ v.1 15 → v.1 21 + 5 * m ≤ 100000000 → EV k 43 [(0, vR (some 0)), (1, vI sz)] [] (mk u (mkr sz m v) g) 0 0 → EV k 0 [(0, vR (some 0)), (1, vI sz)] [] (mk u v g) 0 0 := by
  intro m
  induction m with
  | zero =>
    intro v I h2
    have i16 := I.s16
    exfalso
    omega
  | succ m ih =>
    intro v I h2 h3 h4 kx
    have i15 := I.s15
    have i16 := I.s16
    have it := tk_bd I
    unfold tk at it
    have ia := I.a17 0
    refine ev_s C dX7_makesRoom_0 (q := 1) rfl rfl ?_
    refine ev_cV C dX7_makesRoom_1 (q := 4) rfl km_X7_97 kv_X7_taken kc_X7_taken (c_X7_taken I) rfl rfl vcX7 go_0 (by rw [hlv]; decide) (by decide) (Nat.le_of_ble_eq_true rfl) (Nat.zero_le _) (Nat.zero_le _) ?_
    refine ev_s C dX7_makesRoom_4 (q := 5) rfl rfl ?_
    refine ev_s C dX7_makesRoom_5 (q := 6) rfl rfl ?_
    refine ev_s C dX7_makesRoom_6 (q := 7) rfl rfl ?_
    refine mg_15 C dX7_makesRoom_7 (q := 10) rfl ?_
    refine ev_icmp_le C dX7_makesRoom_10 (tgt := 43) (q := 13) (by decide) rfl (by first | decide | (unfold rg; omega) | assumption | exact bAnd_rg _ _) (by first | decide | (unfold rg; omega) | assumption | exact bAnd_rg _ _) (fun b0 => ?_) (fun b0 => ?_)
    · rw [mkr_s, if_neg (by show ¬ v.1 15 < tk v + sz; unfold tk; omega)] at kx
      exact kx
    · have hc : v.1 15 < tk v + sz := by unfold tk; omega
      have h16 : 1 ≤ v.1 16 := by
        by_cases e : v.1 16 = 0
        · rw [tk_0 e] at hc; omega
        · omega
      have J : MI (stA v 10 (v.2 17 0).toNat 3) := MI_A I (by decide)
      refine ev_s C dX7_makesRoom_13 (q := 14) rfl rfl ?_
      refine mg_10 C dX7_makesRoom_14 (q := 17) rfl ?_
      refine ev_s C dX7_makesRoom_17 (q := 18) rfl rfl ?_
      refine mg_17 C dX7_makesRoom_18 (q := 21) rfl ?_
      refine ev_s C dX7_makesRoom_21 (q := 22) rfl rfl ?_
      refine ml_17 C dX7_makesRoom_22 (q := 23) rfl (by omega) ?_
      refine ev_s C dX7_makesRoom_23 (q := 24) rfl rfl ?_
      refine ms_10 C dX7_makesRoom_24 (q := 25) rfl (by show 0 ≤ v.2 17 0 ∧ v.2 17 0 < 48; omega) ?_
      refine ev_s C dX7_makesRoom_25 (q := 26) rfl rfl ?_
      refine ev_s C dX7_makesRoom_26 (q := 27) rfl rfl ?_
      refine ev_cV C dX7_makesRoom_27 (q := 30) rfl km_X7_101 kv_X7_unstores kc_X7_unstores (c_X7_unstores J (p := 0) rfl (by show 0 < (v.1 16).toNat; omega)) rfl rfl vcX7 go_0 (by rw [hlv]; decide) (by decide) (Nat.le_of_ble_eq_true rfl) (Nat.zero_le _) (Nat.zero_le _) ?_
      refine ev_s C dX7_makesRoom_30 (q := 31) rfl rfl ?_
      refine ev_s C dX7_makesRoom_31 (q := 32) rfl rfl ?_
      refine mg_21 C dX7_makesRoom_32 (q := 35) rfl ?_
      refine ev_s C dX7_makesRoom_35 (q := 36) rfl rfl ?_
      refine ev_s C dX7_makesRoom_36 (q := 37) rfl rfl ?_
      refine mp_21 C dX7_makesRoom_37 (q := 40) rfl ?_
      refine ev_goto C dX7_makesRoom_40 (tgt := 0) (by decide) ?_
      rw [mkr_s, if_pos hc] at kx
      exact ih (pop v) (MI_pop I h16 (by omega)) (by rw [pop_16]; omega) (by rw [pop_S (by decide) (by decide)]; exact h3) (by rw [pop_21]; omega) kx
set_option maxHeartbeats 4000000 in
set_option maxRecDepth 100000 in
theorem c_X7_makesRoom {u v : SS} {g : GH} (I : MI v) {sz : Int} (hsz : 0 ≤ sz ∧ sz ≤ v.1 15) (hm : v.1 21 + 300 ≤ 100000000) : Cn yX7_makesRoom (wsy yX7_makesRoom cX7_makesRoom 2 none) 1 0 0 nn [vR (some 0), vI sz] (mk u v g) (.inl (none, mk u (mkr sz ((v.1 16).toNat + 1) v) g)) := by
  refine con_j (lv := [(0, vR (some 0)), (1, vI sz)]) (by decide) (fun ad => Nat.le_of_ble_eq_true rfl) (fun ad => rfl) rfl ?_
  intro k C hr hlv hmc hms hPo hPx htab
  refine l_X7_makesRoom C hlv (by have := I.s15; omega) ((v.1 16).toNat + 1) v I (by have := I.s16; omega) hsz.2 (by have := I.s16; omega) ?_
  exact ev_vret C hr dX7_makesRoom_43 (Nat.zero_le _) (Nat.zero_le _) (po_0 hPo rfl)
def toA (v : SS) (f : Nat) : SS := stA (stA v 12 f (-1)) 13 f 0
def toB (w : SS) (p : Int) : SS := stS (stA w 10 p.toNat 3) 21 (w.1 21 + 5)
def toC (x : SS) (p : Int) : SS := stS (stS (stA (stA x 10 p.toNat 2) 17 (x.1 16).toNat p) 16 (x.1 16 + 1)) 21 (x.1 21 + 1)
def toM (v : SS) (f : Nat) : SS :=
  if v.1 15 < v.2 9 (v.2 12 f).toNat then toB (toA v f) (v.2 12 f) else toC (mkr (v.2 9 (v.2 12 f).toNat) ((v.1 16).toNat + 1) (toA v f)) (v.2 12 f)
theorem MI_toA {v : SS} {f : Nat} (I : MI v) : MI (toA v f) := MI_A (MI_A I (by decide)) (by decide)
theorem MI_toB {w : SS} {p : Int} (I : MI w) (h : w.1 21 + 5 ≤ 100000000) : MI (toB w p) := by
  have := I.s21
  exact MI_S (MI_A I (by decide)) (by show 0 ≤ w.1 21 + 5 ∧ w.1 21 + 5 ≤ 100000000; omega)
theorem MI_toC {x : SS} {p : Int} (I : MI x) (hp : 0 ≤ p ∧ p < 48) (h16 : x.1 16 < 48) (h : x.1 21 + 1 ≤ 100000000) : MI (toC x p) := by
  have := I.s21
  have := I.s16
  refine MI_S (MI_S (MI_A (MI_A I (by decide)) (by show 0 ≤ p ∧ p ≤ 47; omega)) (by show 0 ≤ x.1 16 + 1 ∧ x.1 16 + 1 ≤ 48; omega)) (by show 0 ≤ x.1 21 + 1 ∧ x.1 21 + 1 ≤ 100000000; omega)
theorem toM_I {v : SS} {f : Nat} (I : MI v) (hp : 0 ≤ v.2 12 f) (h16 : v.1 16 < 48) (hm : v.1 21 + 300 ≤ 100000000) : MI (toM v f) ∧ v.1 21 ≤ (toM v f).1 21 ∧ (toM v f).1 21 ≤ v.1 21 + 300 ∧ (toM v f).1 16 ≤ v.1 16 + 1 := by
  have i16 := I.s16
  have ia := I.a12 f
  have J := MI_toA (f := f) I
  unfold toM
  split
  · exact ⟨MI_toB J (by show v.1 21 + 5 ≤ 100000000; omega), by show v.1 21 ≤ v.1 21 + 5; omega, by show v.1 21 + 5 ≤ v.1 21 + 300; omega, by show v.1 16 ≤ v.1 16 + 1; omega⟩
  · rename_i hc
    have h := mkr_I (sz := v.2 9 (v.2 12 f).toNat) ((v.1 16).toNat + 1) (toA v f) J (by show _ ≤ v.1 15; omega) (by show v.1 21 + 5 * (((v.1 16).toNat + 1 : Nat) : Int) ≤ 100000000; omega)
    obtain ⟨g1, g2, g3, g4⟩ := h
    have g2 : (mkr (v.2 9 (v.2 12 f).toNat) ((v.1 16).toNat + 1) (toA v f)).1 16 ≤ v.1 16 := g2
    have g3 : v.1 21 ≤ (mkr (v.2 9 (v.2 12 f).toNat) ((v.1 16).toNat + 1) (toA v f)).1 21 := g3
    have g4 : (mkr (v.2 9 (v.2 12 f).toNat) ((v.1 16).toNat + 1) (toA v f)).1 21 ≤ v.1 21 + 5 * (((v.1 16).toNat + 1 : Nat) : Int) := g4
    refine ⟨MI_toC g1 (by omega) (by omega) (by omega), ?_, ?_, ?_⟩
    · show v.1 21 ≤ (mkr (v.2 9 (v.2 12 f).toNat) ((v.1 16).toNat + 1) (toA v f)).1 21 + 1; omega
    · show (mkr (v.2 9 (v.2 12 f).toNat) ((v.1 16).toNat + 1) (toA v f)).1 21 + 1 ≤ _; omega
    · show (mkr (v.2 9 (v.2 12 f).toNat) ((v.1 16).toNat + 1) (toA v f)).1 16 + 1 ≤ _; omega
set_option maxHeartbeats 4000000 in
set_option maxRecDepth 100000 in
theorem c_X7_takesOut {u v : SS} {g : GH} (I : MI v) {f : Nat} {fz : Int} (hf : fz = f) (hf2 : f < 16) (hp : 0 ≤ v.2 12 f) (h16 : v.1 16 < 48) (hm : v.1 21 + 300 ≤ 100000000) : Cn yX7_takesOut (wsy yX7_takesOut cX7_takesOut 3 none) 2 0 0 nn [vR (some 0), vI fz] (mk u v g) (.inl (none, mk u (toM v f) g)) := by
  refine con_j (lv := [(0, vR (some 0)), (1, vI fz)]) (by decide) (fun ad => Nat.le_of_ble_eq_true rfl) (fun ad => rfl) rfl ?_
  intro k C hr hlv hmc hms hPo hPx htab
  subst hf
  have i16 := I.s16
  have i15 := I.s15
  have ia := I.a12 f
  have ib := I.a9 (v.2 12 f).toNat
  refine ev_s C dX7_takesOut_0 (q := 1) rfl rfl ?_
  refine mg_12 C dX7_takesOut_1 (q := 4) rfl ?_
  refine ev_s C dX7_takesOut_4 (q := 5) rfl rfl ?_
  refine ml_12 C dX7_takesOut_5 (q := 6) rfl (by omega) ?_
  show EV k 6 _ (vI (v.2 12 f) :: []) _ _ _
  refine ev_s C dX7_takesOut_6 (q := 7) rfl rfl ?_
  refine ev_s C dX7_takesOut_7 (q := 8) rfl rfl ?_
  refine mg_12 C dX7_takesOut_8 (q := 11) rfl ?_
  refine ev_s C dX7_takesOut_11 (q := 12) rfl rfl ?_
  refine ev_s C dX7_takesOut_12 (q := 13) rfl rfl ?_
  refine ms_12 C dX7_takesOut_13 (q := 14) rfl (by omega) ?_
  refine ev_s C dX7_takesOut_14 (q := 15) rfl rfl ?_
  refine mg_13 C dX7_takesOut_15 (q := 18) rfl ?_
  refine ev_s C dX7_takesOut_18 (q := 19) rfl rfl ?_
  refine ev_s C dX7_takesOut_19 (q := 20) rfl rfl ?_
  refine ms_13 C dX7_takesOut_20 (q := 21) rfl (by omega) (by omega) ?_
  refine ev_s C dX7_takesOut_21 (q := 22) rfl rfl ?_
  refine mg_9 C dX7_takesOut_22 (q := 25) rfl ?_
  refine ev_s C dX7_takesOut_25 (q := 26) rfl rfl ?_
  refine ml_9 C dX7_takesOut_26 (q := 27) rfl (by omega) ?_
  refine ev_s C dX7_takesOut_27 (q := 28) rfl rfl ?_
  refine mg_15 C dX7_takesOut_28 (q := 31) rfl ?_
  show EV k 31 _ (vI (v.1 15) :: vI (v.2 9 (v.2 12 f).toNat) :: []) _ _ _
  refine ev_icmp_le C dX7_takesOut_31 (tgt := 52) (q := 34) (by decide) rfl (by first | decide | (unfold rg; omega) | assumption | exact bAnd_rg _ _) (by first | decide | (unfold rg; omega) | assumption | exact bAnd_rg _ _) (fun b0 => ?_) (fun b0 => ?_)
  · have hc : ¬ v.1 15 < v.2 9 (v.2 12 f).toNat := by omega
    have hmk := mkr_I (sz := v.2 9 (v.2 12 f).toNat) ((v.1 16).toNat + 1) (toA v f) (MI_toA I) (by show _ ≤ v.1 15; omega) (by show v.1 21 + 5 * (((v.1 16).toNat + 1 : Nat) : Int) ≤ 100000000; omega)
    have hm6 := hmk.1.s16
    have hm7 : (mkr (v.2 9 (v.2 12 f).toNat) ((v.1 16).toNat + 1) (toA v f)).1 16 ≤ v.1 16 := hmk.2.1
    refine ev_s C dX7_takesOut_52 (q := 53) rfl rfl ?_
    refine ev_s C dX7_takesOut_53 (q := 54) rfl rfl ?_
    refine mg_9 C dX7_takesOut_54 (q := 57) rfl ?_
    refine ev_s C dX7_takesOut_57 (q := 58) rfl rfl ?_
    refine ml_9 C dX7_takesOut_58 (q := 59) rfl (by omega) ?_
    show EV k 59 _ (vI (v.2 9 (v.2 12 f).toNat) :: _) (mk u (toA v f) g) _ _
    refine ev_cV C dX7_takesOut_59 (q := 62) rfl km_X7_108 kv_X7_makesRoom kc_X7_makesRoom (c_X7_makesRoom (v := toA v f) (MI_toA I) (by show 0 ≤ v.2 9 (v.2 12 f).toNat ∧ v.2 9 (v.2 12 f).toNat ≤ v.1 15; omega) hm) rfl rfl vcX7 go_0 (by rw [hlv]; decide) (by decide) (Nat.le_of_ble_eq_true rfl) (Nat.zero_le _) (Nat.zero_le _) ?_
    refine ev_s C dX7_takesOut_62 (q := 63) rfl rfl ?_
    refine mg_10 C dX7_takesOut_63 (q := 66) rfl ?_
    refine ev_s C dX7_takesOut_66 (q := 67) rfl rfl ?_
    refine ev_s C dX7_takesOut_67 (q := 68) rfl rfl ?_
    refine ms_10 C dX7_takesOut_68 (q := 69) rfl (by omega) ?_
    refine ev_s C dX7_takesOut_69 (q := 70) rfl rfl ?_
    refine mg_17 C dX7_takesOut_70 (q := 73) rfl ?_
    refine ev_s C dX7_takesOut_73 (q := 74) rfl rfl ?_
    refine mg_16 C dX7_takesOut_74 (q := 77) rfl ?_
    refine ev_s C dX7_takesOut_77 (q := 78) rfl rfl ?_
    refine ms_17 C dX7_takesOut_78 (q := 79) rfl (by show 0 ≤ (mkr (v.2 9 (v.2 12 f).toNat) ((v.1 16).toNat + 1) (toA v f)).1 16 ∧ (mkr (v.2 9 (v.2 12 f).toNat) ((v.1 16).toNat + 1) (toA v f)).1 16 < 48; omega) ?_
    refine ev_s C dX7_takesOut_79 (q := 80) rfl rfl ?_
    refine ev_s C dX7_takesOut_80 (q := 81) rfl rfl ?_
    refine mg_16 C dX7_takesOut_81 (q := 84) rfl ?_
    refine ev_s C dX7_takesOut_84 (q := 85) rfl rfl ?_
    refine ev_s C dX7_takesOut_85 (q := 86) rfl rfl ?_
    refine mp_16 C dX7_takesOut_86 (q := 89) rfl ?_
    refine ev_s C dX7_takesOut_89 (q := 90) rfl rfl ?_
    refine ev_s C dX7_takesOut_90 (q := 91) rfl rfl ?_
    refine mg_21 C dX7_takesOut_91 (q := 94) rfl ?_
    refine ev_s C dX7_takesOut_94 (q := 95) rfl rfl ?_
    refine ev_s C dX7_takesOut_95 (q := 96) rfl rfl ?_
    refine mp_21 C dX7_takesOut_96 (q := 99) rfl ?_
    exact ev_vret C hr dX7_takesOut_99 (Nat.zero_le _) (Nat.zero_le _) (po_0 hPo (by unfold toM; first | (rw [if_pos (by omega)]; rfl) | (rw [if_neg (by omega)]; rfl)))
  · refine ev_s C dX7_takesOut_34 (q := 35) rfl rfl ?_
    refine mg_10 C dX7_takesOut_35 (q := 38) rfl ?_
    refine ev_s C dX7_takesOut_38 (q := 39) rfl rfl ?_
    refine ev_s C dX7_takesOut_39 (q := 40) rfl rfl ?_
    refine ms_10 C dX7_takesOut_40 (q := 41) rfl (by omega) ?_
    refine ev_s C dX7_takesOut_41 (q := 42) rfl rfl ?_
    refine ev_s C dX7_takesOut_42 (q := 43) rfl rfl ?_
    refine mg_21 C dX7_takesOut_43 (q := 46) rfl ?_
    refine ev_s C dX7_takesOut_46 (q := 47) rfl rfl ?_
    refine ev_s C dX7_takesOut_47 (q := 48) rfl rfl ?_
    refine mp_21 C dX7_takesOut_48 (q := 51) rfl ?_
    exact ev_vret C hr dX7_takesOut_51 (Nat.zero_le _) (Nat.zero_le _) (po_0 hPo (by unfold toM; first | (rw [if_pos (by omega)]; rfl) | (rw [if_neg (by omega)]; rfl)))
