/-! THE CLASS: shares; soundness -/
set_option maxHeartbeats 4000000 in
set_option maxRecDepth 100000 in
theorem c_X6_smoothShare_x {u v : SS} {g : GH} (I : CI u) (h : u.1 3 = 0) : Cn yX6_smoothShare (wsy yX6_smoothShare cX6_smoothShare 1 (some .float)) 1 1 6 nn [vR (some 1000)] (mk u v g) (.inr ("java/lang/ArithmeticException", mk u v g)) := by
  refine con_j (lv := [(0, vR (some 1000))]) (by decide) (fun ad => Nat.le_of_ble_eq_true rfl) (fun ad => rfl) rfl ?_
  intro k C hr hlv hmc hms hPo hPx htab
  have i3 := I.s3
  refine ev_s C dX6_smoothShare_0 (q := 1) rfl rfl ?_
  refine cg_1000_8 C dX6_smoothShare_1 kf_X6_251 (q := 4) rfl ?_
  refine ev_if_ne C dX6_smoothShare_4 (tgt := 18) (q := 7) (by decide) rfl (by first | decide | (unfold rg; omega) | assumption | exact bAnd_rg _ _) (fun b0 => ?_) (fun b0 => ?_)
  · exact absurd h b0
  · exact ev_throwW C htab kt_254_258 (text := "no touches") (by decide) dX6_smoothShare_7 dX6_smoothShare_10 dX6_smoothShare_11 dX6_smoothShare_14 dX6_smoothShare_17 (Nat.le_of_ble_eq_true rfl) (by rw [hmc]; decide) (by rw [hms]; decide) (px_1 hPx rfl rfl)
set_option maxHeartbeats 4000000 in
set_option maxRecDepth 100000 in
theorem c_X6_smoothShare {u v : SS} {g : GH} (I : CI u) (h : u.1 3 ≠ 0) : Cn yX6_smoothShare (wsy yX6_smoothShare cX6_smoothShare 1 (some .float)) 1 0 0 nn [vR (some 1000)] (mk u v g) (.inl (some (vF (fsh (u.1 4) (u.1 3))), mk u v g)) := by
  refine con_j (lv := [(0, vR (some 1000))]) (by decide) (fun ad => Nat.le_of_ble_eq_true rfl) (fun ad => rfl) rfl ?_
  intro k C hr hlv hmc hms hPo hPx htab
  have i3 := I.s3
  refine ev_s C dX6_smoothShare_0 (q := 1) rfl rfl ?_
  refine cg_1000_8 C dX6_smoothShare_1 kf_X6_251 (q := 4) rfl ?_
  refine ev_if_ne C dX6_smoothShare_4 (tgt := 18) (q := 7) (by decide) rfl (by first | decide | (unfold rg; omega) | assumption | exact bAnd_rg _ _) (fun b0 => ?_) (fun b0 => ?_)
  · refine ev_s C dX6_smoothShare_18 (q := 19) rfl rfl ?_
    refine cg_1000_9 C dX6_smoothShare_19 kf_X6_259 (q := 22) rfl ?_
    refine ev_i2f C dX6_smoothShare_22 (q := 23) rfl ?_
    refine ev_s C dX6_smoothShare_23 (q := 24) rfl rfl ?_
    refine cg_1000_8 C dX6_smoothShare_24 kf_X6_251 (q := 27) rfl ?_
    refine ev_i2f C dX6_smoothShare_27 (q := 28) rfl ?_
    refine ev_fdiv C dX6_smoothShare_28 (q := 29) rfl (nn32 (f_ok (by omega) (by omega))) ?_
    exact ev_fret C hr dX6_smoothShare_29 (Nat.zero_le _) (Nat.zero_le _) (po_1 hPo rfl rfl)
  · exact absurd b0 h
set_option maxHeartbeats 4000000 in
set_option maxRecDepth 100000 in
theorem c_X6_meanStalls_x {u v : SS} {g : GH} (I : CI u) (h : u.1 3 = 0) : Cn yX6_meanStalls (wsy yX6_meanStalls cX6_meanStalls 1 (some .double)) 1 1 6 nn [vR (some 1000)] (mk u v g) (.inr ("java/lang/ArithmeticException", mk u v g)) := by
  refine con_j (lv := [(0, vR (some 1000))]) (by decide) (fun ad => Nat.le_of_ble_eq_true rfl) (fun ad => rfl) rfl ?_
  intro k C hr hlv hmc hms hPo hPx htab
  have i3 := I.s3
  refine ev_s C dX6_meanStalls_0 (q := 1) rfl rfl ?_
  refine cg_1000_8 C dX6_meanStalls_1 kf_X6_251 (q := 4) rfl ?_
  refine ev_if_ne C dX6_meanStalls_4 (tgt := 18) (q := 7) (by decide) rfl (by first | decide | (unfold rg; omega) | assumption | exact bAnd_rg _ _) (fun b0 => ?_) (fun b0 => ?_)
  · exact absurd h b0
  · exact ev_throwW C htab kt_254_258 (text := "no touches") (by decide) dX6_meanStalls_7 dX6_meanStalls_10 dX6_meanStalls_11 dX6_meanStalls_14 dX6_meanStalls_17 (Nat.le_of_ble_eq_true rfl) (by rw [hmc]; decide) (by rw [hms]; decide) (px_1 hPx rfl rfl)
set_option maxHeartbeats 4000000 in
set_option maxRecDepth 100000 in
theorem c_X6_meanStalls {u v : SS} {g : GH} (I : CI u) (h : u.1 3 ≠ 0) : Cn yX6_meanStalls (wsy yX6_meanStalls cX6_meanStalls 1 (some .double)) 1 0 0 nn [vR (some 1000)] (mk u v g) (.inl (some (vD (dsh (u.1 5) (u.1 3))), mk u v g)) := by
  refine con_j (lv := [(0, vR (some 1000))]) (by decide) (fun ad => Nat.le_of_ble_eq_true rfl) (fun ad => rfl) rfl ?_
  intro k C hr hlv hmc hms hPo hPx htab
  have i3 := I.s3
  refine ev_s C dX6_meanStalls_0 (q := 1) rfl rfl ?_
  refine cg_1000_8 C dX6_meanStalls_1 kf_X6_251 (q := 4) rfl ?_
  refine ev_if_ne C dX6_meanStalls_4 (tgt := 18) (q := 7) (by decide) rfl (by first | decide | (unfold rg; omega) | assumption | exact bAnd_rg _ _) (fun b0 => ?_) (fun b0 => ?_)
  · refine ev_s C dX6_meanStalls_18 (q := 19) rfl rfl ?_
    refine cg_1000_10 C dX6_meanStalls_19 kf_X6_262 (q := 22) rfl ?_
    refine ev_l2d C dX6_meanStalls_22 (q := 23) rfl ?_
    refine ev_s C dX6_meanStalls_23 (q := 24) rfl rfl ?_
    refine cg_1000_8 C dX6_meanStalls_24 kf_X6_251 (q := 27) rfl ?_
    refine ev_i2d C dX6_meanStalls_27 (q := 28) rfl ?_
    refine ev_ddiv C dX6_meanStalls_28 (q := 29) rfl (nn64 (d_ok (by omega) (by omega))) ?_
    exact ev_dret C hr dX6_meanStalls_29 (Nat.zero_le _) (Nat.zero_le _) (po_1 hPo rfl rfl)
  · exact absurd b0 h
theorem tb_shr {m j : Nat} (hm : m < 2 ^ 31) (hj : j < 31) : bShr (m : Int) (j : Int) = ((m >>> j : Nat) : Int) := by
  have hs : ((iI (j : Int) &&& 31).toBitVec.smod 32).toNat = j := by
    have : ∀ j : Fin 31, ((iI (j.val : Int) &&& 31).toBitVec.smod 32).toNat = j.val := by decide +kernel
    exact this ⟨j, hj⟩
  unfold bShr
  rw [pk_shr _ _ j hs, iI_toInt (by unfold rg; omega)]
  rfl
theorem tb_and1 {m : Nat} (hm : m < 2 ^ 31) : bAnd (m : Int) 1 = ((m % 2 : Nat) : Int) := by
  unfold bAnd
  rw [pk_and (iI (m : Int)) (m := iI 1) 1 (by decide)]
  have e : (iI (m : Int)).toBitVec.toNat = m := by
    unfold iI
    rw [Int32.toBitVec_ofInt, BitVec.toNat_ofInt]
    omega
  rw [e]
  exact nI_toInt (by omega)
theorem tb_bit (m j : Nat) : (m >>> j) % 2 = if m.testBit j then 1 else 0 := by
  rw [Nat.testBit, Nat.one_and_eq_mod_two]
  have h : m >>> j % 2 = 0 ∨ m >>> j % 2 = 1 := by omega
  rcases h with h | h <;> rw [h] <;> decide
theorem shr_le (m j : Nat) : m >>> j ≤ m := by rw [Nat.shiftRight_eq_div_pow]; exact Nat.div_le_self _ _
theorem hb_tb {m j : Nat} (hm : m < 2 ^ 31) (hj : j < 31) : hb (m : Int) (j : Int) = m.testBit j := by
  have h := shr_le m j
  unfold hb
  rw [tb_shr hm hj, tb_and1 (by omega), tb_bit]
  cases m.testBit j <;> decide
theorem bOr_nat {x y : Nat} (hx : x < 2 ^ 31) (hy : y < 2 ^ 31) : bOr (x : Int) (y : Int) = ((x ||| y : Nat) : Int) := by
  have hz : x ||| y < 2 ^ 31 := Nat.or_lt_two_pow hx hy
  unfold bOr
  have ex : (iI (x : Int)).toBitVec.toNat = x := by unfold iI; rw [Int32.toBitVec_ofInt, BitVec.toNat_ofInt]; omega
  have ey : (iI (y : Int)).toBitVec.toNat = y := by unfold iI; rw [Int32.toBitVec_ofInt, BitVec.toNat_ofInt]; omega
  have e : (iI (x : Int) ||| iI (y : Int)).toBitVec.toNat = x ||| y := by rw [Int32.toBitVec_or, BitVec.toNat_or, ex, ey]
  show (iI (x : Int) ||| iI (y : Int)).toBitVec.toInt = _
  rw [BitVec.toInt_eq_toNat_of_lt (by rw [e]; omega), e]
theorem bShl_nat {j : Nat} (hj : j < 31) : bShl 1 (j : Int) = ((2 ^ j : Nat) : Int) := by
  have : ∀ j : Fin 31, bShl 1 (j.val : Int) = ((2 ^ j.val : Nat) : Int) := by decide +kernel
  exact this ⟨j, hj⟩
theorem two_lt {f : Nat} (hf : f < 16) : 2 ^ f < 2 ^ 16 := Nat.pow_lt_pow_right (by decide) hf
theorem hb_or {m f j : Nat} (hm : m < 2 ^ 16) (hf : f < 16) (hj : j < 16) : hb (bOr (m : Int) (bShl 1 (f : Int))) (j : Int) = (hb (m : Int) (j : Int) || decide (j = f)) := by
  have h2 := two_lt hf
  have h16 : (2 : Nat) ^ 16 = 65536 := by decide
  have h31 : (2 : Nat) ^ 31 = 2147483648 := by decide
  have ho : m ||| 2 ^ f < 2 ^ 16 := Nat.or_lt_two_pow hm h2
  rw [bShl_nat (by omega), bOr_nat (by omega) (by omega), hb_tb (by omega) (by omega), hb_tb (by omega) (by omega), Nat.testBit_or, Nat.testBit_two_pow]
  congr 1
  exact decide_eq_decide.mpr ⟨Eq.symm, Eq.symm⟩
