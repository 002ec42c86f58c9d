/-! FLOATS: rows; never a NaN -/
section FR
variable {k : Kx} {own : String} {cc : ByteArray} {nL : Nat} {pc q tgt : Nat} {lv lv' : List (Nat × AV)} {st st' : List AV} {G G' : GH} {ct sl : Nat}
theorem ev_i2f {x : Int} (C : CX k own cc nL) (hd : decode cc pc = .ok (.i2f, 1)) (hq : pc + 1 = q) (kk : EV k q lv (vF (FP.i2f (iI x)) :: st) G ct sl) : EV k pc lv (vI x :: st) G ct sl := by
  subst hq
  exact ev_mk (fun hO => oks_push (okv_F _) (oks_pop1 hO)) kk fun ad H locs ls hl go => lv_i2f C.1 C.2.1 hd (go ls hl)
theorem ev_i2d {x : Int} (C : CX k own cc nL) (hd : decode cc pc = .ok (.i2d, 1)) (hq : pc + 1 = q) (kk : EV k q lv (vD (FP.i2d (iI x)) :: st) G ct sl) : EV k pc lv (vI x :: st) G ct sl := by
  subst hq
  exact ev_mk (fun hO => oks_push (okv_D _) (oks_pop1 hO)) kk fun ad H locs ls hl go => lv_i2d C.1 C.2.1 hd (go ls hl)
theorem ev_l2d {x : Int} (C : CX k own cc nL) (hd : decode cc pc = .ok (.l2d, 1)) (hq : pc + 1 = q) (kk : EV k q lv (vD (FP.l2d (iL x)) :: st) G ct sl) : EV k pc lv (vL x :: st) G ct sl := by
  subst hq
  exact ev_mk (fun hO => oks_push (okv_D _) (oks_pop1 hO)) kk fun ad H locs ls hl go => lv_l2d C.1 C.2.1 hd (go ls hl)
theorem ev_fdiv {x y : UInt32} (C : CX k own cc nL) (hd : decode cc pc = .ok (.fdiv, 1)) (hq : pc + 1 = q) (hn : vf_n32 (FP.fdiv x y)) (kk : EV k q lv (vF (FP.fdiv x y) :: st) G ct sl) : EV k pc lv (vF y :: vF x :: st) G ct sl := by
  subst hq
  exact ev_mk (oks_bin (okv_F _)) kk fun ad H locs ls hl go => lv_fdiv C.1 C.2.1 hd hn (go ls hl)
theorem ev_ddiv {x y : UInt64} (C : CX k own cc nL) (hd : decode cc pc = .ok (.ddiv, 1)) (hq : pc + 1 = q) (hn : vf_n64 (FP.ddiv x y)) (kk : EV k q lv (vD (FP.ddiv x y) :: st) G ct sl) : EV k pc lv (vD y :: vD x :: st) G ct sl := by
  subst hq
  exact ev_mk (oks_bin (okv_D _)) kk fun ad H locs ls hl go => lv_ddiv C.1 C.2.1 hd hn (go ls hl)
theorem ev_f2d {x : UInt32} (C : CX k own cc nL) (hd : decode cc pc = .ok (.f2d, 1)) (hq : pc + 1 = q) (hn : vf_n64 (FP.f2d x)) (kk : EV k q lv (vD (FP.f2d x) :: st) G ct sl) : EV k pc lv (vF x :: st) G ct sl := by
  subst hq
  exact ev_mk (fun hO => oks_push (okv_D _) (oks_pop1 hO)) kk fun ad H locs ls hl go => lv_f2d C.1 C.2.1 hd hn (go ls hl)
theorem ev_dcmp {x : UInt64} {op : CmpOp} (C : CX k own cc nL) (hd : decode cc pc = .ok (.dcmp op, 1)) (hq : pc + 1 = q) (hn : FP.dcmp x x = some .eq) (kk : EV k q lv (vI 0 :: st) G ct sl) : EV k pc lv (vD x :: vD x :: st) G ct sl := by
  subst hq
  refine ev_mk (oks_bin (okv_I _)) kk fun ad H locs ls hl go => lv_dcmp C.1 C.2.1 hd ?_
  have e : Op.cmpValue (FP.dcmp x x) op = iI 0 := by rw [hn]; cases op <;> rfl
  rw [e]
  exact go ls hl
theorem ev_fst {i : Nat} {x : UInt32} (C : CX k own cc nL) (hd : decode cc pc = .ok (.fstore i, 2)) (hq : pc + 2 = q) (hi : i < nL) (kk : EV k q (lvs i false (vF x) lv) st G ct sl) : EV k pc lv (vF x :: st) G ct sl := by
  subst hq
  exact ev_mk oks_store kk fun ad H locs ls hl go => lv_fstore C.1 C.2.1 hd hl (by rw [C.2.2.1]; exact hi) rfl (fun ls' hl' => go ls' (lv_less hl' cvl_st1))
theorem ev_dst {i : Nat} {x : UInt64} (C : CX k own cc nL) (hd : decode cc pc = .ok (.dstore i, 2)) (hq : pc + 2 = q) (hi : i + 1 < nL) (kk : EV k q (lvs i true (vD x) lv) st G ct sl) : EV k pc lv (vD x :: st) G ct sl := by
  subst hq
  exact ev_mk oks_store kk fun ad H locs ls hl go => lv_dstore C.1 C.2.1 hd hl (by rw [C.2.2.1]; exact hi) rfl (fun ls' hl' => go ls' (lv_less hl' cvl_st2))
theorem ev_fld {i : Nat} {x : UInt32} (C : CX k own cc nL) (hd : decode cc pc = .ok (.fload i, 2)) (hq : pc + 2 = q) (hg : lvg i lv = some (vF x)) (kk : EV k q lv (vF x :: st) G ct sl) : EV k pc lv st G ct sl := by
  subst hq
  exact ev_mk (oks_load hg) kk fun ad H locs ls hl go => lv_fload C.1 C.2.1 hd (cvl_at hl hg) (go ls hl)
theorem ev_dld {i : Nat} {x : UInt64} (C : CX k own cc nL) (hd : decode cc pc = .ok (.dload i, 2)) (hq : pc + 2 = q) (hg : lvg i lv = some (vD x)) (kk : EV k q lv (vD x :: st) G ct sl) : EV k pc lv st G ct sl := by
  subst hq
  exact ev_mk (oks_load hg) kk fun ad H locs ls hl go => lv_dload C.1 C.2.1 hd (cvl_at hl hg) (go ls hl)
theorem ev_fc0 (C : CX k own cc nL) (hd : decode cc pc = .ok (.fconst 0, 1)) (hq : pc + 1 = q) (kk : EV k q lv (vF FP.fconst0 :: st) G ct sl) : EV k pc lv st G ct sl := by
  subst hq
  exact ev_mk (oks_push (okv_F _)) kk fun ad H locs ls hl go => lv_fconst0 C.1 C.2.1 hd (go ls hl)
theorem ev_dc0 (C : CX k own cc nL) (hd : decode cc pc = .ok (.dconst 0, 1)) (hq : pc + 1 = q) (kk : EV k q lv (vD FP.dconst0 :: st) G ct sl) : EV k pc lv st G ct sl := by
  subst hq
  exact ev_mk (oks_push (okv_D _)) kk fun ad H locs ls hl go => lv_dconst0 C.1 C.2.1 hd (go ls hl)
end FR
theorem nn32 {a : UInt32} (h : FP.fIsNaN a = false) : vf_n32 a := by
  have h1 : ¬ FP.Core.fIsNaN a = true := by rw [show FP.Core.fIsNaN a = FP.fIsNaN a from rfl, h]; decide
  rw [FP.Core.isNaN_bits32] at h1
  unfold vf_n32
  rw [UInt32.le_iff_toNat_le, UInt32.toNat_and, show (0x7fffffff : UInt32).toNat = 2 ^ 31 - 1 from rfl, Nat.and_two_pow_sub_one_eq_mod, show (0x7f800000 : UInt32).toNat = 2139095040 from rfl]
  omega
theorem nn64 {a : UInt64} (h : FP.dIsNaN a = false) : vf_n64 a := by
  have h1 : ¬ FP.Core.dIsNaN a = true := by rw [show FP.Core.dIsNaN a = FP.dIsNaN a from rfl, h]; decide
  rw [FP.Core.isNaN_bits] at h1
  unfold vf_n64
  rw [UInt64.le_iff_toNat_le, UInt64.toNat_and, show (0x7fffffffffffffff : UInt64).toNat = 2 ^ 63 - 1 from rfl, Nat.and_two_pow_sub_one_eq_mod, show (0x7ff0000000000000 : UInt64).toNat = 9218868437227405312 from rfl]
  omega
theorem iI_ne0 {y : Int} (h1 : 1 ≤ y) (h2 : y ≤ 1000000) : iI y ≠ 0 := fun e => by
  have h3 := iI_toInt (x := y) (by unfold rg; omega)
  rw [e] at h3
  have h4 : (0 : Int32).toInt = 0 := rfl
  omega
theorem f_ok {x y : Int} (h1 : 1 ≤ y) (h2 : y ≤ 1000000) : FP.fIsNaN (FP.fdiv (FP.i2f (iI x)) (FP.i2f (iI y))) = false := by
  refine FP.Core.fdiv_out (FP.Core.i2f_fin _).notNaN (FP.Core.i2f_fin _) ?_
  intro hz
  have h0 := FP.Core.i2f_ne_zero (iI_ne0 h1 h2)
  rw [FP.Core.zero_bits232] at hz
  exact h0 hz
theorem d_ok {x y : Int} (h1 : 1 ≤ y) (h2 : y ≤ 1000000) : FP.dIsNaN (FP.ddiv (FP.l2d (iL x)) (FP.i2d (iI y))) = false := by
  refine FP.Core.ddiv_out (FP.Core.l2d_fin _).notNaN (FP.Core.i2d_fin _) ?_
  intro hz
  have h0 := FP.Core.i2d_ne_zero (iI_ne0 h1 h2)
  rw [FP.Core.zero_bits2] at hz
  exact h0 hz
theorem d_self {a : UInt64} (h : FP.dIsNaN a = false) : FP.dcmp a a = some .eq := by
  refine FP.Core.dcmp_self fun e => ?_
  have : FP.Core.dIsNaN a = true := by
    show decide (FP.Core.val64 a = .nan) = true
    rw [e]; rfl
  rw [show FP.Core.dIsNaN a = FP.dIsNaN a from rfl, h] at this
  cases this
def fsh (x y : Int) : UInt32 := FP.fdiv (FP.i2f (iI x)) (FP.i2f (iI y))
def dsh (x y : Int) : UInt64 := FP.ddiv (FP.l2d (iL x)) (FP.i2d (iI y))
set_option maxHeartbeats 4000000 in
set_option maxRecDepth 100000 in
theorem c_X7_smoothShare_x {u v : SS} {g : GH} (I : MI v) (h : v.1 22 = 0) : Cn yX7_smoothShare (wsy yX7_smoothShare cX7_smoothShare 1 (some .float)) 3 0 0 nn [vR (some 0)] (mk u v g) (.inl (some (vF FP.fconst0), mk u (stS v 26 1) g)) := by
  refine con_j (lv := [(0, vR (some 0))]) (by decide) (fun ad => Nat.le_of_ble_eq_true rfl) (fun ad => rfl) rfl ?_
  intro k C hr hlv hmc hms hPo hPx htab
  have i22 := I.s22
  refine ev_s C dX7_smoothShare_0 (q := 1) rfl rfl ?_
  refine ev_s C dX7_smoothShare_1 (q := 2) rfl rfl ?_
  refine mg_22 C dX7_smoothShare_2 (q := 5) rfl ?_
  refine ev_if_ne C dX7_smoothShare_5 (tgt := 12) (q := 8) (by decide) rfl (by first | decide | (unfold rg; omega) | assumption | exact bAnd_rg _ _) (fun b0 => ?_) (fun b0 => ?_)
  · exact absurd h b0
  · refine ev_s C dX7_smoothShare_8 (q := 9) rfl rfl ?_
    refine ev_goto C dX7_smoothShare_9 (tgt := 13) (by decide) ?_
    refine ev_cV C dX7_smoothShare_13 (q := 16) rfl km_X7_79 kv_X7_fails kc_X7_fails (c_X7_fails (by first | decide | (unfold rg; omega) | assumption | exact bAnd_rg _ _)) rfl rfl vcX7 go_0 (by rw [hlv]; first | decide | omega) (by decide) (Nat.le_of_ble_eq_true rfl) (Nat.zero_le _) (Nat.zero_le _) ?_
    refine ev_ifB_eq C dX7_smoothShare_16 (tgt := 23) (q := 19) (by decide) rfl (fun b1 => ?_) (fun b1 => ?_)
    · exact absurd b1 (by decide)
    · refine ev_fc0 C dX7_smoothShare_19 (q := 20) rfl ?_
      refine ev_goto C dX7_smoothShare_20 (tgt := 34) (by decide) ?_
      exact ev_fret C hr dX7_smoothShare_34 (Nat.zero_le _) (Nat.zero_le _) (po_1 hPo (by first | rfl | simp [*]) rfl)
set_option maxHeartbeats 4000000 in
set_option maxRecDepth 100000 in
theorem c_X7_smoothShare {u v : SS} {g : GH} (I : MI v) (h : v.1 22 ≠ 0) : Cn yX7_smoothShare (wsy yX7_smoothShare cX7_smoothShare 1 (some .float)) 3 0 0 nn [vR (some 0)] (mk u v g) (.inl (some (vF (fsh (v.1 23) (v.1 22))), mk u (stS v 26 0) g)) := by
  refine con_j (lv := [(0, vR (some 0))]) (by decide) (fun ad => Nat.le_of_ble_eq_true rfl) (fun ad => rfl) rfl ?_
  intro k C hr hlv hmc hms hPo hPx htab
  have i22 := I.s22
  refine ev_s C dX7_smoothShare_0 (q := 1) rfl rfl ?_
  refine ev_s C dX7_smoothShare_1 (q := 2) rfl rfl ?_
  refine mg_22 C dX7_smoothShare_2 (q := 5) rfl ?_
  refine ev_if_ne C dX7_smoothShare_5 (tgt := 12) (q := 8) (by decide) rfl (by first | decide | (unfold rg; omega) | assumption | exact bAnd_rg _ _) (fun b0 => ?_) (fun b0 => ?_)
  · refine ev_s C dX7_smoothShare_12 (q := 13) rfl rfl ?_
    refine ev_cV C dX7_smoothShare_13 (q := 16) rfl km_X7_79 kv_X7_fails kc_X7_fails (c_X7_fails (by first | decide | (unfold rg; omega) | assumption | exact bAnd_rg _ _)) rfl rfl vcX7 go_0 (by rw [hlv]; first | decide | omega) (by decide) (Nat.le_of_ble_eq_true rfl) (Nat.zero_le _) (Nat.zero_le _) ?_
    refine ev_ifB_eq C dX7_smoothShare_16 (tgt := 23) (q := 19) (by decide) rfl (fun b1 => ?_) (fun b1 => ?_)
    · refine ev_s C dX7_smoothShare_23 (q := 24) rfl rfl ?_
      refine mg_23 C dX7_smoothShare_24 (q := 27) rfl ?_
      refine ev_i2f C dX7_smoothShare_27 (q := 28) rfl ?_
      refine ev_s C dX7_smoothShare_28 (q := 29) rfl rfl ?_
      refine mg_22 C dX7_smoothShare_29 (q := 32) rfl ?_
      refine ev_i2f C dX7_smoothShare_32 (q := 33) rfl ?_
      refine ev_fdiv C dX7_smoothShare_33 (q := 34) rfl (nn32 (f_ok (by show 1 ≤ v.1 22; omega) (by show v.1 22 ≤ 1000000; omega))) ?_
      exact ev_fret C hr dX7_smoothShare_34 (Nat.zero_le _) (Nat.zero_le _) (po_1 hPo rfl rfl)
    · exact absurd b1 (by decide)
  · exact absurd b0 h
set_option maxHeartbeats 4000000 in
set_option maxRecDepth 100000 in
theorem c_X7_meanStalls_x {u v : SS} {g : GH} (I : MI v) (h : v.1 22 = 0) : Cn yX7_meanStalls (wsy yX7_meanStalls cX7_meanStalls 1 (some .double)) 3 0 0 nn [vR (some 0)] (mk u v g) (.inl (some (vD FP.dconst0), mk u (stS v 26 1) g)) := by
  refine con_j (lv := [(0, vR (some 0))]) (by decide) (fun ad => Nat.le_of_ble_eq_true rfl) (fun ad => rfl) rfl ?_
  intro k C hr hlv hmc hms hPo hPx htab
  have i22 := I.s22
  refine ev_s C dX7_meanStalls_0 (q := 1) rfl rfl ?_
  refine ev_s C dX7_meanStalls_1 (q := 2) rfl rfl ?_
  refine mg_22 C dX7_meanStalls_2 (q := 5) rfl ?_
  refine ev_if_ne C dX7_meanStalls_5 (tgt := 12) (q := 8) (by decide) rfl (by first | decide | (unfold rg; omega) | assumption | exact bAnd_rg _ _) (fun b0 => ?_) (fun b0 => ?_)
  · exact absurd h b0
  · refine ev_s C dX7_meanStalls_8 (q := 9) rfl rfl ?_
    refine ev_goto C dX7_meanStalls_9 (tgt := 13) (by decide) ?_
    refine ev_cV C dX7_meanStalls_13 (q := 16) rfl km_X7_79 kv_X7_fails kc_X7_fails (c_X7_fails (by first | decide | (unfold rg; omega) | assumption | exact bAnd_rg _ _)) rfl rfl vcX7 go_0 (by rw [hlv]; first | decide | omega) (by decide) (Nat.le_of_ble_eq_true rfl) (Nat.zero_le _) (Nat.zero_le _) ?_
    refine ev_ifB_eq C dX7_meanStalls_16 (tgt := 23) (q := 19) (by decide) rfl (fun b1 => ?_) (fun b1 => ?_)
    · exact absurd b1 (by decide)
    · refine ev_dc0 C dX7_meanStalls_19 (q := 20) rfl ?_
      refine ev_goto C dX7_meanStalls_20 (tgt := 34) (by decide) ?_
      exact ev_dret C hr dX7_meanStalls_34 (Nat.zero_le _) (Nat.zero_le _) (po_1 hPo (by first | rfl | simp [*]) rfl)
set_option maxHeartbeats 4000000 in
set_option maxRecDepth 100000 in
theorem c_X7_meanStalls {u v : SS} {g : GH} (I : MI v) (h : v.1 22 ≠ 0) : Cn yX7_meanStalls (wsy yX7_meanStalls cX7_meanStalls 1 (some .double)) 3 0 0 nn [vR (some 0)] (mk u v g) (.inl (some (vD (dsh (v.1 24) (v.1 22))), mk u (stS v 26 0) g)) := by
  refine con_j (lv := [(0, vR (some 0))]) (by decide) (fun ad => Nat.le_of_ble_eq_true rfl) (fun ad => rfl) rfl ?_
  intro k C hr hlv hmc hms hPo hPx htab
  have i22 := I.s22
  refine ev_s C dX7_meanStalls_0 (q := 1) rfl rfl ?_
  refine ev_s C dX7_meanStalls_1 (q := 2) rfl rfl ?_
  refine mg_22 C dX7_meanStalls_2 (q := 5) rfl ?_
  refine ev_if_ne C dX7_meanStalls_5 (tgt := 12) (q := 8) (by decide) rfl (by first | decide | (unfold rg; omega) | assumption | exact bAnd_rg _ _) (fun b0 => ?_) (fun b0 => ?_)
  · refine ev_s C dX7_meanStalls_12 (q := 13) rfl rfl ?_
    refine ev_cV C dX7_meanStalls_13 (q := 16) rfl km_X7_79 kv_X7_fails kc_X7_fails (c_X7_fails (by first | decide | (unfold rg; omega) | assumption | exact bAnd_rg _ _)) rfl rfl vcX7 go_0 (by rw [hlv]; first | decide | omega) (by decide) (Nat.le_of_ble_eq_true rfl) (Nat.zero_le _) (Nat.zero_le _) ?_
    refine ev_ifB_eq C dX7_meanStalls_16 (tgt := 23) (q := 19) (by decide) rfl (fun b1 => ?_) (fun b1 => ?_)
    · refine ev_s C dX7_meanStalls_23 (q := 24) rfl rfl ?_
      refine mg_24 C dX7_meanStalls_24 (q := 27) rfl ?_
      refine ev_l2d C dX7_meanStalls_27 (q := 28) rfl ?_
      refine ev_s C dX7_meanStalls_28 (q := 29) rfl rfl ?_
      refine mg_22 C dX7_meanStalls_29 (q := 32) rfl ?_
      refine ev_i2d C dX7_meanStalls_32 (q := 33) rfl ?_
      refine ev_ddiv C dX7_meanStalls_33 (q := 34) rfl (nn64 (d_ok (by show 1 ≤ v.1 22; omega) (by show v.1 22 ≤ 1000000; omega))) ?_
      exact ev_dret C hr dX7_meanStalls_34 (Nat.zero_le _) (Nat.zero_le _) (po_1 hPo rfl rfl)
    · exact absurd b1 (by decide)
  · exact absurd b0 h
