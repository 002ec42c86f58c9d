/-! THE CLASS: a service is added -/
def pg0 : List AV := [vI 0, vR none, vI 0, vI 0, vI 0, vI 0]
def pgN (p : Nat) : List AV := [vI (p : Nat), vR (some 1001), vI 2, vI 45, vI (-1), vI 0]
theorem con_m {y : MethodName} {cc : ByteArray} {nL : Nat} {ret : Option FieldType} {lev mc ms : Nat} {nw : Nat → Prop} {av : List AV} {G : GH} {r : Rs} {lv : List (Nat × AV)} (hy : plainName y.cls = true) (hnw : ¬ nw 1013 ∧ ¬ nw 500 ∧ ¬ nw 1014) (hlen : ∀ ad, (lg_sl (av.map (cv ad))).length ≤ nL) (hlv : ∀ ad, lv_args 0 (av.map (cv ad)) = cvl ad lv) (hlo : lv.map Prod.snd = av)
    (body : ∀ k : Kx, CX k y.cls cc nL → (kmeth k).sig.returnType = ret → (kmeth k).name = y.name → kG k = G → klev k = lev → kmc k = mc → kms k = ms → knw k = nw → kPo k = PoR r → kPx k = PxR r → (∀ x ∈ (kc k).exceptionTable.toList, False) → EV k 0 lv [] G 0 0) : Cn y (wsy y cc nL ret) lev mc ms nw av G r :=
  con_i hy hnw hlen hlv (fun q hq => by rw [← hlo]; exact List.mem_map_of_mem hq) (fun k C hr hn hG h1 h2 h3 hw h4 h5 h6 => body k C hr hn hG h1 h2 h3 hw h4 h5 h6)
set_option maxHeartbeats 4000000 in
set_option maxRecDepth 100000 in
theorem c_X2_init {G : GH} {x p : Nat} (hG : G x = some (.inl (5, pg0))) : Cn yX2_init (wsy yX2_init cX2_init 3 none) 0 0 0 nn [vR (some x), vI (p : Int), vR (some 1001)] G (.inl (none, gup G x (.inl (5, pgN p)))) := by
  refine con_m (lv := [(0, vR (some x)), (1, vI (p : Int)), (2, vR (some 1001))]) (by decide) ⟨fun h => h, fun h => h, fun h => h⟩ (fun ad => Nat.le_of_ble_eq_true rfl) (fun ad => rfl) rfl ?_
  intro k C hr hin hkG hlv hmc hms hw hPo hPx htab
  refine ev_s C dX2_init_0 (q := 1) rfl rfl ?_
  refine ev_objInit C dX2_init_1 (q := 4) rfl kb_X2_3 ko_1 ko_2 rfl ?_
  refine ev_s C dX2_init_4 (q := 5) rfl rfl ?_
  refine ev_s C dX2_init_5 (q := 6) rfl rfl ?_
  refine ev_put (j := 2) C dX2_init_6 kf_X2_9 (q := 9) rfl (fit_I _) hG (Nat.le_of_ble_eq_true rfl) rfl ?_
  refine ev_s C dX2_init_9 (q := 10) rfl rfl ?_
  refine ev_s C dX2_init_10 (q := 12) rfl rfl ?_
  refine ev_put (j := 3) C dX2_init_12 kf_X2_15 (q := 15) rfl (fit_C (by decide)) gup_self (Nat.le_of_ble_eq_true rfl) gup_gup ?_
  refine ev_s C dX2_init_15 (q := 16) rfl rfl ?_
  refine ev_s C dX2_init_16 (q := 17) rfl rfl ?_
  refine ev_put (j := 4) C dX2_init_17 kf_X2_19 (q := 20) rfl (fit_I _) gup_self (Nat.le_of_ble_eq_true rfl) gup_gup ?_
  refine ev_s C dX2_init_20 (q := 21) rfl rfl ?_
  refine ev_s C dX2_init_21 (q := 22) rfl rfl ?_
  refine ev_putF (j := 0) C hin dX2_init_22 kf_X2_22 (q := 25) rfl (fit_I _) gup_self (Nat.le_of_ble_eq_true rfl) gup_gup ?_
  refine ev_s C dX2_init_25 (q := 26) rfl rfl ?_
  refine ev_s C dX2_init_26 (q := 27) rfl rfl ?_
  refine ev_putF (j := 1) C hin dX2_init_27 kf_X2_25 (q := 30) rfl (fit_O _ _) gup_self (Nat.le_of_ble_eq_true rfl) gup_gup ?_
  exact ev_vret C hr dX2_init_30 (Nat.zero_le _) (Nat.zero_le _) (po_0 hPo rfl)
def sv0 : List AV := [vI 0, vI 0, vI 0, vI 0, vR none, vI 0, vI 0, vI 0, vI 0, vL 0]
def svN (n : Nat) (w c d : Int) : List AV := [vI (n : Nat), vI w, vI c, vI d, vR (some (2100 + n)), vI 0, vI 0, vI 0, vI 0, vL 0]
def arN (n i : Nat) : AC := .inr (5, 8, fun j => if j < i then vR (some (3000 + (8 * n + j))) else vR none)
def asG (G : GH) (n : Nat) (fs : List AV) (a : Option AC) (i : Nat) : GH := fun m => if m = 2000 + n then some (.inl (7, fs)) else if m = 2100 + n then a else if 3000 + 8 * n ≤ m ∧ m < 3000 + 8 * n + i then some (.inl (5, pgN (m - 3000))) else G m
theorem asG_s {G : GH} {n i : Nat} {fs : List AV} {a : Option AC} : asG G n fs a i (2000 + n) = some (.inl (7, fs)) := if_pos rfl
theorem asG_a {G : GH} {n i : Nat} {fs : List AV} {a : Option AC} : asG G n fs a i (2100 + n) = a := by unfold asG; rw [if_neg (by omega), if_pos rfl]
theorem asG_p {G : GH} {n i j : Nat} {fs : List AV} {a : Option AC} (hn : n < 100) (h : j < i) : asG G n fs a i (3000 + (8 * n + j)) = some (.inl (5, pgN (8 * n + j))) := by
  unfold asG
  rw [if_neg (by omega), if_neg (by omega), if_pos (by omega), show 3000 + (8 * n + j) - 3000 = 8 * n + j by omega]
theorem asG_o {G : GH} {n i m : Nat} {fs : List AV} {a : Option AC} (h1 : m ≠ 2000 + n) (h2 : m ≠ 2100 + n) (h3 : ¬ (3000 + 8 * n ≤ m ∧ m < 3000 + 8 * n + i)) : asG G n fs a i m = G m := by
  unfold asG
  rw [if_neg h1, if_neg h2, if_neg h3]
theorem asG_0 {G : GH} {n : Nat} (h1 : G (2000 + n) = some (.inl (7, sv0))) (h2 : G (2100 + n) = none) : asG G n sv0 none 0 = G := by
  funext m
  unfold asG
  by_cases e1 : m = 2000 + n
  · rw [if_pos e1, e1, h1]
  · rw [if_neg e1]
    by_cases e2 : m = 2100 + n
    · rw [if_pos e2, e2, h2]
    · rw [if_neg e2, if_neg (by omega)]
theorem asG_fs {G : GH} {n i : Nat} {fs fs' : List AV} {a : Option AC} : gup (asG G n fs a i) (2000 + n) (.inl (7, fs')) = asG G n fs' a i := by
  funext m
  by_cases e : m = 2000 + n
  · subst e; rw [gup_self, asG_s]
  · rw [gup_ne e]; unfold asG; rw [if_neg e, if_neg e]
theorem asG_ar {G : GH} {n i : Nat} {fs : List AV} {a : Option AC} {c : AC} : gup (asG G n fs a i) (2100 + n) c = asG G n fs (some c) i := by
  funext m
  by_cases e : m = 2100 + n
  · subst e; rw [gup_self, asG_a]
  · rw [gup_ne e]; unfold asG; rw [if_neg e, if_neg e]
theorem asG_pg {G : GH} {n i : Nat} {fs : List AV} {a : Option AC} (hn : n < 100) : gup (asG G n fs a i) (3000 + (8 * n + i)) (.inl (5, pgN (8 * n + i))) = asG G n fs a (i + 1) := by
  funext m
  by_cases e : m = 3000 + (8 * n + i)
  · subst e; rw [gup_self, asG_p hn (Nat.lt_succ_self i)]
  · rw [gup_ne e]
    unfold asG
    by_cases e1 : m = 2000 + n
    · rw [if_pos e1, if_pos e1]
    · rw [if_neg e1, if_neg e1]
      by_cases e2 : m = 2100 + n
      · rw [if_pos e2, if_pos e2]
      · rw [if_neg e2, if_neg e2]
        by_cases e3 : 3000 + 8 * n ≤ m ∧ m < 3000 + 8 * n + i
        · rw [if_pos e3, if_pos (by omega)]
        · rw [if_neg e3, if_neg (by omega)]
theorem arN_s {n i : Nat} : vset (fun j => if j < i then vR (some (3000 + (8 * n + j))) else vR none) i (vR (some (3000 + (8 * n + i)))) = fun j => if j < i + 1 then vR (some (3000 + (8 * n + j))) else vR none := by
  funext j
  unfold vset
  by_cases e : j = i
  · subst e; rw [if_pos rfl, if_pos (Nat.lt_succ_self j)]
  · rw [if_neg e]
    show (if j < i then vR (some (3000 + (8 * n + j))) else vR none) = _
    by_cases h : j < i
    · rw [if_pos h, if_pos (by omega)]
    · rw [if_neg h, if_neg (by omega)]
theorem nvA_nn : ∀ lv : List (Nat × AV), nvA nn lv
  | [] => trivial
  | _ :: r => ⟨fun _ _ h => h, nvA_nn r⟩
theorem nvB_nn : ∀ st : List AV, nvB nn st
  | [] => trivial
  | _ :: r => ⟨fun _ _ h => h, nvB_nn r⟩
def nwS (n : Nat) : Nat → Prop := fun m => m = 2100 + n ∨ (3000 + 8 * n ≤ m ∧ m < 3000 + 8 * n + 8)
set_option maxHeartbeats 4000000 in
set_option maxRecDepth 100000 in
theorem l_X4_init {k : Kx} (C : CX k RX4 cX4_init 7) (hlv : klev k = 1) {G : GH} {n : Nat} {w c d : Int} (hn6 : n < 6) (hp0 : ∀ i, i < 8 → G (3000 + (8 * n + i)) = none) (hmc : kmc k = 9) (hms : kms k = 56) (hw : knw k = nwS n) (hr : (kmeth k).sig.returnType = none) (hPo : kPo k = PoR (.inl (none, asG G n (svN n w c d) (some (arN n 8)) 8))) : ∀ (m i : Nat), i ≤ 8 → 8 < i + m → EV k 37 [(0, vR (some (2000 + n))), (1, vI (n : Int)), (2, vI w), (3, vI c), (4, vI d), (5, vR (some 1001)), (6, vI (i : Int))] [] (asG G n (svN n w c d) (some (arN n i)) i) (1 + i) (8 + 6 * i) := by
  intro m
  induction m with
  | zero =>
    intros
    exfalso
    omega
  | succ m ih =>
    intro i h1 h2
    refine ev_s C dX4_init_37 (q := 39) rfl rfl ?_
    refine ev_s C dX4_init_39 (q := 40) rfl rfl ?_
    refine ev_get C dX4_init_40 kf_X4_11 (q := 43) rfl asG_s rfl ?_
    refine ev_alen C dX4_init_43 (q := 44) rfl (len := 8) asG_a ?_
    refine ev_icmp_ge C dX4_init_44 (tgt := 76) (q := 47) (by decide) rfl (by first | decide | (unfold rg; omega) | assumption | exact bAnd_rg _ _) (by first | decide | (unfold rg; omega) | assumption | exact bAnd_rg _ _) (fun b0 => ?_) (fun b0 => ?_)
    · exact ev_vret C hr dX4_init_76 (by rw [hmc]; omega) (by rw [hms]; omega) (po_0 hPo (by (obtain rfl : i = 8 := (by omega)); rfl))
    · refine ev_s C dX4_init_47 (q := 48) rfl rfl ?_
      refine ev_get C dX4_init_48 kf_X4_11 (q := 51) rfl asG_s rfl ?_
      refine ev_s C dX4_init_51 (q := 53) rfl rfl ?_
      refine ev_new (n := 3000 + (8 * n + i)) C dX4_init_53 kn_X4_9 (q := 56) rfl (by rw [asG_o (by omega) (by omega) (by omega)]; exact hp0 i (by omega)) (by unfold fgn; omega) (by rw [hw]; exact Or.inr (by omega)) (by rw [hmc]; omega) (by rw [hms]; omega) rfl ?_
      refine ev_s C dX4_init_56 (q := 57) rfl rfl ?_
      refine ev_s C dX4_init_57 (q := 59) rfl rfl ?_
      refine ev_s C dX4_init_59 (q := 60) rfl rfl ?_
      refine ev_s C dX4_init_60 (q := 61) rfl rfl ?_
      refine ev_s C dX4_init_61 (q := 63) rfl rfl ?_
      refine ev_s C dX4_init_63 (q := 64) rfl rfl ?_
      refine ev_s C dX4_init_64 (q := 66) rfl rfl ?_
      refine ev_eqS (st := [vR (some 1001), vI ((8 * n + i : Nat) : Int), vR (some (3000 + (8 * n + i))), vR (some (3000 + (8 * n + i))), vI (i : Int), vR (some (2100 + n))]) (by rw [show ((8 * n + i : Nat) : Int) = 8 * (n : Int) + (i : Int) by omega]) ?_
      refine ev_cIn C dX4_init_66 (q := 69) rfl km_X4_31 ki_X2_init kc_X2_init (c_X2_init (p := 8 * n + i) gup_self) rfl rfl (by rw [hlv]; decide) (by decide) (Nat.le_of_ble_eq_true rfl) (by rw [hmc]; omega) (by rw [hms]; omega) (fun _ h => h.elim) (nvA_nn _) (nvB_nn _) ?_
      refine ev_eq (G := asG G n (svN n w c d) (some (arN n i)) (i + 1)) (by rw [gup_gup]; exact asG_pg (by omega)) ?_
      refine ev_aast C dX4_init_69 (q := 70) rfl (Or.inl rfl) vcX2 (Or.inl rfl) (len := 8) asG_a (asG_p (by omega) (Nat.lt_succ_self i)) (by unfold rg; omega) (by omega) (by omega) (G' := asG G n (svN n w c d) (some (arN n (i + 1))) (i + 1)) (by rw [Int.toNat_natCast, arN_s]; exact asG_ar) ?_
      refine ev_s C dX4_init_70 (q := 73) rfl rfl ?_
      refine ev_goto C dX4_init_73 (tgt := 37) (by decide) ?_
      exact ih (i + 1) (by omega) (by omega)
set_option maxHeartbeats 4000000 in
set_option maxRecDepth 100000 in
theorem c_X4_init {G : GH} {n : Nat} {w c d : Int} (hn6 : n < 6) (hp0 : ∀ i, i < 8 → G (3000 + (8 * n + i)) = none) (hc : 0 ≤ c ∧ c < 65536) (hS : G (2000 + n) = some (.inl (7, sv0))) (hA : G (2100 + n) = none) : Cn yX4_init (wsy yX4_init cX4_init 7 none) 1 9 56 (nwS n) [vR (some (2000 + n)), vI (n : Int), vI w, vI c, vI d, vR (some 1001)] G (.inl (none, asG G n (svN n w c d) (some (arN n 8)) 8)) := by
  refine con_m (lv := [(0, vR (some (2000 + n))), (1, vI (n : Int)), (2, vI w), (3, vI c), (4, vI d), (5, vR (some 1001))]) (by decide) (by unfold nwS; omega) (fun ad => Nat.le_of_ble_eq_true rfl) (fun ad => rfl) rfl ?_
  intro k C hr hin hkG hlv hmc hms hw hPo hPx htab
  refine ev_s C dX4_init_0 (q := 1) rfl rfl ?_
  refine ev_objInit C dX4_init_1 (q := 4) rfl kb_X4_3 ko_1 ko_2 rfl ?_
  refine ev_eq (G := asG G n sv0 none 0) (asG_0 hS hA).symm ?_
  refine ev_s C dX4_init_4 (q := 5) rfl rfl ?_
  refine ev_s C dX4_init_5 (q := 7) rfl rfl ?_
  refine ev_anewa (t := 5) (N := 8) (n := 2100 + n) C dX4_init_7 (q := 10) rfl (Or.inl rfl) rfl kl_X4_9 rfl (by decide) asG_a (by unfold fgn; omega) (by rw [hw]; exact Or.inl rfl) (by rw [hmc]; omega) (by rw [hms]; omega) rfl ?_
  refine ev_eq (G := asG G n sv0 (some (arN n 0)) 0) asG_ar ?_
  refine ev_putF (j := 4) C hin dX4_init_10 kf_X4_11 (q := 13) rfl (fit_A _ _) asG_s (Nat.le_of_ble_eq_true rfl) asG_fs ?_
  refine ev_s C dX4_init_13 (q := 14) rfl rfl ?_
  refine ev_s C dX4_init_14 (q := 15) rfl rfl ?_
  refine ev_putF (j := 0) C hin dX4_init_15 kf_X4_17 (q := 18) rfl (fit_I _) asG_s (Nat.le_of_ble_eq_true rfl) asG_fs ?_
  refine ev_s C dX4_init_18 (q := 19) rfl rfl ?_
  refine ev_s C dX4_init_19 (q := 20) rfl rfl ?_
  refine ev_putF (j := 1) C hin dX4_init_20 kf_X4_21 (q := 23) rfl (fit_I _) asG_s (Nat.le_of_ble_eq_true rfl) asG_fs ?_
  refine ev_s C dX4_init_23 (q := 24) rfl rfl ?_
  refine ev_s C dX4_init_24 (q := 25) rfl rfl ?_
  refine ev_putF (j := 2) C hin dX4_init_25 kf_X4_24 (q := 28) rfl (fit_C hc) asG_s (Nat.le_of_ble_eq_true rfl) asG_fs ?_
  refine ev_s C dX4_init_28 (q := 29) rfl rfl ?_
  refine ev_s C dX4_init_29 (q := 31) rfl rfl ?_
  refine ev_putF (j := 3) C hin dX4_init_31 kf_X4_28 (q := 34) rfl (fit_I _) asG_s (Nat.le_of_ble_eq_true rfl) asG_fs ?_
  refine ev_s C dX4_init_34 (q := 35) rfl rfl ?_
  refine ev_s C dX4_init_35 (q := 37) rfl rfl ?_
  refine ev_eq (G := asG G n (svN n w c d) (some (arN n 0)) 0) rfl ?_
  exact l_X4_init C hlv hn6 hp0 hmc hms hw hr hPo 9 0 (by decide) (by decide)
def ls_ (m : Int) (d : Nat) (s : Int) : AC := .inl (2, [vI m, vR (some d), vI s])
def nw12 : Nat → Prop := fun m => m = 1012
set_option maxHeartbeats 4000000 in
set_option maxRecDepth 100000 in
theorem c_growS {G : GH} {m : Int} (hL : G 1011 = some (ls_ m 1013 0)) (hD : G 1012 = none) : Cn yJx4a65c_grow_92f84 (wsy yJx4a65c_grow_92f84 cJx4a65c_grow_92f84 4 (some (.array (.object "java/lang/Object")))) 3 1 10 nw12 [vR (some 1011), vI 1] G (.inl (some (vR (some 1012)), gup (gup G 1012 (.inr (6, 10, nulF))) 1011 (ls_ m 1012 0))) := by
  refine con_m (lv := [(0, vR (some 1011)), (1, vI 1)]) (by decide) (by unfold nw12; decide) (fun ad => Nat.le_of_ble_eq_true rfl) (fun ad => rfl) rfl ?_
  intro k C hr hin hkG hlv hmc hms hw hPo hPx htab
  refine ev_s C dJx4a65c_grow_92f84_0 (q := 1) rfl rfl ?_
  refine ev_get C dJx4a65c_grow_92f84_1 kf_Jx4a65c_9 (q := 4) rfl hL rfl ?_
  refine ev_alen0 C dJx4a65c_grow_92f84_4 (q := 5) rfl ?_
  refine ev_s C dJx4a65c_grow_92f84_5 (q := 6) rfl rfl ?_
  refine ev_s C dJx4a65c_grow_92f84_6 (q := 7) rfl rfl ?_
  refine ev_if_gt C dJx4a65c_grow_92f84_7 (tgt := 20) (q := 10) (by decide) rfl (by unfold rg; decide) (fun b0 => ?_) (fun b0 => ?_)
  · exact absurd b0 (by decide)
  · refine ev_s C dJx4a65c_grow_92f84_10 (q := 11) rfl rfl ?_
    refine ev_get C dJx4a65c_grow_92f84_11 kf_Jx4a65c_9 (q := 14) rfl hL rfl ?_
    refine ev_getS C dJx4a65c_grow_92f84_14 (q := 17) rfl (q9 94 (by decide +kernel) (by decide +kernel)) ?_
    refine ev_acmp_eq C dJx4a65c_grow_92f84_17 (tgt := 45) (q := 20) (by decide) rfl (fun n h => by cases h; decide) (fun n h => by cases h; decide) (fun _ => ?_) (fun h => absurd rfl h)
    refine ev_s C dJx4a65c_grow_92f84_45 (q := 46) rfl rfl ?_
    refine ev_s C dJx4a65c_grow_92f84_46 (q := 48) rfl rfl ?_
    refine ev_s C dJx4a65c_grow_92f84_48 (q := 49) rfl rfl ?_
    refine ev_mmax C dJx4a65c_grow_92f84_49 (q := 52) rfl km_Jx4a65c_79 (by unfold rg; decide) (by unfold rg; decide) (Nat.le_of_ble_eq_true rfl) (by first | exact Nat.zero_le _ | (rw [hmc]; decide) | (rw [hmc]; omega)) (by first | exact Nat.zero_le _ | (rw [hms]; decide) | (rw [hms]; omega)) ?_
    rw [show (if (10 : Int) < 1 then (1 : Int) else 10) = ((10 : Nat) : Int) by decide]
    refine ev_anewa (t := 6) (N := 10) (n := 1012) C dJx4a65c_grow_92f84_52 (q := 55) rfl (Or.inr rfl) rfl kl_Jx4a65c_7 rfl (by decide) hD (by unfold fgn; decide) (by rw [hw]; rfl) (by rw [hmc]; decide) (by rw [hms]; decide) rfl ?_
    refine ev_s C dJx4a65c_grow_92f84_55 (q := 56) rfl rfl ?_
    refine ev_put (j := 1) C dJx4a65c_grow_92f84_56 kf_Jx4a65c_9 (q := 59) rfl (fit_A _ _) (by rw [gup_ne (by decide)]; exact hL) (Nat.le_of_ble_eq_true rfl) rfl ?_
    exact ev_aret C hr (Or.inr ⟨_, rfl⟩) dJx4a65c_grow_92f84_59 (by rw [hmc]; decide) (by rw [hms]; omega) (po_1 hPo rfl rfl)
set_option maxHeartbeats 4000000 in
set_option maxRecDepth 100000 in
theorem c_growSI {G : GH} {m : Int} (hL : G 1011 = some (ls_ m 1013 0)) (hD : G 1012 = none) : Cn yJx4a65c_grow_d5877 (wsy yJx4a65c_grow_d5877 cJx4a65c_grow_d5877 1 (some (.array (.object "java/lang/Object")))) 4 1 10 nw12 [vR (some 1011)] G (.inl (some (vR (some 1012)), gup (gup G 1012 (.inr (6, 10, nulF))) 1011 (ls_ m 1012 0))) := by
  refine con_m (lv := [(0, vR (some 1011))]) (by decide) (by unfold nw12; decide) (fun ad => Nat.le_of_ble_eq_true rfl) (fun ad => rfl) rfl ?_
  intro k C hr hin hkG hlv hmc hms hw hPo hPx htab
  refine ev_s C dJx4a65c_grow_d5877_0 (q := 1) rfl rfl ?_
  refine ev_s C dJx4a65c_grow_d5877_1 (q := 2) rfl rfl ?_
  refine ev_get C dJx4a65c_grow_d5877_2 kf_Jx4a65c_48 (q := 5) rfl hL rfl ?_
  refine ev_s C dJx4a65c_grow_d5877_5 (q := 6) rfl rfl ?_
  refine ev_s C dJx4a65c_grow_d5877_6 (q := 7) rfl rfl ?_
  refine ev_eqS (st := [vI 1, vR (some 1011)]) rfl ?_
  refine ev_cVn C dJx4a65c_grow_d5877_7 (q := 10) rfl km_Jx4a65c_69 kv_Jx4a65c_grow_92f84 kc_Jx4a65c_grow_92f84 (c_growS hL hD) rfl rfl vcJx4a65c hL (by rw [hlv]; decide) (by decide) (Nat.le_of_ble_eq_true rfl) (by rw [hmc]; decide) (by rw [hms]; decide) (by rw [hw]; exact fun _ h => h) (by repeat' (first | exact nvA_0 | exact nvB_0 | apply nvA_c | apply nvB_c | exact nv_I | exact nv_L | exact nv_N | exact nv_R (by unfold nw12; omega) | exact nv_I' | exact nv_L' | exact nv_N' | exact nv_R' (by unfold nw12; omega))) (by repeat' (first | exact nvA_0 | exact nvB_0 | apply nvA_c | apply nvB_c | exact nv_I | exact nv_L | exact nv_N | exact nv_R (by unfold nw12; omega) | exact nv_I' | exact nv_L' | exact nv_N' | exact nv_R' (by unfold nw12; omega))) ?_
  exact ev_aret C hr (Or.inr ⟨_, rfl⟩) dJx4a65c_grow_d5877_10 (by rw [hmc]; decide) (by rw [hms]; omega) (po_1 hPo rfl rfl)
set_option maxHeartbeats 4000000 in
set_option maxRecDepth 100000 in
theorem c_addS3a {G : GH} {m s : Int} {x cap : Nat} {f : Nat → AV} {fs : List AV} (hL : G 1011 = some (ls_ m 1012 s)) (hD : G 1012 = some (.inr (6, cap, f))) (hX : G x = some (.inl (7, fs))) (hs : 0 ≤ s ∧ s < cap) (hc : cap ≤ 10) : Cn yJx4a65c_add_72be8 (wsy yJx4a65c_add_72be8 cJx4a65c_add_72be8 4 none) 5 1 10 nw12 [vR (some 1011), vR (some x), vR (some 1012), vI s] G (.inl (none, gup (gup G 1012 (.inr (6, cap, vset f s.toNat (vR (some x))))) 1011 (ls_ m 1012 (s + 1)))) := by
  refine con_m (lv := [(0, vR (some 1011)), (1, vR (some x)), (2, vR (some 1012)), (3, vI s)]) (by decide) (by unfold nw12; decide) (fun ad => Nat.le_of_ble_eq_true rfl) (fun ad => rfl) rfl ?_
  intro k C hr hin hkG hlv hmc hms hw hPo hPx htab
  refine ev_s C dJx4a65c_add_72be8_0 (q := 1) rfl rfl ?_
  refine ev_s C dJx4a65c_add_72be8_1 (q := 2) rfl rfl ?_
  refine ev_alen C dJx4a65c_add_72be8_2 (q := 3) rfl hD ?_
  refine ev_icmp_ne C dJx4a65c_add_72be8_3 (tgt := 11) (q := 6) (by decide) rfl (by first | decide | (unfold rg; omega)) (by first | decide | (unfold rg; omega)) (fun b0 => ?_) (fun b0 => ?_)
  · refine ev_s C dJx4a65c_add_72be8_11 (q := 12) rfl rfl ?_
    refine ev_s C dJx4a65c_add_72be8_12 (q := 13) rfl rfl ?_
    refine ev_s C dJx4a65c_add_72be8_13 (q := 14) rfl rfl ?_
    refine ev_aast (n := 1012) (t := 6) (len := cap) (f := f) C dJx4a65c_add_72be8_14 (q := 15) rfl (Or.inr rfl) vcX4 (Or.inr ⟨_, rfl, by decide⟩) hD hX (by unfold rg; omega) (by omega) (by omega) rfl ?_
    refine ev_s C dJx4a65c_add_72be8_15 (q := 16) rfl rfl ?_
    refine ev_s C dJx4a65c_add_72be8_16 (q := 17) rfl rfl ?_
    refine ev_s C dJx4a65c_add_72be8_17 (q := 18) rfl rfl ?_
    refine ev_s C dJx4a65c_add_72be8_18 (q := 19) rfl rfl ?_
    refine ev_put (j := 2) C dJx4a65c_add_72be8_19 kf_Jx4a65c_48 (q := 22) rfl (fit_I _) (by rw [gup_ne (by decide)]; exact hL) (Nat.le_of_ble_eq_true rfl) rfl ?_
    exact ev_vret C hr dJx4a65c_add_72be8_22 (by rw [hmc]; decide) (by rw [hms]; omega) (po_0 hPo rfl)
  · exfalso; omega
set_option maxHeartbeats 4000000 in
set_option maxRecDepth 100000 in
theorem c_addS3b {G : GH} {m : Int} {x : Nat} {fs : List AV} (hL : G 1011 = some (ls_ m 1013 0)) (hD : G 1012 = none) (hX : G x = some (.inl (7, fs))) (hx : x ≠ 1011 ∧ x ≠ 1012) {s : Int} (hs : s = 0) : Cn yJx4a65c_add_72be8 (wsy yJx4a65c_add_72be8 cJx4a65c_add_72be8 4 none) 5 1 10 nw12 [vR (some 1011), vR (some x), vR (some 1013), vI s] G (.inl (none, gup (gup G 1012 (.inr (6, 10, vset nulF 0 (vR (some x))))) 1011 (ls_ m 1012 1))) := by
  refine con_m (lv := [(0, vR (some 1011)), (1, vR (some x)), (2, vR (some 1013)), (3, vI s)]) (by decide) (by unfold nw12; decide) (fun ad => Nat.le_of_ble_eq_true rfl) (fun ad => rfl) rfl ?_
  intro k C hr hin hkG hlv hmc hms hw hPo hPx htab
  subst hs
  refine ev_s C dJx4a65c_add_72be8_0 (q := 1) rfl rfl ?_
  refine ev_s C dJx4a65c_add_72be8_1 (q := 2) rfl rfl ?_
  refine ev_alen0 C dJx4a65c_add_72be8_2 (q := 3) rfl ?_
  refine ev_icmp_ne C dJx4a65c_add_72be8_3 (tgt := 11) (q := 6) (by decide) rfl (by first | decide | (unfold rg; omega)) (by first | decide | (unfold rg; omega)) (fun b0 => ?_) (fun b0 => ?_)
  · exfalso; omega
  · refine ev_s C dJx4a65c_add_72be8_6 (q := 7) rfl rfl ?_
    refine ev_keep [0, 1, 3] rfl ?_
    refine ev_cVn C dJx4a65c_add_72be8_7 (q := 10) rfl km_Jx4a65c_129 kv_Jx4a65c_grow_d5877 kc_Jx4a65c_grow_d5877 (c_growSI hL hD) rfl rfl vcJx4a65c hL (by rw [hlv]; decide) (by decide) (Nat.le_of_ble_eq_true rfl) (by rw [hmc]; decide) (by rw [hms]; decide) (by rw [hw]; exact fun _ h => h) (nvA_c (nv_R (by unfold nw12; decide)) (nvA_c (nv_R hx.2) (nvA_c nv_I nvA_0))) nvB_0 ?_
    refine ev_s C dJx4a65c_add_72be8_10 (q := 11) rfl rfl ?_
    refine ev_s C dJx4a65c_add_72be8_11 (q := 12) rfl rfl ?_
    refine ev_s C dJx4a65c_add_72be8_12 (q := 13) rfl rfl ?_
    refine ev_s C dJx4a65c_add_72be8_13 (q := 14) rfl rfl ?_
    refine ev_aast (n := 1012) (t := 6) (len := 10) (f := nulF) C dJx4a65c_add_72be8_14 (q := 15) rfl (Or.inr rfl) vcX4 (Or.inr ⟨_, rfl, by decide⟩) (by rw [gup_ne (by decide), gup_self]) (by rw [gup_ne hx.1, gup_ne hx.2]; exact hX) (by unfold rg; omega) (by omega) (by omega) rfl ?_
    refine ev_s C dJx4a65c_add_72be8_15 (q := 16) rfl rfl ?_
    refine ev_s C dJx4a65c_add_72be8_16 (q := 17) rfl rfl ?_
    refine ev_s C dJx4a65c_add_72be8_17 (q := 18) rfl rfl ?_
    refine ev_s C dJx4a65c_add_72be8_18 (q := 19) rfl rfl ?_
    refine ev_put (j := 2) C dJx4a65c_add_72be8_19 kf_Jx4a65c_48 (q := 22) rfl (fit_I _) (by rw [gup_ne (by decide), gup_self]; rfl) (Nat.le_of_ble_eq_true rfl) rfl ?_
    exact ev_vret C hr dJx4a65c_add_72be8_22 (by rw [hmc]; decide) (by rw [hms]; omega) (po_0 hPo (by funext n; unfold gup; by_cases e1 : n = 1011 <;> by_cases e2 : n = 1012 <;> simp [e1, e2, ls_]))
set_option maxHeartbeats 4000000 in
set_option maxRecDepth 100000 in
theorem c_addSa {G : GH} {m s : Int} {x cap : Nat} {f : Nat → AV} {fs : List AV} (hL : G 1011 = some (ls_ m 1012 s)) (hD : G 1012 = some (.inr (6, cap, f))) (hX : G x = some (.inl (7, fs))) (hs : 0 ≤ s ∧ s < cap) (hc : cap ≤ 10) (hx : x ≠ 1011 ∧ x ≠ 1012) : Cn yJx4a65c_add_9ea2d (wsy yJx4a65c_add_9ea2d cJx4a65c_add_9ea2d 2 (some .boolean)) 6 1 10 nw12 [vR (some 1011), vR (some x)] G (.inl (some (vI 1), gup (gup G 1012 (.inr (6, cap, vset f s.toNat (vR (some x))))) 1011 (ls_ (m + 1) 1012 (s + 1)))) := by
  refine con_m (lv := [(0, vR (some 1011)), (1, vR (some x))]) (by decide) (by unfold nw12; decide) (fun ad => Nat.le_of_ble_eq_true rfl) (fun ad => rfl) rfl ?_
  intro k C hr hin hkG hlv hmc hms hw hPo hPx htab
  refine ev_s C dJx4a65c_add_9ea2d_0 (q := 1) rfl rfl ?_
  refine ev_s C dJx4a65c_add_9ea2d_1 (q := 2) rfl rfl ?_
  refine ev_get C dJx4a65c_add_9ea2d_2 kf_Jx4a65c_63 (q := 5) rfl hL rfl ?_
  refine ev_s C dJx4a65c_add_9ea2d_5 (q := 6) rfl rfl ?_
  refine ev_s C dJx4a65c_add_9ea2d_6 (q := 7) rfl rfl ?_
  refine ev_put (j := 0) C dJx4a65c_add_9ea2d_7 kf_Jx4a65c_63 (q := 10) rfl (fit_I _) hL (Nat.le_of_ble_eq_true rfl) (G' := gup G 1011 (ls_ (m + 1) 1012 s)) rfl ?_
  have hL1 : gup G 1011 (ls_ (m + 1) 1012 s) 1011 = some (ls_ (m + 1) 1012 s) := gup_self
  refine ev_s C dJx4a65c_add_9ea2d_10 (q := 11) rfl rfl ?_
  refine ev_s C dJx4a65c_add_9ea2d_11 (q := 12) rfl rfl ?_
  refine ev_s C dJx4a65c_add_9ea2d_12 (q := 13) rfl rfl ?_
  refine ev_get C dJx4a65c_add_9ea2d_13 kf_Jx4a65c_9 (q := 16) rfl hL1 rfl ?_
  refine ev_s C dJx4a65c_add_9ea2d_16 (q := 17) rfl rfl ?_
  refine ev_get C dJx4a65c_add_9ea2d_17 kf_Jx4a65c_48 (q := 20) rfl hL1 rfl ?_
  refine ev_cVn C dJx4a65c_add_9ea2d_20 (q := 23) rfl km_Jx4a65c_131 kv_Jx4a65c_add_72be8 kc_Jx4a65c_add_72be8 (c_addS3a (x := x) hL1 (by rw [gup_ne (by decide)]; exact hD) (by rw [gup_ne hx.1]; exact hX) hs hc) rfl rfl vcJx4a65c hL1 (by rw [hlv]; decide) (by decide) (Nat.le_of_ble_eq_true rfl) (by rw [hmc]; decide) (by rw [hms]; decide) (by rw [hw]; exact fun _ h => h) (nvA_c (nv_R (by unfold nw12; decide)) (nvA_c (nv_R hx.2) nvA_0)) nvB_0 ?_
  refine ev_s C dJx4a65c_add_9ea2d_23 (q := 24) rfl rfl ?_
  exact ev_zret C hr (fit_Z (by first | decide | exact bI_01 _ | assumption)) dJx4a65c_add_9ea2d_24 (by rw [hmc]; decide) (by rw [hms]; omega) (po_1 hPo rfl (by funext n; unfold gup; by_cases e1 : n = 1011 <;> by_cases e2 : n = 1012 <;> simp [e1, e2]))
set_option maxHeartbeats 4000000 in
set_option maxRecDepth 100000 in
theorem c_addSb {G : GH} {m : Int} {x : Nat} {fs : List AV} (hL : G 1011 = some (ls_ m 1013 0)) (hD : G 1012 = none) (hX : G x = some (.inl (7, fs))) (hx : x ≠ 1011 ∧ x ≠ 1012) : Cn yJx4a65c_add_9ea2d (wsy yJx4a65c_add_9ea2d cJx4a65c_add_9ea2d 2 (some .boolean)) 6 1 10 nw12 [vR (some 1011), vR (some x)] G (.inl (some (vI 1), gup (gup G 1012 (.inr (6, 10, vset nulF 0 (vR (some x))))) 1011 (ls_ (m + 1) 1012 1))) := by
  refine con_m (lv := [(0, vR (some 1011)), (1, vR (some x))]) (by decide) (by unfold nw12; decide) (fun ad => Nat.le_of_ble_eq_true rfl) (fun ad => rfl) rfl ?_
  intro k C hr hin hkG hlv hmc hms hw hPo hPx htab
  refine ev_s C dJx4a65c_add_9ea2d_0 (q := 1) rfl rfl ?_
  refine ev_s C dJx4a65c_add_9ea2d_1 (q := 2) rfl rfl ?_
  refine ev_get C dJx4a65c_add_9ea2d_2 kf_Jx4a65c_63 (q := 5) rfl hL rfl ?_
  refine ev_s C dJx4a65c_add_9ea2d_5 (q := 6) rfl rfl ?_
  refine ev_s C dJx4a65c_add_9ea2d_6 (q := 7) rfl rfl ?_
  refine ev_put (j := 0) C dJx4a65c_add_9ea2d_7 kf_Jx4a65c_63 (q := 10) rfl (fit_I _) hL (Nat.le_of_ble_eq_true rfl) (G' := gup G 1011 (ls_ (m + 1) 1013 0)) rfl ?_
  have hL1 : gup G 1011 (ls_ (m + 1) 1013 0) 1011 = some (ls_ (m + 1) 1013 0) := gup_self
  refine ev_s C dJx4a65c_add_9ea2d_10 (q := 11) rfl rfl ?_
  refine ev_s C dJx4a65c_add_9ea2d_11 (q := 12) rfl rfl ?_
  refine ev_s C dJx4a65c_add_9ea2d_12 (q := 13) rfl rfl ?_
  refine ev_get C dJx4a65c_add_9ea2d_13 kf_Jx4a65c_9 (q := 16) rfl hL1 rfl ?_
  refine ev_s C dJx4a65c_add_9ea2d_16 (q := 17) rfl rfl ?_
  refine ev_get C dJx4a65c_add_9ea2d_17 kf_Jx4a65c_48 (q := 20) rfl hL1 rfl ?_
  refine ev_cVn C dJx4a65c_add_9ea2d_20 (q := 23) rfl km_Jx4a65c_131 kv_Jx4a65c_add_72be8 kc_Jx4a65c_add_72be8 (c_addS3b (x := x) hL1 (by rw [gup_ne (by decide)]; exact hD) (by rw [gup_ne hx.1]; exact hX) hx rfl) rfl rfl vcJx4a65c hL1 (by rw [hlv]; decide) (by decide) (Nat.le_of_ble_eq_true rfl) (by rw [hmc]; decide) (by rw [hms]; decide) (by rw [hw]; exact fun _ h => h) (nvA_c (nv_R (by unfold nw12; decide)) (nvA_c (nv_R hx.2) nvA_0)) nvB_0 ?_
  refine ev_s C dJx4a65c_add_9ea2d_23 (q := 24) rfl rfl ?_
  exact ev_zret C hr (fit_Z (by first | decide | exact bI_01 _ | assumption)) dJx4a65c_add_9ea2d_24 (by rw [hmc]; decide) (by rw [hms]; omega) (po_1 hPo rfl (by funext n; unfold gup; by_cases e1 : n = 1011 <;> by_cases e2 : n = 1012 <;> simp [e1, e2]))
def asS (u : SS) : Nat → Int := fun s => if s = 13 then u.1 13 + 1 else if s = 14 then u.1 14 + 1 else if s = 15 then (if u.1 15 = 0 then 10 else u.1 15) else u.1 s
def asV (w c d : Int) (a : Nat) : Int := if a = 11 then w else if a = 12 then c else if a = 13 then d else 0
def asW (a : Nat) : Int := if a = 22 then 2 else if a = 23 then 45 else if a = 24 then -1 else 0
def asA (u : SS) (n : Nat) (w c d : Int) : Nat → Nat → Int := fun a j => if 11 ≤ a ∧ a < 20 then (if j = n then asV w c d a else u.2 a j) else if 22 ≤ a ∧ a < 26 then (if 8 * n ≤ j ∧ j < 8 * n + 8 then asW a else u.2 a j) else u.2 a j
def asC (u : SS) (n : Nat) (w c d : Int) : SS := (asS u, asA u n w c d)
theorem asA_lo {u : SS} {n a j : Nat} {w c d : Int} (h : a < 11) : asA u n w c d a j = u.2 a j := by
  unfold asA
  rw [if_neg (by omega), if_neg (by omega)]
theorem asA_s {u : SS} {n a j : Nat} {w c d : Int} (h : 11 ≤ a ∧ a < 20) : asA u n w c d a j = if j = n then asV w c d a else u.2 a j := by
  unfold asA
  rw [if_pos h]
theorem asA_p {u : SS} {n a j : Nat} {w c d : Int} (h : 22 ≤ a ∧ a < 26) : asA u n w c d a j = if 8 * n ≤ j ∧ j < 8 * n + 8 then asW a else u.2 a j := by
  unfold asA
  rw [if_neg (by omega), if_pos h]
theorem asS_o {u : SS} {s : Nat} (h1 : s ≠ 13) (h2 : s ≠ 14) (h3 : s ≠ 15) : asS u s = u.1 s := by
  unfold asS
  rw [if_neg h1, if_neg h2, if_neg h3]
/-- the heap behind the making, the list's two cells aside, is that of the state anew -/
theorem asC_eq {u v : SS} {g : GH} {n : Nat} {w c d : Int} (hn : u.1 14 = (n : Int)) (hn6 : n < 6) {m : Nat} (hm : m ≠ 1011) (hm2 : m ≠ 1012) : asG (mk u v g) n (svN n w c d) (some (arN n 8)) 8 m = mk (asC u n w c d) v g m := by
  have e14 : (asC u n w c d).1 14 = u.1 14 + 1 := rfl
  by_cases c0 : m < 1000
  · rw [asG_o (by omega) (by omega) (by omega)]
    unfold mk
    by_cases c1 : m < 100
    · rw [if_pos c1, if_pos c1]
    · rw [if_neg c1, if_neg c1, if_pos c0, if_pos c0]
  · rw [mk_c (by omega)]
    rcases nm_c (n := m) (by omega) with h2 | ⟨s, hs, rfl⟩ | ⟨s, hs, rfl⟩ | ⟨p, rfl⟩
    · rw [asG_o (by omega) (by omega) (by omega), mk_c (by omega)]
      have a0 : (asC u n w c d).2 0 = u.2 0 := by funext j; exact asA_lo (u := u) (n := n) (w := w) (c := c) (d := d) (a := 0) (by decide)
      have a1 : (asC u n w c d).2 1 = u.2 1 := by funext j; exact asA_lo (u := u) (n := n) (w := w) (c := c) (d := d) (a := 1) (by decide)
      have a2 : (asC u n w c d).2 2 = u.2 2 := by funext j; exact asA_lo (u := u) (n := n) (w := w) (c := c) (d := d) (a := 2) (by decide)
      have a3 : (asC u n w c d).2 3 = u.2 3 := by funext j; exact asA_lo (u := u) (n := n) (w := w) (c := c) (d := d) (a := 3) (by decide)
      have a4 : (asC u n w c d).2 4 = u.2 4 := by funext j; exact asA_lo (u := u) (n := n) (w := w) (c := c) (d := d) (a := 4) (by decide)
      unfold eS
      rw [if_pos h2, if_pos h2]
      split <;> first | rfl | exact absurd rfl hm | exact absurd rfl hm2 | simp only [a0] | simp only [a1] | simp only [a2] | simp only [a3, show (asC u n w c d).1 12 = u.1 12 from rfl] | simp only [a4]
    · rw [eS_s hs, e14]
      by_cases e : s = n
      · subst e
        rw [asG_s, if_pos (by omega)]
        unfold svN svc asC
        simp only [asA_s (show 11 ≤ 11 ∧ 11 < 20 by decide), asA_s (show 11 ≤ 12 ∧ 12 < 20 by decide), asA_s (show 11 ≤ 13 ∧ 13 < 20 by decide), asA_s (show 11 ≤ 15 ∧ 15 < 20 by decide), asA_s (show 11 ≤ 16 ∧ 16 < 20 by decide), asA_s (show 11 ≤ 17 ∧ 17 < 20 by decide), asA_s (show 11 ≤ 18 ∧ 18 < 20 by decide), asA_s (show 11 ≤ 19 ∧ 19 < 20 by decide), if_true]
        rfl
      · rw [asG_o (by omega) (by omega) (by omega), mk_c (by omega), eS_s hs]
        by_cases h : (s : Int) < u.1 14
        · rw [if_pos h, if_pos (by omega)]
          unfold svc asC
          simp only [asA_s (show 11 ≤ 11 ∧ 11 < 20 by decide), asA_s (show 11 ≤ 12 ∧ 12 < 20 by decide), asA_s (show 11 ≤ 13 ∧ 13 < 20 by decide), asA_s (show 11 ≤ 15 ∧ 15 < 20 by decide), asA_s (show 11 ≤ 16 ∧ 16 < 20 by decide), asA_s (show 11 ≤ 17 ∧ 17 < 20 by decide), asA_s (show 11 ≤ 18 ∧ 18 < 20 by decide), asA_s (show 11 ≤ 19 ∧ 19 < 20 by decide), if_neg e]
        · rw [if_neg h, if_neg (by omega)]
    · rw [eS_a hs, e14]
      by_cases e : s = n
      · subst e
        rw [asG_a, if_pos (by omega)]
        rfl
      · rw [asG_o (by omega) (by omega) (by omega), mk_c (by omega), eS_a hs]
        by_cases h : (s : Int) < u.1 14
        · rw [if_pos h, if_pos (by omega)]
        · rw [if_neg h, if_neg (by omega)]
    · rw [eS_p, e14]
      by_cases e : 8 * n ≤ p ∧ p < 8 * n + 8
      · rw [show 3000 + p = 3000 + (8 * n + (p - 8 * n)) by omega, asG_p (by omega) (by omega), if_pos (by omega), show 8 * n + (p - 8 * n) = p by omega]
        unfold pgN pgc asC
        simp only [asA_p (show 22 ≤ 22 ∧ 22 < 26 by decide), asA_p (show 22 ≤ 23 ∧ 23 < 26 by decide), asA_p (show 22 ≤ 24 ∧ 24 < 26 by decide), asA_p (show 22 ≤ 25 ∧ 25 < 26 by decide), if_pos e]
        rfl
      · rw [asG_o (by omega) (by omega) (by omega), mk_c (by omega), eS_p]
        by_cases h : (p : Int) < 8 * u.1 14
        · rw [if_pos h, if_pos (by omega)]
          unfold pgc asC
          simp only [asA_p (show 22 ≤ 22 ∧ 22 < 26 by decide), asA_p (show 22 ≤ 23 ∧ 23 < 26 by decide), asA_p (show 22 ≤ 24 ∧ 24 < 26 by decide), asA_p (show 22 ≤ 25 ∧ 25 < 26 by decide), if_neg e]
        · rw [if_neg h, if_neg (by omega)]
theorem asG_gup {G : GH} {n i : Nat} {fs : List AV} {a : Option AC} {c : AC} : asG (gup G (2000 + n) c) n fs a i = asG G n fs a i := by
  funext m
  unfold asG
  by_cases e : m = 2000 + n
  · rw [if_pos e, if_pos e]
  · rw [if_neg e, if_neg e, gup_ne e]
def nwA (n : Nat) : Nat → Prop := fun m => m = 2000 + n ∨ nwS n m ∨ m = 1012
def svF (u : SS) : Nat → AV := fun j => if (j : Int) < u.1 14 then vR (some (2000 + j)) else vR none
theorem asC_a {u v : SS} {g : GH} {n : Nat} {w c d : Int} (hn : u.1 14 = (n : Int)) (hn6 : n < 6) (hc : u.1 15 = 10) : gup (gup (asG (mk u v g) n (svN n w c d) (some (arN n 8)) 8) 1012 (.inr (6, 10, vset (svF u) (n : Int).toNat (vR (some (2000 + n)))))) 1011 (ls_ (u.1 13 + 1) 1012 ((n : Int) + 1)) = mk (asC u n w c d) v g := by
  funext m
  by_cases e1 : m = 1011
  · subst e1
    rw [gup_self, mk_c (by decide)]
    show _ = some (Sum.inl (2, [vI (u.1 13 + 1), vR (some (if (if u.1 15 = 0 then (10 : Int) else u.1 15) = 0 then 1013 else 1012)), vI (u.1 14 + 1)]))
    rw [hc, hn]
    rfl
  · rw [gup_ne e1]
    by_cases e2 : m = 1012
    · subst e2
      rw [gup_self, mk_c (by decide)]
      show _ = (if (if u.1 15 = 0 then (10 : Int) else u.1 15) = 0 then none else some (Sum.inr (6, (if u.1 15 = 0 then (10 : Int) else u.1 15).toNat, fun j : Nat => if (j : Int) < u.1 14 + 1 then vR (some (2000 + j)) else vR none)))
      rw [hc]
      show _ = some (Sum.inr (6, 10, _))
      rw [show vset (svF u) (n : Int).toNat (vR (some (2000 + n))) = fun j : Nat => if (j : Int) < u.1 14 + 1 then vR (some (2000 + j)) else vR none from by
        funext j
        unfold vset svF
        rw [hn, Int.toNat_natCast]
        by_cases e : j = n
        · subst e; rw [if_pos rfl, if_pos (by omega)]
        · rw [if_neg e]
          by_cases h : (j : Int) < n
          · rw [if_pos h, if_pos (by omega)]
          · rw [if_neg h, if_neg (by omega)]]
    · rw [gup_ne e2]
      exact asC_eq hn hn6 e1 e2
theorem asC_b {u v : SS} {g : GH} {w c d : Int} (hn : u.1 14 = 0) (hc : u.1 15 = 0) : gup (gup (asG (mk u v g) 0 (svN 0 w c d) (some (arN 0 8)) 8) 1012 (.inr (6, 10, vset nulF 0 (vR (some (2000 + 0)))))) 1011 (ls_ (u.1 13 + 1) 1012 1) = mk (asC u 0 w c d) v g := by
  funext m
  by_cases e1 : m = 1011
  · subst e1
    rw [gup_self, mk_c (by decide)]
    show _ = some (Sum.inl (2, [vI (u.1 13 + 1), vR (some (if (if u.1 15 = 0 then (10 : Int) else u.1 15) = 0 then 1013 else 1012)), vI (u.1 14 + 1)]))
    rw [hc, hn]
    rfl
  · rw [gup_ne e1]
    by_cases e2 : m = 1012
    · subst e2
      rw [gup_self, mk_c (by decide)]
      show _ = (if (if u.1 15 = 0 then (10 : Int) else u.1 15) = 0 then none else some (Sum.inr (6, (if u.1 15 = 0 then (10 : Int) else u.1 15).toNat, fun j : Nat => if (j : Int) < u.1 14 + 1 then vR (some (2000 + j)) else vR none)))
      rw [hc]
      show _ = some (Sum.inr (6, 10, _))
      rw [show vset nulF 0 (vR (some (2000 + 0))) = fun j : Nat => if (j : Int) < u.1 14 + 1 then vR (some (2000 + j)) else vR none from by
        funext j
        unfold vset nulF
        rw [hn]
        by_cases e : j = 0
        · subst e; rw [if_pos rfl, if_pos (by omega)]
        · rw [if_neg e, if_neg (by omega)]]
    · rw [gup_ne e2]
      exact asC_eq hn (by decide) e1 e2
theorem CI_as {u : SS} {n : Nat} {w c d : Int} (I : CI u) (hn : u.1 14 = (n : Int)) (hn6 : n < 6) (hcap : u.1 15 = 0 ∨ u.1 15 = 10) (hw : 0 ≤ w ∧ w ≤ 100) (hc : 0 ≤ c ∧ c ≤ 65535) (hd : 0 ≤ d ∧ d ≤ 20) : CI (asC u n w c d) := by
  have i13 := I.s14
  have isv := I.sv
  refine ⟨fun k => ?_, fun a j => ?_, ?_, ?_, fun j => ?_, fun j => ?_, fun j hj => ?_⟩
  · show k = 10 ∨ k = 13 ∨ (lC k ≤ asS u k ∧ asS u k ≤ hC k)
    by_cases e3 : k = 13
    · exact Or.inr (Or.inl e3)
    · by_cases e4 : k = 14
      · subst e4
        refine Or.inr (Or.inr ?_)
        show lC 14 ≤ u.1 14 + 1 ∧ u.1 14 + 1 ≤ hC 14
        unfold lC hC
        show (0 : Int) ≤ _ ∧ _ ≤ 6
        omega
      · by_cases e5 : k = 15
        · subst e5
          refine Or.inr (Or.inr ?_)
          show lC 15 ≤ (if u.1 15 = 0 then 10 else u.1 15) ∧ (if u.1 15 = 0 then 10 else u.1 15) ≤ hC 15
          unfold lC hC
          show (0 : Int) ≤ _ ∧ _ ≤ 10
          split <;> omega
        · rw [asS_o e3 e4 e5]
          exact I.1 k
  · show lD a ≤ asA u n w c d a j ∧ asA u n w c d a j ≤ hD a
    have h := I.2.1 a j
    unfold asA
    split
    · split
      · rename_i h1 _
        obtain rfl | rfl | rfl | rfl | rfl | rfl | rfl | rfl | rfl : a = 11 ∨ a = 12 ∨ a = 13 ∨ a = 14 ∨ a = 15 ∨ a = 16 ∨ a = 17 ∨ a = 18 ∨ a = 19 := by omega
        all_goals (first | (show (0 : Int) ≤ w ∧ w ≤ 100; omega) | (show (0 : Int) ≤ c ∧ c ≤ 65535; omega) | (show (0 : Int) ≤ d ∧ d ≤ 20; omega) | (refine ⟨Int.le_refl 0, ?_⟩; show (0 : Int) ≤ hD _; decide))
      · exact h
    · split
      · split
        · rename_i h1 _
          obtain rfl | rfl | rfl | rfl : a = 22 ∨ a = 23 ∨ a = 24 ∨ a = 25 := by omega
          all_goals decide
        · exact h
      · exact h
  · exact I.sz
  · show u.1 14 + 1 ≤ (if u.1 15 = 0 then 10 else u.1 15)
    split <;> omega
  · show asA u n w c d 2 j < 8 * (u.1 14 + 1)
    rw [asA_lo (by decide)]
    have := I.hd j
    omega
  · show asA u n w c d 3 j < 8 * (u.1 14 + 1)
    rw [asA_lo (by decide)]
    have := I.od j
    omega
  · show 0 ≤ asA u n w c d 3 j
    rw [asA_lo (by decide)]
    exact I.on hj
set_option maxHeartbeats 4000000 in
set_option maxRecDepth 100000 in
theorem c_X6_addService_x1 {u v : SS} {g : GH} (I : CI u) {w c d : Int} (hx : rg w) (h : ¬ (0 ≤ w ∧ w ≤ 100)) : Cn yX6_addService (wsy yX6_addService cX6_addService 5 (some .int)) 6 1 6 nn [vR (some 1000), vI w, vI c, vI d] (mk u v g) (.inr ("java/lang/IllegalArgumentException", mk u v g)) := by
  refine con_j (lv := [(0, vR (some 1000)), (1, vI w), (2, vI c), (3, vI d)]) (by decide) (fun ad => Nat.le_of_ble_eq_true rfl) (fun ad => rfl) rfl ?_
  intro k C hr hlv hmc hms hPo hPx htab
  refine ev_s C dX6_addService_0 (q := 1) rfl rfl ?_
  refine ev_s C dX6_addService_1 (q := 2) rfl rfl ?_
  refine ev_s C dX6_addService_2 (q := 4) rfl rfl ?_
  refine ev_cSx C dX6_addService_4 (q := 7) rfl km_X6_48 ks_X6_requireRange kc_X6_requireRange (c_X6_requireRange_x hx (by unfold rg; decide) (by unfold rg; decide) h) rfl rfl (by rw [hlv]; first | decide | omega) (by decide) (Nat.le_of_ble_eq_true rfl) (by first | exact Nat.zero_le _ | (rw [hmc]; decide) | (rw [hmc]; omega)) (by first | exact Nat.zero_le _ | (rw [hms]; decide) | (rw [hms]; omega)) (fun E G1 h => by cases h; exact ex_out C htab (by first | exact Nat.zero_le _ | (rw [hmc]; decide) | (rw [hmc]; omega)) (by first | exact Nat.zero_le _ | (rw [hms]; decide) | (rw [hms]; omega)) (px_1 hPx rfl rfl)) (fun a G1 h => nomatch h)
set_option maxHeartbeats 4000000 in
set_option maxRecDepth 100000 in
theorem c_X6_addService_x2 {u v : SS} {g : GH} (I : CI u) {w c d : Int} (hw : 0 ≤ w ∧ w ≤ 100) (hc : 0 ≤ c ∧ c ≤ 65535) (h : ¬ (c = 97 ∨ c = 110)) : Cn yX6_addService (wsy yX6_addService cX6_addService 5 (some .int)) 6 1 6 nn [vR (some 1000), vI w, vI c, vI d] (mk u v g) (.inr ("java/lang/IllegalArgumentException", mk u v g)) := by
  refine con_j (lv := [(0, vR (some 1000)), (1, vI w), (2, vI c), (3, vI d)]) (by decide) (fun ad => Nat.le_of_ble_eq_true rfl) (fun ad => rfl) rfl ?_
  intro k C hr hlv hmc hms hPo hPx htab
  refine ev_s C dX6_addService_0 (q := 1) rfl rfl ?_
  refine ev_s C dX6_addService_1 (q := 2) rfl rfl ?_
  refine ev_s C dX6_addService_2 (q := 4) rfl rfl ?_
  refine ev_cS C dX6_addService_4 (q := 7) rfl km_X6_48 ks_X6_requireRange kc_X6_requireRange (c_X6_requireRange (by unfold rg; omega) (by unfold rg; decide) (by unfold rg; decide) hw) rfl rfl (by rw [hlv]; first | decide | omega) (by decide) (Nat.le_of_ble_eq_true rfl) (by first | exact Nat.zero_le _ | (rw [hmc]; decide) | (rw [hmc]; omega)) (by first | exact Nat.zero_le _ | (rw [hms]; decide) | (rw [hms]; omega)) ?_
  refine ev_s C dX6_addService_7 (q := 8) rfl rfl ?_
  refine ev_s C dX6_addService_8 (q := 10) rfl rfl ?_
  refine ev_icmp_eq C dX6_addService_10 (tgt := 29) (q := 13) (by decide) rfl (by first | decide | (unfold rg; omega) | assumption | exact bAnd_rg _ _) (by first | decide | (unfold rg; omega) | assumption | exact bAnd_rg _ _) (fun b0 => ?_) (fun b0 => ?_)
  · exact absurd (Or.inl b0) h
  · refine ev_s C dX6_addService_13 (q := 14) rfl rfl ?_
    refine ev_s C dX6_addService_14 (q := 16) rfl rfl ?_
    refine ev_icmp_eq C dX6_addService_16 (tgt := 29) (q := 19) (by decide) rfl (by first | decide | (unfold rg; omega) | assumption | exact bAnd_rg _ _) (by first | decide | (unfold rg; omega) | assumption | exact bAnd_rg _ _) (fun b1 => ?_) (fun b1 => ?_)
    · exact absurd (Or.inr b1) h
    · exact ev_throw C htab kt_52_56 (text := "no such policy") (by decide) dX6_addService_19 dX6_addService_22 dX6_addService_23 dX6_addService_25 dX6_addService_28 (Nat.le_of_ble_eq_true rfl) (by rw [hmc]; decide) (by rw [hms]; decide) (px_1 hPx rfl rfl)
set_option maxHeartbeats 4000000 in
set_option maxRecDepth 100000 in
theorem c_X6_addService_x3 {u v : SS} {g : GH} (I : CI u) {w c d : Int} (hw : 0 ≤ w ∧ w ≤ 100) (hc : 0 ≤ c ∧ c ≤ 65535) (hc2 : c = 97 ∨ c = 110) (hd : rg d) (h : ¬ (1 ≤ d ∧ d ≤ 20)) : Cn yX6_addService (wsy yX6_addService cX6_addService 5 (some .int)) 6 1 6 nn [vR (some 1000), vI w, vI c, vI d] (mk u v g) (.inr ("java/lang/IllegalArgumentException", mk u v g)) := by
  refine con_j (lv := [(0, vR (some 1000)), (1, vI w), (2, vI c), (3, vI d)]) (by decide) (fun ad => Nat.le_of_ble_eq_true rfl) (fun ad => rfl) rfl ?_
  intro k C hr hlv hmc hms hPo hPx htab
  refine ev_s C dX6_addService_0 (q := 1) rfl rfl ?_
  refine ev_s C dX6_addService_1 (q := 2) rfl rfl ?_
  refine ev_s C dX6_addService_2 (q := 4) rfl rfl ?_
  refine ev_cS C dX6_addService_4 (q := 7) rfl km_X6_48 ks_X6_requireRange kc_X6_requireRange (c_X6_requireRange (by unfold rg; omega) (by unfold rg; decide) (by unfold rg; decide) hw) rfl rfl (by rw [hlv]; first | decide | omega) (by decide) (Nat.le_of_ble_eq_true rfl) (by first | exact Nat.zero_le _ | (rw [hmc]; decide) | (rw [hmc]; omega)) (by first | exact Nat.zero_le _ | (rw [hms]; decide) | (rw [hms]; omega)) ?_
  refine ev_s C dX6_addService_7 (q := 8) rfl rfl ?_
  refine ev_s C dX6_addService_8 (q := 10) rfl rfl ?_
  refine ev_icmp_eq C dX6_addService_10 (tgt := 29) (q := 13) (by decide) rfl (by first | decide | (unfold rg; omega) | assumption | exact bAnd_rg _ _) (by first | decide | (unfold rg; omega) | assumption | exact bAnd_rg _ _) (fun b0 => ?_) (fun b0 => ?_)
  · refine ev_s C dX6_addService_29 (q := 30) rfl rfl ?_
    refine ev_s C dX6_addService_30 (q := 31) rfl rfl ?_
    refine ev_s C dX6_addService_31 (q := 33) rfl rfl ?_
    refine ev_cSx C dX6_addService_33 (q := 36) rfl km_X6_48 ks_X6_requireRange kc_X6_requireRange (c_X6_requireRange_x hd (by unfold rg; decide) (by unfold rg; decide) h) rfl rfl (by rw [hlv]; first | decide | omega) (by decide) (Nat.le_of_ble_eq_true rfl) (by first | exact Nat.zero_le _ | (rw [hmc]; decide) | (rw [hmc]; omega)) (by first | exact Nat.zero_le _ | (rw [hms]; decide) | (rw [hms]; omega)) (fun E G1 h => by cases h; exact ex_out C htab (by first | exact Nat.zero_le _ | (rw [hmc]; decide) | (rw [hmc]; omega)) (by first | exact Nat.zero_le _ | (rw [hms]; decide) | (rw [hms]; omega)) (px_1 hPx rfl rfl)) (fun a G1 h => nomatch h)
  · refine ev_s C dX6_addService_13 (q := 14) rfl rfl ?_
    refine ev_s C dX6_addService_14 (q := 16) rfl rfl ?_
    refine ev_icmp_eq C dX6_addService_16 (tgt := 29) (q := 19) (by decide) rfl (by first | decide | (unfold rg; omega) | assumption | exact bAnd_rg _ _) (by first | decide | (unfold rg; omega) | assumption | exact bAnd_rg _ _) (fun b1 => ?_) (fun b1 => ?_)
    · refine ev_s C dX6_addService_29 (q := 30) rfl rfl ?_
      refine ev_s C dX6_addService_30 (q := 31) rfl rfl ?_
      refine ev_s C dX6_addService_31 (q := 33) rfl rfl ?_
      refine ev_cSx C dX6_addService_33 (q := 36) rfl km_X6_48 ks_X6_requireRange kc_X6_requireRange (c_X6_requireRange_x hd (by unfold rg; decide) (by unfold rg; decide) h) rfl rfl (by rw [hlv]; first | decide | omega) (by decide) (Nat.le_of_ble_eq_true rfl) (by first | exact Nat.zero_le _ | (rw [hmc]; decide) | (rw [hmc]; omega)) (by first | exact Nat.zero_le _ | (rw [hms]; decide) | (rw [hms]; omega)) (fun E G1 h => by cases h; exact ex_out C htab (by first | exact Nat.zero_le _ | (rw [hmc]; decide) | (rw [hmc]; omega)) (by first | exact Nat.zero_le _ | (rw [hms]; decide) | (rw [hms]; omega)) (px_1 hPx rfl rfl)) (fun a G1 h => nomatch h)
    · exfalso; omega
set_option maxHeartbeats 4000000 in
set_option maxRecDepth 100000 in
theorem c_X6_addService_x4 {u v : SS} {g : GH} (I : CI u) {w c d : Int} (hw : 0 ≤ w ∧ w ≤ 100) (hc : 0 ≤ c ∧ c ≤ 65535) (hc2 : c = 97 ∨ c = 110) (hd : 1 ≤ d ∧ d ≤ 20) (h : 6 ≤ u.1 14) : Cn yX6_addService (wsy yX6_addService cX6_addService 5 (some .int)) 6 1 6 nn [vR (some 1000), vI w, vI c, vI d] (mk u v g) (.inr ("java/lang/IllegalStateException", mk u v g)) := by
  refine con_j (lv := [(0, vR (some 1000)), (1, vI w), (2, vI c), (3, vI d)]) (by decide) (fun ad => Nat.le_of_ble_eq_true rfl) (fun ad => rfl) rfl ?_
  intro k C hr hlv hmc hms hPo hPx htab
  have i14 := I.s14
  refine ev_s C dX6_addService_0 (q := 1) rfl rfl ?_
  refine ev_s C dX6_addService_1 (q := 2) rfl rfl ?_
  refine ev_s C dX6_addService_2 (q := 4) rfl rfl ?_
  refine ev_cS C dX6_addService_4 (q := 7) rfl km_X6_48 ks_X6_requireRange kc_X6_requireRange (c_X6_requireRange (by unfold rg; omega) (by unfold rg; decide) (by unfold rg; decide) hw) rfl rfl (by rw [hlv]; first | decide | omega) (by decide) (Nat.le_of_ble_eq_true rfl) (by first | exact Nat.zero_le _ | (rw [hmc]; decide) | (rw [hmc]; omega)) (by first | exact Nat.zero_le _ | (rw [hms]; decide) | (rw [hms]; omega)) ?_
  refine ev_s C dX6_addService_7 (q := 8) rfl rfl ?_
  refine ev_s C dX6_addService_8 (q := 10) rfl rfl ?_
  refine ev_icmp_eq C dX6_addService_10 (tgt := 29) (q := 13) (by decide) rfl (by first | decide | (unfold rg; omega) | assumption | exact bAnd_rg _ _) (by first | decide | (unfold rg; omega) | assumption | exact bAnd_rg _ _) (fun b0 => ?_) (fun b0 => ?_)
  · refine ev_s C dX6_addService_29 (q := 30) rfl rfl ?_
    refine ev_s C dX6_addService_30 (q := 31) rfl rfl ?_
    refine ev_s C dX6_addService_31 (q := 33) rfl rfl ?_
    refine ev_cS C dX6_addService_33 (q := 36) rfl km_X6_48 ks_X6_requireRange kc_X6_requireRange (c_X6_requireRange (by unfold rg; omega) (by unfold rg; decide) (by unfold rg; decide) hd) rfl rfl (by rw [hlv]; first | decide | omega) (by decide) (Nat.le_of_ble_eq_true rfl) (by first | exact Nat.zero_le _ | (rw [hmc]; decide) | (rw [hmc]; omega)) (by first | exact Nat.zero_le _ | (rw [hms]; decide) | (rw [hms]; omega)) ?_
    refine ev_s C dX6_addService_36 (q := 37) rfl rfl ?_
    refine cg_1000_4 C dX6_addService_37 kf_X6_40 (q := 40) rfl ?_
    refine ev_cV C dX6_addService_40 (q := 43) rfl km_X6_59 kv_Jx4a65c_size_8abf5 kc_Jx4a65c_size_8abf5 (c_size_s) rfl rfl vcJx4a65c rfl (by rw [hlv]; first | decide | omega) (by decide) (Nat.le_of_ble_eq_true rfl) (by first | exact Nat.zero_le _ | (rw [hmc]; decide) | (rw [hmc]; omega)) (by first | exact Nat.zero_le _ | (rw [hms]; decide) | (rw [hms]; omega)) ?_
    refine ev_s C dX6_addService_43 (q := 45) rfl rfl ?_
    refine ev_s C dX6_addService_45 (q := 47) rfl rfl ?_
    refine ev_s C dX6_addService_47 (q := 49) rfl rfl ?_
    refine ev_icmp_lt C dX6_addService_49 (tgt := 62) (q := 52) (by decide) rfl (by first | decide | (unfold rg; omega) | assumption | exact bAnd_rg _ _) (by first | decide | (unfold rg; omega) | assumption | exact bAnd_rg _ _) (fun b1 => ?_) (fun b1 => ?_)
    · exfalso; omega
    · exact ev_throw C htab kt_63_67 (text := "no more services") (by decide) dX6_addService_52 dX6_addService_55 dX6_addService_56 dX6_addService_58 dX6_addService_61 (Nat.le_of_ble_eq_true rfl) (by rw [hmc]; decide) (by rw [hms]; decide) (px_1 hPx rfl rfl)
  · refine ev_s C dX6_addService_13 (q := 14) rfl rfl ?_
    refine ev_s C dX6_addService_14 (q := 16) rfl rfl ?_
    refine ev_icmp_eq C dX6_addService_16 (tgt := 29) (q := 19) (by decide) rfl (by first | decide | (unfold rg; omega) | assumption | exact bAnd_rg _ _) (by first | decide | (unfold rg; omega) | assumption | exact bAnd_rg _ _) (fun b2 => ?_) (fun b2 => ?_)
    · refine ev_s C dX6_addService_29 (q := 30) rfl rfl ?_
      refine ev_s C dX6_addService_30 (q := 31) rfl rfl ?_
      refine ev_s C dX6_addService_31 (q := 33) rfl rfl ?_
      refine ev_cS C dX6_addService_33 (q := 36) rfl km_X6_48 ks_X6_requireRange kc_X6_requireRange (c_X6_requireRange (by unfold rg; omega) (by unfold rg; decide) (by unfold rg; decide) hd) rfl rfl (by rw [hlv]; first | decide | omega) (by decide) (Nat.le_of_ble_eq_true rfl) (by first | exact Nat.zero_le _ | (rw [hmc]; decide) | (rw [hmc]; omega)) (by first | exact Nat.zero_le _ | (rw [hms]; decide) | (rw [hms]; omega)) ?_
      refine ev_s C dX6_addService_36 (q := 37) rfl rfl ?_
      refine cg_1000_4 C dX6_addService_37 kf_X6_40 (q := 40) rfl ?_
      refine ev_cV C dX6_addService_40 (q := 43) rfl km_X6_59 kv_Jx4a65c_size_8abf5 kc_Jx4a65c_size_8abf5 (c_size_s) rfl rfl vcJx4a65c rfl (by rw [hlv]; first | decide | omega) (by decide) (Nat.le_of_ble_eq_true rfl) (by first | exact Nat.zero_le _ | (rw [hmc]; decide) | (rw [hmc]; omega)) (by first | exact Nat.zero_le _ | (rw [hms]; decide) | (rw [hms]; omega)) ?_
      refine ev_s C dX6_addService_43 (q := 45) rfl rfl ?_
      refine ev_s C dX6_addService_45 (q := 47) rfl rfl ?_
      refine ev_s C dX6_addService_47 (q := 49) rfl rfl ?_
      refine ev_icmp_lt C dX6_addService_49 (tgt := 62) (q := 52) (by decide) rfl (by first | decide | (unfold rg; omega) | assumption | exact bAnd_rg _ _) (by first | decide | (unfold rg; omega) | assumption | exact bAnd_rg _ _) (fun b3 => ?_) (fun b3 => ?_)
      · exfalso; omega
      · exact ev_throw C htab kt_63_67 (text := "no more services") (by decide) dX6_addService_52 dX6_addService_55 dX6_addService_56 dX6_addService_58 dX6_addService_61 (Nat.le_of_ble_eq_true rfl) (by rw [hmc]; decide) (by rw [hms]; decide) (px_1 hPx rfl rfl)
    · exfalso; omega
set_option maxHeartbeats 4000000 in
set_option maxRecDepth 100000 in
theorem c_X6_addService {u v : SS} {g : GH} (I : CI u) {n : Nat} (hn : u.1 14 = (n : Int)) (hn6 : n < 6) (hcap : u.1 15 = 0 ∨ u.1 15 = 10) {w c d : Int} (hw_ : 0 ≤ w ∧ w ≤ 100) (hc : 0 ≤ c ∧ c ≤ 65535) (hc2 : c = 97 ∨ c = 110) (hd : 1 ≤ d ∧ d ≤ 20) : Cn yX6_addService (wsy yX6_addService cX6_addService 5 (some .int)) 7 11 76 (nwA n) [vR (some 1000), vI w, vI c, vI d] (mk u v g) (.inl (some (vI (n : Int)), mk (asC u n w c d) v g)) := by
  refine con_m (lv := [(0, vR (some 1000)), (1, vI w), (2, vI c), (3, vI d)]) (by decide) (by unfold nwA nwS; omega) (fun ad => Nat.le_of_ble_eq_true rfl) (fun ad => rfl) rfl ?_
  intro k C hr hin hkG hlv hmc hms hw hPo hPx htab
  have i14 := I.s14
  have isv := I.sv
  refine ev_s C dX6_addService_0 (q := 1) rfl rfl ?_
  refine ev_s C dX6_addService_1 (q := 2) rfl rfl ?_
  refine ev_s C dX6_addService_2 (q := 4) rfl rfl ?_
  refine ev_cS C dX6_addService_4 (q := 7) rfl km_X6_48 ks_X6_requireRange kc_X6_requireRange (c_X6_requireRange (by unfold rg; omega) (by unfold rg; decide) (by unfold rg; decide) hw_) rfl rfl (by rw [hlv]; first | decide | omega) (by decide) (Nat.le_of_ble_eq_true rfl) (by first | exact Nat.zero_le _ | (rw [hmc]; decide) | (rw [hmc]; omega)) (by first | exact Nat.zero_le _ | (rw [hms]; decide) | (rw [hms]; omega)) ?_
  refine ev_s C dX6_addService_7 (q := 8) rfl rfl ?_
  refine ev_s C dX6_addService_8 (q := 10) rfl rfl ?_
  refine ev_icmp_eq C dX6_addService_10 (tgt := 29) (q := 13) (by decide) rfl (by first | decide | (unfold rg; omega) | assumption | exact bAnd_rg _ _) (by first | decide | (unfold rg; omega) | assumption | exact bAnd_rg _ _) (fun b0 => ?_) (fun b0 => ?_)
  · refine ev_s C dX6_addService_29 (q := 30) rfl rfl ?_
    refine ev_s C dX6_addService_30 (q := 31) rfl rfl ?_
    refine ev_s C dX6_addService_31 (q := 33) rfl rfl ?_
    refine ev_cS C dX6_addService_33 (q := 36) rfl km_X6_48 ks_X6_requireRange kc_X6_requireRange (c_X6_requireRange (by unfold rg; omega) (by unfold rg; decide) (by unfold rg; decide) hd) rfl rfl (by rw [hlv]; first | decide | omega) (by decide) (Nat.le_of_ble_eq_true rfl) (by first | exact Nat.zero_le _ | (rw [hmc]; decide) | (rw [hmc]; omega)) (by first | exact Nat.zero_le _ | (rw [hms]; decide) | (rw [hms]; omega)) ?_
    refine ev_s C dX6_addService_36 (q := 37) rfl rfl ?_
    refine cg_1000_4 C dX6_addService_37 kf_X6_40 (q := 40) rfl ?_
    refine ev_cV C dX6_addService_40 (q := 43) rfl km_X6_59 kv_Jx4a65c_size_8abf5 kc_Jx4a65c_size_8abf5 (c_size_s) rfl rfl vcJx4a65c rfl (by rw [hlv]; first | decide | omega) (by decide) (Nat.le_of_ble_eq_true rfl) (by first | exact Nat.zero_le _ | (rw [hmc]; decide) | (rw [hmc]; omega)) (by first | exact Nat.zero_le _ | (rw [hms]; decide) | (rw [hms]; omega)) ?_
    refine ev_s C dX6_addService_43 (q := 45) rfl rfl ?_
    refine ev_eqL (lv := [(0, vR (some 1000)), (1, vI w), (2, vI c), (3, vI d), (4, vI (n : Int))]) (by rw [hn]; rfl) ?_
    refine ev_s C dX6_addService_45 (q := 47) rfl rfl ?_
    refine ev_s C dX6_addService_47 (q := 49) rfl rfl ?_
    refine ev_icmp_lt C dX6_addService_49 (tgt := 62) (q := 52) (by decide) rfl (by first | decide | (unfold rg; omega) | assumption | exact bAnd_rg _ _) (by first | decide | (unfold rg; omega) | assumption | exact bAnd_rg _ _) (fun b1 => ?_) (fun b1 => ?_)
    · refine ev_s C dX6_addService_62 (q := 63) rfl rfl ?_
      refine cg_1000_4 C dX6_addService_63 kf_X6_40 (q := 66) rfl ?_
      refine ev_new (n := 2000 + n) C dX6_addService_66 kn_X6_68 (q := 69) rfl (by rw [mk_c (by omega), eS_s (by omega), if_neg (by omega)]) (by unfold fgn; omega) (by rw [hw]; exact Or.inl rfl) (by rw [hmc]; decide) (by rw [hms]; decide) rfl ?_
      refine ev_s C dX6_addService_69 (q := 70) rfl rfl ?_
      refine ev_s C dX6_addService_70 (q := 72) rfl rfl ?_
      refine ev_s C dX6_addService_72 (q := 73) rfl rfl ?_
      refine ev_s C dX6_addService_73 (q := 74) rfl rfl ?_
      refine ev_s C dX6_addService_74 (q := 75) rfl rfl ?_
      refine ev_s C dX6_addService_75 (q := 76) rfl rfl ?_
      refine ev_get C dX6_addService_76 kf_X6_12 (q := 79) rfl (by rw [gup_ne (by omega)]; rfl) rfl ?_
      refine ev_eqS (st := [vR (some 1001), vI d, vI c, vI w, vI (n : Int), vR (some (2000 + n)), vR (some (2000 + n)), vR (some 1011)]) rfl ?_
      refine ev_cIn C dX6_addService_79 (q := 82) rfl km_X6_70 ki_X4_init kc_X4_init (c_X4_init (G := (gup (mk u v g) (2000 + n) (.inl (7, sv0)))) (n := n) (w := w) (c := c) (d := d) hn6 (fun i hi => by rw [gup_ne (by omega), mk_c (by omega), eS_p, if_neg (by omega)]) (by omega) gup_self (by rw [gup_ne (by omega), mk_c (by omega), eS_a (by omega), if_neg (by omega)])) rfl rfl (by rw [hlv]; decide) (by decide) (Nat.le_of_ble_eq_true rfl) (by rw [hmc]; decide) (by rw [hms]; decide) (by rw [hw]; unfold nwA nwS; intro m h; omega) (nvA_c (nv_R (by unfold nwS; omega)) (nvA_c nv_I (nvA_c nv_I (nvA_c nv_I (nvA_c nv_I nvA_0))))) (nvB_c (nv_R' (by unfold nwS; omega)) (nvB_c (nv_R' (by unfold nwS; omega)) nvB_0)) ?_
      refine ev_eq (G := (asG (mk u v g) n (svN n w c d) (some (arN n 8)) 8)) asG_gup ?_
      have o1 : ∀ m, m < 2000 → (asG (mk u v g) n (svN n w c d) (some (arN n 8)) 8) m = mk u v g m := fun m hm => asG_o (by omega) (by omega) (by omega)
      rcases hcap with hcap | hcap
      · obtain rfl : n = 0 := by omega
        refine ev_cVn C dX6_addService_82 (q := 85) rfl km_X6_73 kv_Jx4a65c_add_9ea2d kc_Jx4a65c_add_9ea2d (c_addSb (m := u.1 13) (x := 2000 + 0) (fs := svN 0 w c d) (by rw [o1 _ (by decide)]; show some (Sum.inl (2, [vI (u.1 13), vR (some (if u.1 15 = 0 then 1013 else 1012)), vI (u.1 14)])) = _; rw [hcap, hn]; try rfl) (by rw [o1 _ (by decide)]; show (if u.1 15 = 0 then none else _) = _; rw [hcap]; rfl) asG_s (by decide)) rfl rfl vcJx4a65c (by rw [o1 _ (by decide)]; show some (Sum.inl (2, [vI (u.1 13), vR (some (if u.1 15 = 0 then 1013 else 1012)), vI (u.1 14)])) = _; rw [hcap, hn]; try rfl) (by rw [hlv]; decide) (by decide) (Nat.le_of_ble_eq_true rfl) (by rw [hmc]; decide) (by rw [hms]; decide) (by rw [hw]; unfold nwA nw12; intro m h; omega) (nvA_c (nv_R (by unfold nw12; decide)) (nvA_c nv_I (nvA_c nv_I (nvA_c nv_I (nvA_c nv_I nvA_0))))) nvB_0 ?_
        refine ev_eq (G := mk (asC u 0 w c d) v g) (asC_b hn hcap) ?_
        refine ev_s C dX6_addService_85 (q := 86) rfl rfl ?_
        refine ev_s C dX6_addService_86 (q := 88) rfl rfl ?_
        exact ev_iret C hr dX6_addService_88 (by rw [hmc]; decide) (by rw [hms]; decide) (po_1 hPo rfl rfl)
      · refine ev_cVn C dX6_addService_82 (q := 85) rfl km_X6_73 kv_Jx4a65c_add_9ea2d kc_Jx4a65c_add_9ea2d (c_addSa (m := u.1 13) (s := (n : Int)) (x := 2000 + n) (cap := 10) (f := svF u) (fs := svN n w c d) (by rw [o1 _ (by decide)]; show some (Sum.inl (2, [vI (u.1 13), vR (some (if u.1 15 = 0 then 1013 else 1012)), vI (u.1 14)])) = _; rw [hcap, hn]; try rfl) (by rw [o1 _ (by decide)]; show (if u.1 15 = 0 then none else _) = _; rw [hcap]; rfl) asG_s (by omega) (by decide) (by omega)) rfl rfl vcJx4a65c (by rw [o1 _ (by decide)]; show some (Sum.inl (2, [vI (u.1 13), vR (some (if u.1 15 = 0 then 1013 else 1012)), vI (u.1 14)])) = _; rw [hcap, hn]; try rfl) (by rw [hlv]; decide) (by decide) (Nat.le_of_ble_eq_true rfl) (by rw [hmc]; decide) (by rw [hms]; decide) (by rw [hw]; unfold nwA nw12; intro m h; omega) (nvA_c (nv_R (by unfold nw12; decide)) (nvA_c nv_I (nvA_c nv_I (nvA_c nv_I (nvA_c nv_I nvA_0))))) nvB_0 ?_
        refine ev_eq (G := mk (asC u n w c d) v g) (asC_a hn hn6 hcap) ?_
        refine ev_s C dX6_addService_85 (q := 86) rfl rfl ?_
        refine ev_s C dX6_addService_86 (q := 88) rfl rfl ?_
        exact ev_iret C hr dX6_addService_88 (by rw [hmc]; decide) (by rw [hms]; decide) (po_1 hPo rfl rfl)
    · exfalso; omega
  · refine ev_s C dX6_addService_13 (q := 14) rfl rfl ?_
    refine ev_s C dX6_addService_14 (q := 16) rfl rfl ?_
    refine ev_icmp_eq C dX6_addService_16 (tgt := 29) (q := 19) (by decide) rfl (by first | decide | (unfold rg; omega) | assumption | exact bAnd_rg _ _) (by first | decide | (unfold rg; omega) | assumption | exact bAnd_rg _ _) (fun b2 => ?_) (fun b2 => ?_)
    · refine ev_s C dX6_addService_29 (q := 30) rfl rfl ?_
      refine ev_s C dX6_addService_30 (q := 31) rfl rfl ?_
      refine ev_s C dX6_addService_31 (q := 33) rfl rfl ?_
      refine ev_cS C dX6_addService_33 (q := 36) rfl km_X6_48 ks_X6_requireRange kc_X6_requireRange (c_X6_requireRange (by unfold rg; omega) (by unfold rg; decide) (by unfold rg; decide) hd) rfl rfl (by rw [hlv]; first | decide | omega) (by decide) (Nat.le_of_ble_eq_true rfl) (by first | exact Nat.zero_le _ | (rw [hmc]; decide) | (rw [hmc]; omega)) (by first | exact Nat.zero_le _ | (rw [hms]; decide) | (rw [hms]; omega)) ?_
      refine ev_s C dX6_addService_36 (q := 37) rfl rfl ?_
      refine cg_1000_4 C dX6_addService_37 kf_X6_40 (q := 40) rfl ?_
      refine ev_cV C dX6_addService_40 (q := 43) rfl km_X6_59 kv_Jx4a65c_size_8abf5 kc_Jx4a65c_size_8abf5 (c_size_s) rfl rfl vcJx4a65c rfl (by rw [hlv]; first | decide | omega) (by decide) (Nat.le_of_ble_eq_true rfl) (by first | exact Nat.zero_le _ | (rw [hmc]; decide) | (rw [hmc]; omega)) (by first | exact Nat.zero_le _ | (rw [hms]; decide) | (rw [hms]; omega)) ?_
      refine ev_s C dX6_addService_43 (q := 45) rfl rfl ?_
      refine ev_eqL (lv := [(0, vR (some 1000)), (1, vI w), (2, vI c), (3, vI d), (4, vI (n : Int))]) (by rw [hn]; rfl) ?_
      refine ev_s C dX6_addService_45 (q := 47) rfl rfl ?_
      refine ev_s C dX6_addService_47 (q := 49) rfl rfl ?_
      refine ev_icmp_lt C dX6_addService_49 (tgt := 62) (q := 52) (by decide) rfl (by first | decide | (unfold rg; omega) | assumption | exact bAnd_rg _ _) (by first | decide | (unfold rg; omega) | assumption | exact bAnd_rg _ _) (fun b3 => ?_) (fun b3 => ?_)
      · refine ev_s C dX6_addService_62 (q := 63) rfl rfl ?_
        refine cg_1000_4 C dX6_addService_63 kf_X6_40 (q := 66) rfl ?_
        refine ev_new (n := 2000 + n) C dX6_addService_66 kn_X6_68 (q := 69) rfl (by rw [mk_c (by omega), eS_s (by omega), if_neg (by omega)]) (by unfold fgn; omega) (by rw [hw]; exact Or.inl rfl) (by rw [hmc]; decide) (by rw [hms]; decide) rfl ?_
        refine ev_s C dX6_addService_69 (q := 70) rfl rfl ?_
        refine ev_s C dX6_addService_70 (q := 72) rfl rfl ?_
        refine ev_s C dX6_addService_72 (q := 73) rfl rfl ?_
        refine ev_s C dX6_addService_73 (q := 74) rfl rfl ?_
        refine ev_s C dX6_addService_74 (q := 75) rfl rfl ?_
        refine ev_s C dX6_addService_75 (q := 76) rfl rfl ?_
        refine ev_get C dX6_addService_76 kf_X6_12 (q := 79) rfl (by rw [gup_ne (by omega)]; rfl) rfl ?_
        refine ev_eqS (st := [vR (some 1001), vI d, vI c, vI w, vI (n : Int), vR (some (2000 + n)), vR (some (2000 + n)), vR (some 1011)]) rfl ?_
        refine ev_cIn C dX6_addService_79 (q := 82) rfl km_X6_70 ki_X4_init kc_X4_init (c_X4_init (G := (gup (mk u v g) (2000 + n) (.inl (7, sv0)))) (n := n) (w := w) (c := c) (d := d) hn6 (fun i hi => by rw [gup_ne (by omega), mk_c (by omega), eS_p, if_neg (by omega)]) (by omega) gup_self (by rw [gup_ne (by omega), mk_c (by omega), eS_a (by omega), if_neg (by omega)])) rfl rfl (by rw [hlv]; decide) (by decide) (Nat.le_of_ble_eq_true rfl) (by rw [hmc]; decide) (by rw [hms]; decide) (by rw [hw]; unfold nwA nwS; intro m h; omega) (nvA_c (nv_R (by unfold nwS; omega)) (nvA_c nv_I (nvA_c nv_I (nvA_c nv_I (nvA_c nv_I nvA_0))))) (nvB_c (nv_R' (by unfold nwS; omega)) (nvB_c (nv_R' (by unfold nwS; omega)) nvB_0)) ?_
        refine ev_eq (G := (asG (mk u v g) n (svN n w c d) (some (arN n 8)) 8)) asG_gup ?_
        have o1 : ∀ m, m < 2000 → (asG (mk u v g) n (svN n w c d) (some (arN n 8)) 8) m = mk u v g m := fun m hm => asG_o (by omega) (by omega) (by omega)
        rcases hcap with hcap | hcap
        · obtain rfl : n = 0 := by omega
          refine ev_cVn C dX6_addService_82 (q := 85) rfl km_X6_73 kv_Jx4a65c_add_9ea2d kc_Jx4a65c_add_9ea2d (c_addSb (m := u.1 13) (x := 2000 + 0) (fs := svN 0 w c d) (by rw [o1 _ (by decide)]; show some (Sum.inl (2, [vI (u.1 13), vR (some (if u.1 15 = 0 then 1013 else 1012)), vI (u.1 14)])) = _; rw [hcap, hn]; try rfl) (by rw [o1 _ (by decide)]; show (if u.1 15 = 0 then none else _) = _; rw [hcap]; rfl) asG_s (by decide)) rfl rfl vcJx4a65c (by rw [o1 _ (by decide)]; show some (Sum.inl (2, [vI (u.1 13), vR (some (if u.1 15 = 0 then 1013 else 1012)), vI (u.1 14)])) = _; rw [hcap, hn]; try rfl) (by rw [hlv]; decide) (by decide) (Nat.le_of_ble_eq_true rfl) (by rw [hmc]; decide) (by rw [hms]; decide) (by rw [hw]; unfold nwA nw12; intro m h; omega) (nvA_c (nv_R (by unfold nw12; decide)) (nvA_c nv_I (nvA_c nv_I (nvA_c nv_I (nvA_c nv_I nvA_0))))) nvB_0 ?_
          refine ev_eq (G := mk (asC u 0 w c d) v g) (asC_b hn hcap) ?_
          refine ev_s C dX6_addService_85 (q := 86) rfl rfl ?_
          refine ev_s C dX6_addService_86 (q := 88) rfl rfl ?_
          exact ev_iret C hr dX6_addService_88 (by rw [hmc]; decide) (by rw [hms]; decide) (po_1 hPo rfl rfl)
        · refine ev_cVn C dX6_addService_82 (q := 85) rfl km_X6_73 kv_Jx4a65c_add_9ea2d kc_Jx4a65c_add_9ea2d (c_addSa (m := u.1 13) (s := (n : Int)) (x := 2000 + n) (cap := 10) (f := svF u) (fs := svN n w c d) (by rw [o1 _ (by decide)]; show some (Sum.inl (2, [vI (u.1 13), vR (some (if u.1 15 = 0 then 1013 else 1012)), vI (u.1 14)])) = _; rw [hcap, hn]; try rfl) (by rw [o1 _ (by decide)]; show (if u.1 15 = 0 then none else _) = _; rw [hcap]; rfl) asG_s (by omega) (by decide) (by omega)) rfl rfl vcJx4a65c (by rw [o1 _ (by decide)]; show some (Sum.inl (2, [vI (u.1 13), vR (some (if u.1 15 = 0 then 1013 else 1012)), vI (u.1 14)])) = _; rw [hcap, hn]; try rfl) (by rw [hlv]; decide) (by decide) (Nat.le_of_ble_eq_true rfl) (by rw [hmc]; decide) (by rw [hms]; decide) (by rw [hw]; unfold nwA nw12; intro m h; omega) (nvA_c (nv_R (by unfold nw12; decide)) (nvA_c nv_I (nvA_c nv_I (nvA_c nv_I (nvA_c nv_I nvA_0))))) nvB_0 ?_
          refine ev_eq (G := mk (asC u n w c d) v g) (asC_a hn hn6 hcap) ?_
          refine ev_s C dX6_addService_85 (q := 86) rfl rfl ?_
          refine ev_s C dX6_addService_86 (q := 88) rfl rfl ?_
          exact ev_iret C hr dX6_addService_88 (by rw [hmc]; decide) (by rw [hms]; decide) (po_1 hPo rfl rfl)
      · exfalso; omega
    · exfalso; omega
