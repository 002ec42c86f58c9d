/-! THE LISTS: what grows and goes -/
theorem gup_gup {G : GH} {n : Nat} {c d : AC} : gup (gup G n c) n d = gup G n d := by
  funext m
  unfold gup
  by_cases e : m = n <;> simp [e]
theorem con_k2 {y : MethodName} {cc : ByteArray} {nL : Nat} {ret : Option FieldType} {lev mc ms : Nat} {nw : Nat → Prop} {av : List AV} {G : GH} {r : Rs} {lv : List (Nat × AV)} (hy : plainName y.cls = true) (hnw : ¬ nw 1013 ∧ ¬ nw 500 ∧ ¬ nw 1014) (hlen : ∀ ad, (lg_sl (av.map (cv ad))).length ≤ nL) (hlv : ∀ ad, lv_args 0 (av.map (cv ad)) = cvl ad lv) (hlo : lv.map Prod.snd = av)
    (body : ∀ k : Kx, CX k y.cls cc nL → (kmeth k).sig.returnType = ret → kG k = G → klev k = lev → kmc k = mc → kms k = ms → knw k = nw → kPo k = PoR r → kPx k = PxR r → (∀ x ∈ (kc k).exceptionTable.toList, False) → EV k 0 lv [] G 0 0) : Cn y (wsy y cc nL ret) lev mc ms nw av G r :=
  con_i hy hnw hlen hlv (fun q hq => by rw [← hlo]; exact List.mem_map_of_mem hq) (fun k C hr _ hG h1 h2 h3 hw h4 h5 h6 => body k C hr hG h1 h2 h3 hw h4 h5 h6)
def bcE (x : Int) : Int :=
  let a := x - bAnd (bUshr x 1) 1431655765
  let b := bAnd a 858993459 + bAnd (bUshr a 2) 858993459
  let c := bAnd (b + bUshr b 4) 252645135
  let d := c + bUshr c 8
  let e := d + bUshr d 16
  bAnd e 63
set_option maxHeartbeats 4000000 in
set_option maxRecDepth 100000 in
theorem c_J6_bitCount_0f7a4 {G : GH} {x : Int} : Cn yJ6_bitCount_0f7a4 (wsy yJ6_bitCount_0f7a4 cJ6_bitCount_0f7a4 1 (some .int)) 0 0 0 nn [vI x] G (.inl (some (vI (bcE x)), G)) := by
  refine con_j (lv := [(0, vI x)]) (by decide) (fun ad => Nat.le_of_ble_eq_true rfl) (fun ad => rfl) rfl ?_
  intro k C hr hlv hmc hms hPo hPx htab
  refine ev_s C dJ6_bitCount_0f7a4_0 (q := 1) rfl rfl ?_
  refine ev_s C dJ6_bitCount_0f7a4_1 (q := 2) rfl rfl ?_
  refine ev_s C dJ6_bitCount_0f7a4_2 (q := 3) rfl rfl ?_
  refine ev_s C dJ6_bitCount_0f7a4_3 (q := 4) rfl rfl ?_
  refine ev_ldcwI (v := 1431655765) C dJ6_bitCount_0f7a4_4 (q := 7) rfl kk_J6_265 (by decide) ?_
  refine ev_s C dJ6_bitCount_0f7a4_7 (q := 8) rfl rfl ?_
  refine ev_s C dJ6_bitCount_0f7a4_8 (q := 9) rfl rfl ?_
  refine ev_s C dJ6_bitCount_0f7a4_9 (q := 10) rfl rfl ?_
  refine ev_s C dJ6_bitCount_0f7a4_10 (q := 11) rfl rfl ?_
  refine ev_ldcwI (v := 858993459) C dJ6_bitCount_0f7a4_11 (q := 14) rfl kk_J6_266 (by decide) ?_
  refine ev_s C dJ6_bitCount_0f7a4_14 (q := 15) rfl rfl ?_
  refine ev_s C dJ6_bitCount_0f7a4_15 (q := 16) rfl rfl ?_
  refine ev_s C dJ6_bitCount_0f7a4_16 (q := 17) rfl rfl ?_
  refine ev_s C dJ6_bitCount_0f7a4_17 (q := 18) rfl rfl ?_
  refine ev_ldcwI (v := 858993459) C dJ6_bitCount_0f7a4_18 (q := 21) rfl kk_J6_266 (by decide) ?_
  refine ev_s C dJ6_bitCount_0f7a4_21 (q := 22) rfl rfl ?_
  refine ev_s C dJ6_bitCount_0f7a4_22 (q := 23) rfl rfl ?_
  refine ev_s C dJ6_bitCount_0f7a4_23 (q := 24) rfl rfl ?_
  refine ev_s C dJ6_bitCount_0f7a4_24 (q := 25) rfl rfl ?_
  refine ev_s C dJ6_bitCount_0f7a4_25 (q := 26) rfl rfl ?_
  refine ev_s C dJ6_bitCount_0f7a4_26 (q := 27) rfl rfl ?_
  refine ev_s C dJ6_bitCount_0f7a4_27 (q := 28) rfl rfl ?_
  refine ev_s C dJ6_bitCount_0f7a4_28 (q := 29) rfl rfl ?_
  refine ev_ldcwI (v := 252645135) C dJ6_bitCount_0f7a4_29 (q := 32) rfl kk_J6_267 (by decide) ?_
  refine ev_s C dJ6_bitCount_0f7a4_32 (q := 33) rfl rfl ?_
  refine ev_s C dJ6_bitCount_0f7a4_33 (q := 34) rfl rfl ?_
  refine ev_s C dJ6_bitCount_0f7a4_34 (q := 35) rfl rfl ?_
  refine ev_s C dJ6_bitCount_0f7a4_35 (q := 36) rfl rfl ?_
  refine ev_s C dJ6_bitCount_0f7a4_36 (q := 38) rfl rfl ?_
  refine ev_s C dJ6_bitCount_0f7a4_38 (q := 39) rfl rfl ?_
  refine ev_s C dJ6_bitCount_0f7a4_39 (q := 40) rfl rfl ?_
  refine ev_s C dJ6_bitCount_0f7a4_40 (q := 41) rfl rfl ?_
  refine ev_s C dJ6_bitCount_0f7a4_41 (q := 42) rfl rfl ?_
  refine ev_s C dJ6_bitCount_0f7a4_42 (q := 43) rfl rfl ?_
  refine ev_s C dJ6_bitCount_0f7a4_43 (q := 45) rfl rfl ?_
  refine ev_s C dJ6_bitCount_0f7a4_45 (q := 46) rfl rfl ?_
  refine ev_s C dJ6_bitCount_0f7a4_46 (q := 47) rfl rfl ?_
  refine ev_s C dJ6_bitCount_0f7a4_47 (q := 48) rfl rfl ?_
  refine ev_s C dJ6_bitCount_0f7a4_48 (q := 49) rfl rfl ?_
  refine ev_s C dJ6_bitCount_0f7a4_49 (q := 51) rfl rfl ?_
  refine ev_s C dJ6_bitCount_0f7a4_51 (q := 52) rfl rfl ?_
  exact ev_iret C hr dJ6_bitCount_0f7a4_52 (Nat.zero_le _) (Nat.zero_le _) (po_1 hPo rfl rfl)
set_option maxHeartbeats 4000000 in
set_option maxRecDepth 100000 in
theorem c_J8_newLength_cabcc {G : GH} {x y z : Int} (hx : 0 ≤ x ∧ x ≤ 1000) (hy : 1 ≤ y ∧ y ≤ 1000) (hz : 0 ≤ z ∧ z ≤ 1000) : Cn yJ8_newLength_cabcc (wsy yJ8_newLength_cabcc cJ8_newLength_cabcc 4 (some .int)) 0 0 0 nn [vI x, vI y, vI z] G (.inl (some (vI (x + (if y < z then z else y))), G)) := by
  refine con_j (lv := [(0, vI x), (1, vI y), (2, vI z)]) (by decide) (fun ad => Nat.le_of_ble_eq_true rfl) (fun ad => rfl) rfl ?_
  intro k C hr hlv hmc hms hPo hPx htab
  refine ev_s C dJ8_newLength_cabcc_0 (q := 1) rfl rfl ?_
  refine ev_s C dJ8_newLength_cabcc_1 (q := 2) rfl rfl ?_
  refine ev_s C dJ8_newLength_cabcc_2 (q := 3) rfl rfl ?_
  refine ev_mmax C dJ8_newLength_cabcc_3 (q := 6) rfl km_J8_194 (by first | decide | (unfold rg; split <;> omega) | (unfold rg; omega) | (unfold rg; decide)) (by first | decide | (unfold rg; split <;> omega) | (unfold rg; omega) | (unfold rg; decide)) (Nat.le_of_ble_eq_true rfl) (by first | exact Nat.zero_le _ | (rw [hmc]; decide) | (rw [hmc]; omega)) (by first | exact Nat.zero_le _ | (rw [hms]; decide) | (rw [hms]; omega)) ?_
  refine ev_s C dJ8_newLength_cabcc_6 (q := 7) rfl rfl ?_
  refine ev_s C dJ8_newLength_cabcc_7 (q := 8) rfl rfl ?_
  refine ev_s C dJ8_newLength_cabcc_8 (q := 9) rfl rfl ?_
  refine ev_s C dJ8_newLength_cabcc_9 (q := 10) rfl rfl ?_
  refine ev_icmp_ge C dJ8_newLength_cabcc_10 (tgt := 21) (q := 13) (by decide) rfl (by first | decide | (unfold rg; split <;> omega) | (unfold rg; omega) | (unfold rg; decide)) (by first | decide | (unfold rg; split <;> omega) | (unfold rg; omega) | (unfold rg; decide)) (fun b0 => ?_) (fun b0 => ?_)
  · exfalso; revert b0; split <;> omega
  · refine ev_s C dJ8_newLength_cabcc_13 (q := 14) rfl rfl ?_
    refine ev_ldcI (v := 2147483639) C dJ8_newLength_cabcc_14 (q := 16) rfl kk_J8_200 (by decide) ?_
    refine ev_icmp_gt C dJ8_newLength_cabcc_16 (tgt := 21) (q := 19) (by decide) rfl (by first | decide | (unfold rg; split <;> omega) | (unfold rg; omega) | (unfold rg; decide)) (by first | decide | (unfold rg; split <;> omega) | (unfold rg; omega) | (unfold rg; decide)) (fun b1 => ?_) (fun b1 => ?_)
    · exfalso; revert b1; split <;> omega
    · refine ev_s C dJ8_newLength_cabcc_19 (q := 20) rfl rfl ?_
      exact ev_iret C hr dJ8_newLength_cabcc_20 (Nat.zero_le _) (Nat.zero_le _) (po_1 hPo rfl rfl)
section CY
variable {k : Kx} {own : String} {cc : ByteArray} {nL : Nat} {pc q tgt : Nat} {lv lv' : List (Nat × AV)} {st st' : List AV} {G G' : GH} {ct sl : Nat}
theorem ev_acmp_nes {off : Int} {r : Option Nat} (C : CX k own cc nL) (hd : decode cc pc = .ok (.if_acmp .ne off, 3)) (ht : (pc : Int) + off = (tgt : Int)) (hq : pc + 3 = q) (kf : EV k q lv st G ct sl) : EV k pc lv (vR r :: vR r :: st) G ct sl := by
  subst hq
  intro hO ad H locs ls hM hl
  exact lv_acmp_ne C.1 C.2.1 hd ht (fun h => absurd rfl h) (fun _ => kf (oks_pop1 (oks_pop1 hO)) ad H locs ls hM hl)
end CY
def nwT : Nat → Prop := fun n => n = 1099
def nwG : Nat → Prop := fun n => n = 1008 ∨ n = 1099
/-- what may be copied: pages alone, that lie in the heap -/
def elP (G : GH) (f : Nat → AV) (L : Nat) : Prop := ∀ i : Nat, i < L → f i = vR none ∨ ∃ (y : Nat) (fs : List AV), f i = vR (some y) ∧ G y = some (.inl (5, fs))
theorem elP_el {G : GH} {f : Nat → AV} {L : Nat} (h : elP G f L) (i : Nat) (hi : i < L) : f i = vR none ∨ ∃ (y ci N : Nat) (fs : List AV) (Cn : String) (T : u_T), f i = vR (some y) ∧ G y = some (.inl (ci, fs)) ∧ vwCl[ci]? = some (Cn, T, N) ∧ (Cn, "java/lang/Object") ∈ cstl0 := by
  rcases h i hi with h | ⟨y, fs, h1, h2⟩
  · exact Or.inl h
  · exact Or.inr ⟨y, 5, _, fs, _, _, h1, h2, vcX2, by decide⟩
def nulF : Nat → AV := fun _ => vR none
def nvA (nw : Nat → Prop) : List (Nat × AV) → Prop
  | [] => True
  | q :: r => nov nw q.2 ∧ nvA nw r
def nvB (nw : Nat → Prop) : List AV → Prop
  | [] => True
  | q :: r => nov nw q ∧ nvB nw r
theorem nvA_m {nw : Nat → Prop} : ∀ {lv : List (Nat × AV)}, nvA nw lv → ∀ a ∈ lv, nov nw a.2
  | [], _, a, h => nomatch h
  | q :: r, h, a, ha => (List.mem_cons.mp ha).elim (fun e => e ▸ h.1) (nvA_m h.2 a)
theorem nvB_m {nw : Nat → Prop} : ∀ {st : List AV}, nvB nw st → ∀ a ∈ st, nov nw a
  | [], _, a, h => nomatch h
  | q :: r, h, a, ha => (List.mem_cons.mp ha).elim (fun e => e ▸ h.1) (nvB_m h.2 a)
theorem nvA_0 {nw : Nat → Prop} : nvA nw [] := trivial
theorem nvB_0 {nw : Nat → Prop} : nvB nw [] := trivial
theorem nvA_c {nw : Nat → Prop} {q : Nat × AV} {r : List (Nat × AV)} (h1 : nov nw q.2) (h2 : nvA nw r) : nvA nw (q :: r) := ⟨h1, h2⟩
theorem nvB_c {nw : Nat → Prop} {q : AV} {r : List AV} (h1 : nov nw q) (h2 : nvB nw r) : nvB nw (q :: r) := ⟨h1, h2⟩
theorem nv_I {nw : Nat → Prop} {i : Nat} {x : Int} : nov nw ((i, vI x) : Nat × AV).2 := fun _ h => nomatch h
theorem nv_L {nw : Nat → Prop} {i : Nat} {x : Int} : nov nw ((i, vL x) : Nat × AV).2 := fun _ h => nomatch h
theorem nv_N {nw : Nat → Prop} {i : Nat} : nov nw ((i, vR none) : Nat × AV).2 := fun _ h => nomatch h
theorem nv_R {nw : Nat → Prop} {i n : Nat} (h : ¬ nw n) : nov nw ((i, vR (some n)) : Nat × AV).2 := fun _ e => by cases e; exact h
theorem nv_I' {nw : Nat → Prop} {x : Int} : nov nw (vI x) := fun _ h => nomatch h
theorem nv_L' {nw : Nat → Prop} {x : Int} : nov nw (vL x) := fun _ h => nomatch h
theorem nv_N' {nw : Nat → Prop} : nov nw (vR none) := fun _ h => nomatch h
theorem nv_R' {nw : Nat → Prop} {n : Nat} (h : ¬ nw n) : nov nw (vR (some n)) := fun _ e => by cases e; exact h
theorem px_F {x : Option AV × GH} : PxR (.inl x) = fun _ _ => False := by
  funext E G
  exact propext ⟨fun h => (nomatch h), False.elim⟩
section CN
variable {k : Kx} {own : String} {cc : ByteArray} {nL : Nat} {pc q tgt : Nat} {lv lv' : List (Nat × AV)} {st st' : List AV} {G G' : GH} {ct sl : Nat}
theorem ev_keep (is : List Nat) (h : lv.filter (fun a => is.contains a.1) = lv') (kk : EV k pc lv' st G ct sl) : EV k pc lv st G ct sl := ev_less (fun a ha => by rw [← h] at ha; exact (List.mem_filter.mp ha).1) kk
theorem ev_cVn {y : MethodName} {bytes : ByteArray} {maxL lev mc ms index na n ci : Nat} {ret : Option FieldType} {nwc : Nat → Prop} {As : List AV} {r : Option AV} {G1 : GH} {fs : List AV} {T : u_T} {N : Nat} {st0 : List AV} (C : CX k own cc nL) (hd : decode cc pc = .ok (.invokevirtual index, 3)) (hq : pc + 3 = q)
    (Mk : MLk own index y na) (Mv : MLv y) (hcode : Cond.code y bytes maxL ret ∈ lw_good) (M : Cn y (wsy y bytes maxL ret) lev mc ms nwc (vR (some n) :: As) G (.inl (r, G1))) (hst : st0 = As.reverse ++ vR (some n) :: st) (hna : As.length = na) (hci : vwCl[ci]? = some (y.cls, T, N)) (hG : G n = some (.inl (ci, fs)))
    (hlev : lev < klev k) (hml : maxL ≤ 41) (hw : wdt st ≤ 8) (hct : ct + mc ≤ kmc k) (hsl : sl + ms ≤ kms k) (hn : ∀ m, nwc m → knw k m) (hv1 : nvA nwc lv) (hv2 : nvB nwc st) (kk : EV k q lv (stk r st) G1 (ct + mc) (sl + ms)) : EV k pc lv st0 G ct sl :=
  ev_callV C hd hq Mk Mv hcode M hst hna hci hG hlev hml hw hct hsl hn (nvA_m hv1) (nvB_m hv2) (fun E G' h => nomatch h) (fun r' G' h => by cases h; rw [stk_eq]; exact kk)
theorem ev_cSn {y : MethodName} {bytes : ByteArray} {maxL lev mc ms index na : Nat} {ret : Option FieldType} {nwc : Nat → Prop} {As : List AV} {r : Option AV} {G1 : GH} {st0 : List AV} (C : CX k own cc nL) (hd : decode cc pc = .ok (.invokestatic index, 3)) (hq : pc + 3 = q)
    (Mk : MLk own index y na) (Ms : Cond.static y ∈ lw_good) (hcode : Cond.code y bytes maxL ret ∈ lw_good) (M : Cn y (wsy y bytes maxL ret) lev mc ms nwc As G (.inl (r, G1))) (hst : st0 = As.reverse ++ st) (hna : As.length = na)
    (hlev : lev < klev k) (hml : maxL ≤ 41) (hw : wdt st ≤ 8) (hct : ct + mc ≤ kmc k) (hsl : sl + ms ≤ kms k) (hn : ∀ m, nwc m → knw k m) (hv1 : nvA nwc lv) (hv2 : nvB nwc st) (kk : EV k q lv (stk r st) G1 (ct + mc) (sl + ms)) : EV k pc lv st0 G ct sl :=
  ev_callS C hd hq Mk Ms hcode M hst hna hlev hml hw hct hsl hn (nvA_m hv1) (nvB_m hv2) (fun E G' h => nomatch h) (fun r' G' h => by cases h; rw [stk_eq]; exact kk)
theorem ev_cIn {y : MethodName} {bytes : ByteArray} {maxL lev mc ms index na n : Nat} {nwc : Nat → Prop} {As : List AV} {G1 : GH} {st0 : List AV} (C : CX k own cc nL) (hd : decode cc pc = .ok (.invokespecial index, 3)) (hq : pc + 3 = q)
    (Mk : MLk own index y na) (Mi : Cond.instanceMethod y ∈ lw_good ∧ y.name = "<init>") (hcode : Cond.code y bytes maxL none ∈ lw_good) (M : Cn y (wsy y bytes maxL none) lev mc ms nwc (vR (some n) :: As) G (.inl (none, G1))) (hst : st0 = As.reverse ++ vR (some n) :: st) (hna : As.length = na)
    (hlev : lev < klev k) (hml : maxL ≤ 41) (hw : wdt st ≤ 8) (hct : ct + mc ≤ kmc k) (hsl : sl + ms ≤ kms k) (hn : ∀ m, nwc m → knw k m) (hv1 : nvA nwc lv) (hv2 : nvB nwc st) (kk : EV k q lv st G1 (ct + mc) (sl + ms)) : EV k pc lv st0 G ct sl :=
  ev_callI C hd hq Mk Mi hcode (px_F (x := (none, G1)) ▸ (show Con y (wsy y bytes maxL none) lev mc ms nwc (vR (some n) :: As) G (PoR (.inl (none, G1))) (PxR (.inl (none, G1))) from M)) hst hna hlev hml hw hct hsl hn (nvA_m hv1) (nvB_m hv2) (fun r' G' h => by cases h; exact kk)
theorem ev_cINn {y : MethodName} {host : String} {bytes : ByteArray} {maxL lev mc ms index na n : Nat} {nwc : Nat → Prop} {As : List AV} {G1 : GH} {st0 : List AV} (C : CX k "Swapyard" cc nL) (hd : decode cc pc = .ok (.invokespecial index, 3)) (hq : pc + 3 = q)
    (Mn : (index, y, host) ∈ nst0) (Mk : Cond.initialized y.cls ∈ lw_good ∧ (y.cls ≠ "java/lang/invoke/MethodHandle" ∧ y.cls ≠ "java/lang/invoke/VarHandle" ∧ (parseMethodDescriptor y.desc).map (fun d => d.parameters.length) = some na)) (Mi : Cond.instanceMethod y ∈ lw_good ∧ y.name = "<init>") (hcode : Cond.code y bytes maxL none ∈ lw_good) (M : Cn y (wsy y bytes maxL none) lev mc ms nwc (vR (some n) :: As) G (.inl (none, G1))) (hst : st0 = As.reverse ++ vR (some n) :: st) (hna : As.length = na)
    (hlev : lev < klev k) (hml : maxL ≤ 41) (hw : wdt st ≤ 8) (hct : ct + mc ≤ kmc k) (hsl : sl + ms ≤ kms k) (hn : ∀ m, nwc m → knw k m) (hv1 : nvA nwc lv) (hv2 : nvB nwc st) (kk : EV k q lv st G1 (ct + mc) (sl + ms)) : EV k pc lv st0 G ct sl :=
  ev_callIN C hd hq Mn Mk Mi hcode (px_F (x := (none, G1)) ▸ (show Con y (wsy y bytes maxL none) lev mc ms nwc (vR (some n) :: As) G (PoR (.inl (none, G1))) (PxR (.inl (none, G1))) from M)) hst hna hlev hml hw hct hsl hn (nvA_m hv1) (nvB_m hv2) (fun r' G' h => by cases h; exact kk)
end CN
set_option maxHeartbeats 4000000 in
set_option maxRecDepth 100000 in
theorem c_J7_copyOf_6403c {G : GH} {N L : Nat} {f : Nat → AV} (hG : G 1008 = some (.inr (6, L, f))) (hL : L ≤ N) (hN : N ≤ 73) (hf : elP G f L) (hn : G 1099 = none) : Cn yJ7_copyOf_6403c (wsy yJ7_copyOf_6403c cJ7_copyOf_6403c 4 (some (.array (.object "java/lang/Object")))) 1 1 73 nwT [vR (some 1008), vI (N : Int), vR (some 1014)] G (.inl (some (vR (some 1099)), gup G 1099 (.inr (6, N, va_cpy f nulF 0 0 L)))) := by
  refine con_k2 (lv := [(0, vR (some 1008)), (1, vI (N : Int)), (2, vR (some 1014))]) (by decide) (by unfold nwT; decide) (fun ad => Nat.le_of_ble_eq_true rfl) (fun ad => rfl) rfl ?_
  intro k C hr hkG hlv hmc hms hw hPo hPx htab
  refine ev_s C dJ7_copyOf_6403c_0 (q := 1) rfl rfl ?_
  refine ev_ldcM C dJ7_copyOf_6403c_1 (q := 3) rfl kl_J7_110 ?_
  refine ev_acmp_nes C dJ7_copyOf_6403c_3 (tgt := 13) (q := 6) (by decide) rfl ?_
  refine ev_s C dJ7_copyOf_6403c_6 (q := 7) rfl rfl ?_
  refine ev_anewa (t := 6) (N := N) (n := 1099) C dJ7_copyOf_6403c_7 (q := 10) rfl (Or.inr rfl) rfl kl_J7_2 rfl (by omega) hn (by unfold fgn; decide) (by rw [hw]; rfl) (by rw [hmc]; decide) (by rw [hms]; omega) rfl ?_
  have e8 : gup G 1099 (.inr (6, N, fun _ => vR none)) 1008 = some (.inr (6, L, f)) := by rw [gup_ne (by decide)]; exact hG
  have e9 : gup G 1099 (.inr (6, N, fun _ => vR none)) 1099 = some (.inr (6, N, fun _ => vR none)) := gup_self
  refine ev_goto C dJ7_copyOf_6403c_10 (tgt := 24) (by decide) ?_
  refine ev_s C dJ7_copyOf_6403c_24 (q := 25) rfl rfl ?_
  refine ev_s C dJ7_copyOf_6403c_25 (q := 26) rfl rfl ?_
  refine ev_s C dJ7_copyOf_6403c_26 (q := 27) rfl rfl ?_
  refine ev_s C dJ7_copyOf_6403c_27 (q := 28) rfl rfl ?_
  refine ev_s C dJ7_copyOf_6403c_28 (q := 29) rfl rfl ?_
  refine ev_s C dJ7_copyOf_6403c_29 (q := 30) rfl rfl ?_
  refine ev_alen C dJ7_copyOf_6403c_30 (q := 31) rfl e8 ?_
  refine ev_s C dJ7_copyOf_6403c_31 (q := 32) rfl rfl ?_
  refine ev_mmin C dJ7_copyOf_6403c_32 (q := 35) rfl km_J7_304 (by first | decide | (unfold rg; omega) | assumption | exact bAnd_rg _ _) (by first | decide | (unfold rg; omega) | assumption | exact bAnd_rg _ _) (Nat.le_of_ble_eq_true rfl) (by first | exact Nat.zero_le _ | (rw [hmc]; decide) | (rw [hmc]; omega)) (by first | exact Nat.zero_le _ | (rw [hms]; decide) | (rw [hms]; omega)) ?_
  rw [if_neg (by omega)]
  refine ev_acopy C dJ7_copyOf_6403c_35 (q := 38) rfl (q9 485 (by decide +kernel) (by decide +kernel)) e8 e9 (by omega) (by omega) (by decide) (by decide) (by omega) (by omega) (by omega) (fun i hi => ?_) (Nat.le_of_ble_eq_true rfl) rfl ?_
  · rcases hf i (by omega) with h | ⟨y, fs, h1, h2⟩
    · left; rw [show (0 : Int).toNat + i = i by simp]; exact h
    · right
      refine ⟨y, 5, _, fs, _, _, by rw [show (0 : Int).toNat + i = i by simp]; exact h1, ?_, vcX2, by decide⟩
      rw [gup_ne (fun e => by rw [e, hn] at h2; cases h2)]
      exact h2
  refine ev_eq (G := gup G 1099 (.inr (6, N, va_cpy f nulF 0 0 L))) (by rw [Int.toNat_natCast]; exact gup_gup) ?_
  refine ev_s C dJ7_copyOf_6403c_38 (q := 39) rfl rfl ?_
  exact ev_aret C hr (Or.inr ⟨_, rfl⟩) dJ7_copyOf_6403c_39 (by rw [hmc]; decide) (by rw [hms]; omega) (po_1 hPo rfl rfl)
set_option maxHeartbeats 4000000 in
set_option maxRecDepth 100000 in
theorem c_J7_copyOf_1904c {G : GH} {N L : Nat} {f : Nat → AV} (hG : G 1008 = some (.inr (6, L, f))) (hL : L ≤ N) (hN : N ≤ 73) (hf : elP G f L) (hn : G 1099 = none) : Cn yJ7_copyOf_1904c (wsy yJ7_copyOf_1904c cJ7_copyOf_1904c 2 (some (.array (.object "java/lang/Object")))) 2 1 73 nwT [vR (some 1008), vI (N : Int)] G (.inl (some (vR (some 1099)), gup G 1099 (.inr (6, N, va_cpy f nulF 0 0 L)))) := by
  refine con_k2 (lv := [(0, vR (some 1008)), (1, vI (N : Int))]) (by decide) (by unfold nwT; decide) (fun ad => Nat.le_of_ble_eq_true rfl) (fun ad => rfl) rfl ?_
  intro k C hr hkG hlv hmc hms hw hPo hPx htab
  refine ev_s C dJ7_copyOf_1904c_0 (q := 1) rfl rfl ?_
  refine ev_s C dJ7_copyOf_1904c_1 (q := 2) rfl rfl ?_
  refine ev_s C dJ7_copyOf_1904c_2 (q := 3) rfl rfl ?_
  refine ev_getC C dJ7_copyOf_1904c_3 (q := 6) rfl (q9 456 (by decide +kernel) (by decide +kernel)) (q9 1246 (by decide +kernel) (by decide +kernel)) (q9 457 (by decide +kernel) (by decide +kernel)) (q9 475 (by decide +kernel) (by decide +kernel)) (Nat.le_of_ble_eq_true rfl) hG ?_
  refine ev_cSn C dJ7_copyOf_1904c_6 (q := 9) rfl km_J7_300 ks_J7_copyOf_6403c kc_J7_copyOf_6403c (c_J7_copyOf_6403c hG hL hN hf hn) rfl rfl (by rw [hlv]; first | decide | omega) (by decide) (Nat.le_of_ble_eq_true rfl) (by first | exact Nat.zero_le _ | (rw [hmc]; decide) | (rw [hmc]; omega)) (by first | exact Nat.zero_le _ | (rw [hms]; decide) | (rw [hms]; omega)) (by rw [hw]; exact fun _ h => h) (by repeat' (first | exact nvA_0 | exact nvB_0 | apply nvA_c | apply nvB_c | exact nv_I | exact nv_L | exact nv_N | exact nv_R (by unfold nwT; omega) | exact nv_I' | exact nv_L' | exact nv_N' | exact nv_R' (by unfold nwT; omega))) (by repeat' (first | exact nvA_0 | exact nvB_0 | apply nvA_c | apply nvB_c | exact nv_I | exact nv_L | exact nv_N | exact nv_R (by unfold nwT; omega) | exact nv_I' | exact nv_L' | exact nv_N' | exact nv_R' (by unfold nwT; omega))) ?_
  exact ev_aret C hr (Or.inr ⟨_, rfl⟩) dJ7_copyOf_1904c_9 (by rw [hmc]; decide) (by rw [hms]; omega) (po_1 hPo rfl rfl)
