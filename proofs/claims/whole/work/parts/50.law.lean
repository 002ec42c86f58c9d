/-! THE LAW: its wrappers -/
def gO (p : Nat → Int) (q : Nat → UInt64) : GH := fun n => if n = 100 then some (.inr (1, 1, fun j => vL (p j))) else if n = 101 then some (.inr (4, 1, fun j => vD (q j))) else none
def pst (p : Nat → Int) (x : Int) : Nat → Int := fun j => if j = 0 then x else p j
def qst (p : Nat → UInt64) (x : UInt64) : Nat → UInt64 := fun j => if j = 0 then x else p j
def okn (nw : Nat → Prop) : Prop := ¬ nw 0 ∧ ¬ nw 100 ∧ ¬ nw 101 ∧ ¬ nw 500 ∧ ¬ nw 1000 ∧ ¬ nw 1013 ∧ ¬ nw 1014
theorem okn_nn : okn nn := ⟨fun h => h, fun h => h, fun h => h, fun h => h, fun h => h, fun h => h, fun h => h⟩
theorem okn_G : okn nwG := by unfold okn nwG; decide
theorem okn_A {n : Nat} (h : n < 6) : okn (nwA n) := by unfold okn nwA nwS; omega
theorem NR_gO (p : Nat → Int) (q : Nat → UInt64) : NR (gO p q) := by
  intro n c h b
  unfold gO at h
  split at h
  · cases h; intro j h2; cases h2
  · split at h
    · cases h; intro j h2; cases h2
    · cases h
theorem gO_p {u v : SS} {p : Nat → Int} {q : Nat → UInt64} {x : Int} : gup (mk u v (gO p q)) 100 (.inr (1, 1, vset (fun j => vL (p j)) (0 : Int).toNat (vL x))) = mk u v (gO (pst p x) q) := by
  funext n
  by_cases e : n = 100
  · subst e
    rw [gup_self]
    show _ = some (Sum.inr (1, 1, fun j => vL (pst p x j)))
    refine congrArg (fun f => some (Sum.inr (1, 1, f))) ?_
    funext j
    show (if j = 0 then vL x else vL (p j)) = vL (if j = 0 then x else p j)
    by_cases h : j = 0
    · rw [if_pos h, if_pos h]
    · rw [if_neg h, if_neg h]
  · rw [gup_ne e]
    unfold mk gO
    by_cases h1 : n < 100
    · rw [if_pos h1, if_pos h1]
    · rw [if_neg h1, if_neg h1]
      by_cases h2 : n < 1000
      · rw [if_pos h2, if_pos h2, if_neg e, if_neg e]
      · rw [if_neg h2, if_neg h2]
theorem gO_q {u v : SS} {p : Nat → Int} {q : Nat → UInt64} {x : UInt64} : gup (mk u v (gO p q)) 101 (.inr (4, 1, vset (fun j => vD (q j)) (0 : Int).toNat (vD x))) = mk u v (gO p (qst q x)) := by
  funext n
  by_cases e : n = 101
  · subst e
    rw [gup_self]
    show _ = some (Sum.inr (4, 1, fun j => vD (qst q x j)))
    refine congrArg (fun f => some (Sum.inr (4, 1, f))) ?_
    funext j
    show (if j = 0 then vD x else vD (q j)) = vD (if j = 0 then x else q j)
    by_cases h : j = 0
    · rw [if_pos h, if_pos h]
    · rw [if_neg h, if_neg h]
  · rw [gup_ne e]
    unfold mk gO
    by_cases h1 : n < 100
    · rw [if_pos h1, if_pos h1]
    · rw [if_neg h1, if_neg h1]
      by_cases h2 : n < 1000
      · rw [if_pos h2, if_pos h2]
        by_cases h3 : n = 100
        · rw [if_pos h3, if_pos h3]
        · rw [if_neg h3, if_neg h3, if_neg e, if_neg e]
      · rw [if_neg h2, if_neg h2]
theorem con_w {y : MethodName} {cc : ByteArray} {nL : Nat} {ret : Option FieldType} {hh : List (Nat × Nat × Nat × Nat)} {lev mc ms : Nat} {nw : Nat → Prop} {av : List AV} {G : GH} {r : Rs} {lv : List (Nat × AV)} (hy : plainName y.cls = true) (hcw : Cond.codeWith y cc nL ret hh ∈ lw_good) (hnw : okn nw) (hlen : ∀ ad, (lg_sl (av.map (cv ad))).length ≤ nL) (hlv : ∀ ad, lv_args 0 (av.map (cv ad)) = cvl ad lv) (hlo : lv.map Prod.snd = av)
    (body : ∀ k : Kx, CX k y.cls cc nL → (kmeth k).sig.returnType = ret → klev k = lev → kmc k = mc → kms k = ms → knw k = nw → kPo k = PoR r → (kc k).exceptionTable.toList = tableOf hh → EV k 0 lv [] G 0 0) : Cn y (wsh y cc nL ret hh) lev mc ms nw av G r :=
  con_h hy hcw ⟨hnw.2.2.2.2.2.1, hnw.2.2.2.1, hnw.2.2.2.2.2.2⟩ hlen hlv (fun q hq => by rw [← hlo]; exact List.mem_map_of_mem hq) (fun k C hr _ _ h1 h2 h3 hw h4 _ h6 => body k C hr h1 h2 h3 hw h4 h6)
section CW
variable {k : Kx} {own : String} {cc : ByteArray} {nL : Nat} {pc q tgt : Nat} {lv lv' : List (Nat × AV)} {st st' : List AV} {G G' : GH} {ct sl : Nat}
/-- a call of the object that throws E, caught -/
theorem ev_cVE {y : MethodName} {bytes : ByteArray} {maxL lev mc ms index na n ci : Nat} {ret : Option FieldType} {nwc : Nat → Prop} {As : List AV} {E : String} {G1 : GH} {fs : List AV} {T : u_T} {N : Nat} {st0 : List AV} (C : CX k own cc nL) (hd : decode cc pc = .ok (.invokevirtual index, 3))
    (Mk : MLk own index y na) (Mv : MLv y) (hcode : Cond.code y bytes maxL ret ∈ lw_good) (M : Cn y (wsy y bytes maxL ret) lev mc ms nwc (vR (some n) :: As) G (.inr (E, G1))) (hst : st0 = As.reverse ++ vR (some n) :: st) (hna : As.length = na) (hci : vwCl[ci]? = some (y.cls, T, N)) (hG : G n = some (.inl (ci, fs)))
    (hlev : lev < klev k) (hml : maxL ≤ 41) (hw : wdt st ≤ 8) (hct : ct + mc ≤ kmc k) (hsl : sl + ms ≤ kms k) (hn : ∀ m, nwc m → knw k m) (hv1 : nvA nwc lv) (hv2 : nvB nwc st) (kx : EX k E pc lv G1 (ct + mc) (sl + ms)) : EV k pc lv st0 G ct sl :=
  ev_callV C hd rfl Mk Mv hcode M hst hna hci hG hlev hml hw hct hsl hn (nvA_m hv1) (nvB_m hv2) (fun E' G' h => by cases h; exact kx) (fun r' G' h => nomatch h)
end CW
theorem prel : ∀ {own E : String}, ∀ z ∈ ([] : List (Nat × Nat × Nat × Nat)), z.2.2.2 ≠ 0 ∧ ∃ nm, Cond.classLink own z.2.2.2 nm ∈ lw_good ∧ nm ∈ exl ∧ E ≠ nm := fun z hz => nomatch hz
set_option maxHeartbeats 4000000 in
set_option maxRecDepth 100000 in
theorem w_addService {u v u' : SS} {p : Nat → Int} {q : Nat → UInt64} {a b c : Int} {x : Int} {lev mc ms : Nat} {nw : Nat → Prop} (hlev : lev < 12) (hnw : okn nw) (hx : rg x) (M : Cn yX6_addService (wsy yX6_addService cX6_addService 5 (some .int)) lev mc ms nw [vR (some 1000), vI a, vI b, vI c] (mk u v (gO p q)) (.inl (some (vI x), mk u' v (gO p q)))) : Cn yL_addService (wsh yL_addService cL_addService 6 (some .int) [((0), (12), (15), (13)), ((0), (12), (19), (15))]) 12 mc ms nw [vR (some 1000), vI a, vI b, vI c, vR (some 100)] (mk u v (gO p q)) (.inl (some (vI 0), mk u' v (gO (pst p x) q))) := by
  refine con_w (lv := [(0, vR (some 1000)), (1, vI a), (2, vI b), (3, vI c), (4, vR (some 100))]) (by decide) kh_L_addService hnw (fun ad => Nat.le_of_ble_eq_true rfl) (fun ad => rfl) rfl ?_
  intro k C hr hlv hmc hms hw hPo htab
  refine ev_s C dL_addService_0 (q := 2) rfl rfl ?_
  refine ev_s C dL_addService_2 (q := 3) rfl rfl ?_
  refine ev_s C dL_addService_3 (q := 4) rfl rfl ?_
  refine ev_s C dL_addService_4 (q := 5) rfl rfl ?_
  refine ev_s C dL_addService_5 (q := 6) rfl rfl ?_
  refine ev_s C dL_addService_6 (q := 7) rfl rfl ?_
  refine ev_cVn C dL_addService_7 (q := 10) rfl km_L_7 kv_X6_addService kc_X6_addService M rfl rfl vcX6 rfl (by rw [hlv]; exact hlev) (by decide) (Nat.le_of_ble_eq_true rfl) (by rw [hmc]; omega) (by rw [hms]; omega) (fun m h => by rw [hw]; exact h) (nvA_c (nv_R hnw.2.2.2.2.1) (nvA_c nv_I (nvA_c nv_I (nvA_c nv_I (nvA_c (nv_R hnw.2.1) nvA_0))))) (nvB_c nv_I' (nvB_c (nv_R' hnw.2.1) nvB_0)) ?_
  refine ev_i2l C dL_addService_10 (q := 11) rfl hx ?_
  refine ev_last (n := 100) (len := 1) (f := fun j => vL (p j)) C dL_addService_11 (q := 12) rfl rfl (by unfold rg; decide) (by decide) (by decide) gO_p ?_
  refine ev_goto C dL_addService_12 (tgt := 23) (by decide) ?_
  refine ev_s C dL_addService_23 (q := 24) rfl rfl ?_
  exact ev_iret C hr dL_addService_24 (by rw [hmc]; omega) (by rw [hms]; omega) (po_1 hPo rfl rfl)
set_option maxHeartbeats 4000000 in
set_option maxRecDepth 100000 in
theorem wx_addService_1 {u v u' : SS} {p : Nat → Int} {q : Nat → UInt64} {a b c : Int} {lev mc ms : Nat} {nw : Nat → Prop} (hlev : lev < 12) (hnw : okn nw) (M : Cn yX6_addService (wsy yX6_addService cX6_addService 5 (some .int)) lev mc ms nw [vR (some 1000), vI a, vI b, vI c] (mk u v (gO p q)) (.inr ("java/lang/IllegalArgumentException", mk u' v (gO p q)))) : Cn yL_addService (wsh yL_addService cL_addService 6 (some .int) [((0), (12), (15), (13)), ((0), (12), (19), (15))]) 12 mc ms nw [vR (some 1000), vI a, vI b, vI c, vR (some 100)] (mk u v (gO p q)) (.inl (some (vI 1), mk u' v (gO p q))) := by
  refine con_w (lv := [(0, vR (some 1000)), (1, vI a), (2, vI b), (3, vI c), (4, vR (some 100))]) (by decide) kh_L_addService hnw (fun ad => Nat.le_of_ble_eq_true rfl) (fun ad => rfl) rfl ?_
  intro k C hr hlv hmc hms hw hPo htab
  refine ev_s C dL_addService_0 (q := 2) rfl rfl ?_
  refine ev_s C dL_addService_2 (q := 3) rfl rfl ?_
  refine ev_s C dL_addService_3 (q := 4) rfl rfl ?_
  refine ev_s C dL_addService_4 (q := 5) rfl rfl ?_
  refine ev_s C dL_addService_5 (q := 6) rfl rfl ?_
  refine ev_s C dL_addService_6 (q := 7) rfl rfl ?_
  refine ev_cVE C dL_addService_7 km_L_7 kv_X6_addService kc_X6_addService M rfl rfl vcX6 rfl (by rw [hlv]; exact hlev) (by decide) (Nat.le_of_ble_eq_true rfl) (by rw [hmc]; omega) (by rw [hms]; omega) (fun m h => by rw [hw]; exact h) (nvA_c (nv_R hnw.2.2.2.2.1) (nvA_c nv_I (nvA_c nv_I (nvA_c nv_I (nvA_c (nv_R hnw.2.1) nvA_0))))) (nvB_c nv_I' (nvB_c (nv_R' hnw.2.1) nvB_0)) ?_
  refine ex_catch (i := 5) (x := (0, 12, 15, 13)) (pre := []) (hp' := 17) C htab rfl prel (by decide) (by decide) (by decide) (by decide) kl_L_13 dL_addService_15 (Or.inr ⟨rfl, rfl⟩) (by decide) rfl ?_
  refine ev_s C dL_addService_17 (q := 18) rfl rfl ?_
  exact ev_iret C hr dL_addService_18 (by rw [hmc]; omega) (by rw [hms]; omega) (po_1 hPo rfl rfl)
set_option maxHeartbeats 4000000 in
set_option maxRecDepth 100000 in
theorem wx_addService_2 {u v u' : SS} {p : Nat → Int} {q : Nat → UInt64} {a b c : Int} {lev mc ms : Nat} {nw : Nat → Prop} (hlev : lev < 12) (hnw : okn nw) (M : Cn yX6_addService (wsy yX6_addService cX6_addService 5 (some .int)) lev mc ms nw [vR (some 1000), vI a, vI b, vI c] (mk u v (gO p q)) (.inr ("java/lang/IllegalStateException", mk u' v (gO p q)))) : Cn yL_addService (wsh yL_addService cL_addService 6 (some .int) [((0), (12), (15), (13)), ((0), (12), (19), (15))]) 12 mc ms nw [vR (some 1000), vI a, vI b, vI c, vR (some 100)] (mk u v (gO p q)) (.inl (some (vI 2), mk u' v (gO p q))) := by
  refine con_w (lv := [(0, vR (some 1000)), (1, vI a), (2, vI b), (3, vI c), (4, vR (some 100))]) (by decide) kh_L_addService hnw (fun ad => Nat.le_of_ble_eq_true rfl) (fun ad => rfl) rfl ?_
  intro k C hr hlv hmc hms hw hPo htab
  refine ev_s C dL_addService_0 (q := 2) rfl rfl ?_
  refine ev_s C dL_addService_2 (q := 3) rfl rfl ?_
  refine ev_s C dL_addService_3 (q := 4) rfl rfl ?_
  refine ev_s C dL_addService_4 (q := 5) rfl rfl ?_
  refine ev_s C dL_addService_5 (q := 6) rfl rfl ?_
  refine ev_s C dL_addService_6 (q := 7) rfl rfl ?_
  refine ev_cVE C dL_addService_7 km_L_7 kv_X6_addService kc_X6_addService M rfl rfl vcX6 rfl (by rw [hlv]; exact hlev) (by decide) (Nat.le_of_ble_eq_true rfl) (by rw [hmc]; omega) (by rw [hms]; omega) (fun m h => by rw [hw]; exact h) (nvA_c (nv_R hnw.2.2.2.2.1) (nvA_c nv_I (nvA_c nv_I (nvA_c nv_I (nvA_c (nv_R hnw.2.1) nvA_0))))) (nvB_c nv_I' (nvB_c (nv_R' hnw.2.1) nvB_0)) ?_
  refine ex_catch (i := 5) (x := (0, 12, 19, 15)) (pre := [((0), (12), (15), (13))]) (hp' := 21) C htab rfl (fun z hz => by
      have hz2 : z = (0, 12, 15, 13) := by simpa using hz
      rcases hz2 with rfl
      · exact ⟨by decide, _, kl_L_13, by decide, by decide⟩) (by decide) (by decide) (by decide) (by decide) kl_L_15 dL_addService_19 (Or.inr ⟨rfl, rfl⟩) (by decide) rfl ?_
  refine ev_s C dL_addService_21 (q := 22) rfl rfl ?_
  exact ev_iret C hr dL_addService_22 (by rw [hmc]; omega) (by rw [hms]; omega) (po_1 hPo rfl rfl)
set_option maxHeartbeats 4000000 in
set_option maxRecDepth 100000 in
theorem w_addNeed {u v u' : SS} {p : Nat → Int} {q : Nat → UInt64} {a b : Int} {x : Int} {lev mc ms : Nat} {nw : Nat → Prop} (hlev : lev < 12) (hnw : okn nw) (hx : rg x) (M : Cn yX6_addNeed (wsy yX6_addNeed cX6_addNeed 4 (some .int)) lev mc ms nw [vR (some 1000), vI a, vI b] (mk u v (gO p q)) (.inl (some (vI x), mk u' v (gO p q)))) : Cn yL_addNeed (wsh yL_addNeed cL_addNeed 5 (some .int) [((0), (10), (13), (21)), ((0), (10), (17), (13)), ((0), (10), (21), (23))]) 12 mc ms nw [vR (some 1000), vI a, vI b, vR (some 100)] (mk u v (gO p q)) (.inl (some (vI 0), mk u' v (gO (pst p x) q))) := by
  refine con_w (lv := [(0, vR (some 1000)), (1, vI a), (2, vI b), (3, vR (some 100))]) (by decide) kh_L_addNeed hnw (fun ad => Nat.le_of_ble_eq_true rfl) (fun ad => rfl) rfl ?_
  intro k C hr hlv hmc hms hw hPo htab
  refine ev_s C dL_addNeed_0 (q := 1) rfl rfl ?_
  refine ev_s C dL_addNeed_1 (q := 2) rfl rfl ?_
  refine ev_s C dL_addNeed_2 (q := 3) rfl rfl ?_
  refine ev_s C dL_addNeed_3 (q := 4) rfl rfl ?_
  refine ev_s C dL_addNeed_4 (q := 5) rfl rfl ?_
  refine ev_cVn C dL_addNeed_5 (q := 8) rfl km_L_17 kv_X6_addNeed kc_X6_addNeed M rfl rfl vcX6 rfl (by rw [hlv]; exact hlev) (by decide) (Nat.le_of_ble_eq_true rfl) (by rw [hmc]; omega) (by rw [hms]; omega) (fun m h => by rw [hw]; exact h) (nvA_c (nv_R hnw.2.2.2.2.1) (nvA_c nv_I (nvA_c nv_I (nvA_c (nv_R hnw.2.1) nvA_0)))) (nvB_c nv_I' (nvB_c (nv_R' hnw.2.1) nvB_0)) ?_
  refine ev_i2l C dL_addNeed_8 (q := 9) rfl hx ?_
  refine ev_last (n := 100) (len := 1) (f := fun j => vL (p j)) C dL_addNeed_9 (q := 10) rfl rfl (by unfold rg; decide) (by decide) (by decide) gO_p ?_
  refine ev_goto C dL_addNeed_10 (tgt := 25) (by decide) ?_
  refine ev_s C dL_addNeed_25 (q := 26) rfl rfl ?_
  exact ev_iret C hr dL_addNeed_26 (by rw [hmc]; omega) (by rw [hms]; omega) (po_1 hPo rfl rfl)
set_option maxHeartbeats 4000000 in
set_option maxRecDepth 100000 in
theorem wx_addNeed_1 {u v u' : SS} {p : Nat → Int} {q : Nat → UInt64} {a b : Int} {lev mc ms : Nat} {nw : Nat → Prop} (hlev : lev < 12) (hnw : okn nw) (M : Cn yX6_addNeed (wsy yX6_addNeed cX6_addNeed 4 (some .int)) lev mc ms nw [vR (some 1000), vI a, vI b] (mk u v (gO p q)) (.inr ("java/lang/IndexOutOfBoundsException", mk u' v (gO p q)))) : Cn yL_addNeed (wsh yL_addNeed cL_addNeed 5 (some .int) [((0), (10), (13), (21)), ((0), (10), (17), (13)), ((0), (10), (21), (23))]) 12 mc ms nw [vR (some 1000), vI a, vI b, vR (some 100)] (mk u v (gO p q)) (.inl (some (vI 1), mk u' v (gO p q))) := by
  refine con_w (lv := [(0, vR (some 1000)), (1, vI a), (2, vI b), (3, vR (some 100))]) (by decide) kh_L_addNeed hnw (fun ad => Nat.le_of_ble_eq_true rfl) (fun ad => rfl) rfl ?_
  intro k C hr hlv hmc hms hw hPo htab
  refine ev_s C dL_addNeed_0 (q := 1) rfl rfl ?_
  refine ev_s C dL_addNeed_1 (q := 2) rfl rfl ?_
  refine ev_s C dL_addNeed_2 (q := 3) rfl rfl ?_
  refine ev_s C dL_addNeed_3 (q := 4) rfl rfl ?_
  refine ev_s C dL_addNeed_4 (q := 5) rfl rfl ?_
  refine ev_cVE C dL_addNeed_5 km_L_17 kv_X6_addNeed kc_X6_addNeed M rfl rfl vcX6 rfl (by rw [hlv]; exact hlev) (by decide) (Nat.le_of_ble_eq_true rfl) (by rw [hmc]; omega) (by rw [hms]; omega) (fun m h => by rw [hw]; exact h) (nvA_c (nv_R hnw.2.2.2.2.1) (nvA_c nv_I (nvA_c nv_I (nvA_c (nv_R hnw.2.1) nvA_0)))) (nvB_c nv_I' (nvB_c (nv_R' hnw.2.1) nvB_0)) ?_
  refine ex_catch (i := 4) (x := (0, 10, 13, 21)) (pre := []) (hp' := 15) C htab rfl prel (by decide) (by decide) (by decide) (by decide) kl_L_21 dL_addNeed_13 (Or.inr ⟨rfl, rfl⟩) (by decide) rfl ?_
  refine ev_s C dL_addNeed_15 (q := 16) rfl rfl ?_
  exact ev_iret C hr dL_addNeed_16 (by rw [hmc]; omega) (by rw [hms]; omega) (po_1 hPo rfl rfl)
set_option maxHeartbeats 4000000 in
set_option maxRecDepth 100000 in
theorem wx_addNeed_2 {u v u' : SS} {p : Nat → Int} {q : Nat → UInt64} {a b : Int} {lev mc ms : Nat} {nw : Nat → Prop} (hlev : lev < 12) (hnw : okn nw) (M : Cn yX6_addNeed (wsy yX6_addNeed cX6_addNeed 4 (some .int)) lev mc ms nw [vR (some 1000), vI a, vI b] (mk u v (gO p q)) (.inr ("java/lang/IllegalArgumentException", mk u' v (gO p q)))) : Cn yL_addNeed (wsh yL_addNeed cL_addNeed 5 (some .int) [((0), (10), (13), (21)), ((0), (10), (17), (13)), ((0), (10), (21), (23))]) 12 mc ms nw [vR (some 1000), vI a, vI b, vR (some 100)] (mk u v (gO p q)) (.inl (some (vI 2), mk u' v (gO p q))) := by
  refine con_w (lv := [(0, vR (some 1000)), (1, vI a), (2, vI b), (3, vR (some 100))]) (by decide) kh_L_addNeed hnw (fun ad => Nat.le_of_ble_eq_true rfl) (fun ad => rfl) rfl ?_
  intro k C hr hlv hmc hms hw hPo htab
  refine ev_s C dL_addNeed_0 (q := 1) rfl rfl ?_
  refine ev_s C dL_addNeed_1 (q := 2) rfl rfl ?_
  refine ev_s C dL_addNeed_2 (q := 3) rfl rfl ?_
  refine ev_s C dL_addNeed_3 (q := 4) rfl rfl ?_
  refine ev_s C dL_addNeed_4 (q := 5) rfl rfl ?_
  refine ev_cVE C dL_addNeed_5 km_L_17 kv_X6_addNeed kc_X6_addNeed M rfl rfl vcX6 rfl (by rw [hlv]; exact hlev) (by decide) (Nat.le_of_ble_eq_true rfl) (by rw [hmc]; omega) (by rw [hms]; omega) (fun m h => by rw [hw]; exact h) (nvA_c (nv_R hnw.2.2.2.2.1) (nvA_c nv_I (nvA_c nv_I (nvA_c (nv_R hnw.2.1) nvA_0)))) (nvB_c nv_I' (nvB_c (nv_R' hnw.2.1) nvB_0)) ?_
  refine ex_catch (i := 4) (x := (0, 10, 17, 13)) (pre := [((0), (10), (13), (21))]) (hp' := 19) C htab rfl (fun z hz => by
      have hz2 : z = (0, 10, 13, 21) := by simpa using hz
      rcases hz2 with rfl
      · exact ⟨by decide, _, kl_L_21, by decide, by decide⟩) (by decide) (by decide) (by decide) (by decide) kl_L_13 dL_addNeed_17 (Or.inr ⟨rfl, rfl⟩) (by decide) rfl ?_
  refine ev_s C dL_addNeed_19 (q := 20) rfl rfl ?_
  exact ev_iret C hr dL_addNeed_20 (by rw [hmc]; omega) (by rw [hms]; omega) (po_1 hPo rfl rfl)
set_option maxHeartbeats 4000000 in
set_option maxRecDepth 100000 in
theorem wx_addNeed_3 {u v u' : SS} {p : Nat → Int} {q : Nat → UInt64} {a b : Int} {lev mc ms : Nat} {nw : Nat → Prop} (hlev : lev < 12) (hnw : okn nw) (M : Cn yX6_addNeed (wsy yX6_addNeed cX6_addNeed 4 (some .int)) lev mc ms nw [vR (some 1000), vI a, vI b] (mk u v (gO p q)) (.inr ("java/lang/UnsupportedOperationException", mk u' v (gO p q)))) : Cn yL_addNeed (wsh yL_addNeed cL_addNeed 5 (some .int) [((0), (10), (13), (21)), ((0), (10), (17), (13)), ((0), (10), (21), (23))]) 12 mc ms nw [vR (some 1000), vI a, vI b, vR (some 100)] (mk u v (gO p q)) (.inl (some (vI 3), mk u' v (gO p q))) := by
  refine con_w (lv := [(0, vR (some 1000)), (1, vI a), (2, vI b), (3, vR (some 100))]) (by decide) kh_L_addNeed hnw (fun ad => Nat.le_of_ble_eq_true rfl) (fun ad => rfl) rfl ?_
  intro k C hr hlv hmc hms hw hPo htab
  refine ev_s C dL_addNeed_0 (q := 1) rfl rfl ?_
  refine ev_s C dL_addNeed_1 (q := 2) rfl rfl ?_
  refine ev_s C dL_addNeed_2 (q := 3) rfl rfl ?_
  refine ev_s C dL_addNeed_3 (q := 4) rfl rfl ?_
  refine ev_s C dL_addNeed_4 (q := 5) rfl rfl ?_
  refine ev_cVE C dL_addNeed_5 km_L_17 kv_X6_addNeed kc_X6_addNeed M rfl rfl vcX6 rfl (by rw [hlv]; exact hlev) (by decide) (Nat.le_of_ble_eq_true rfl) (by rw [hmc]; omega) (by rw [hms]; omega) (fun m h => by rw [hw]; exact h) (nvA_c (nv_R hnw.2.2.2.2.1) (nvA_c nv_I (nvA_c nv_I (nvA_c (nv_R hnw.2.1) nvA_0)))) (nvB_c nv_I' (nvB_c (nv_R' hnw.2.1) nvB_0)) ?_
  refine ex_catch (i := 4) (x := (0, 10, 21, 23)) (pre := [((0), (10), (13), (21)), ((0), (10), (17), (13))]) (hp' := 23) C htab rfl (fun z hz => by
      have hz2 : z = (0, 10, 13, 21) ∨ z = (0, 10, 17, 13) := by simpa using hz
      rcases hz2 with rfl | rfl
      · exact ⟨by decide, _, kl_L_21, by decide, by decide⟩
      · exact ⟨by decide, _, kl_L_13, by decide, by decide⟩) (by decide) (by decide) (by decide) (by decide) kl_L_23 dL_addNeed_21 (Or.inr ⟨rfl, rfl⟩) (by decide) rfl ?_
  refine ev_s C dL_addNeed_23 (q := 24) rfl rfl ?_
  exact ev_iret C hr dL_addNeed_24 (by rw [hmc]; omega) (by rw [hms]; omega) (po_1 hPo rfl rfl)
set_option maxHeartbeats 4000000 in
set_option maxRecDepth 100000 in
theorem w_setSize {u v u' : SS} {p : Nat → Int} {q : Nat → UInt64} {a b c : Int} {x : Int} {lev mc ms : Nat} {nw : Nat → Prop} (hlev : lev < 12) (hnw : okn nw) (hx : rg x) (M : Cn yX6_setSize (wsy yX6_setSize cX6_setSize 6 (some .int)) lev mc ms nw [vR (some 1000), vI a, vI b, vI c] (mk u v (gO p q)) (.inl (some (vI x), mk u' v (gO p q)))) : Cn yL_setSize (wsh yL_setSize cL_setSize 6 (some .int) [((0), (12), (15), (21)), ((0), (12), (19), (13)), ((0), (12), (23), (15))]) 12 mc ms nw [vR (some 1000), vI a, vI b, vI c, vR (some 100)] (mk u v (gO p q)) (.inl (some (vI 0), mk u' v (gO (pst p x) q))) := by
  refine con_w (lv := [(0, vR (some 1000)), (1, vI a), (2, vI b), (3, vI c), (4, vR (some 100))]) (by decide) kh_L_setSize hnw (fun ad => Nat.le_of_ble_eq_true rfl) (fun ad => rfl) rfl ?_
  intro k C hr hlv hmc hms hw hPo htab
  refine ev_s C dL_setSize_0 (q := 2) rfl rfl ?_
  refine ev_s C dL_setSize_2 (q := 3) rfl rfl ?_
  refine ev_s C dL_setSize_3 (q := 4) rfl rfl ?_
  refine ev_s C dL_setSize_4 (q := 5) rfl rfl ?_
  refine ev_s C dL_setSize_5 (q := 6) rfl rfl ?_
  refine ev_s C dL_setSize_6 (q := 7) rfl rfl ?_
  refine ev_cVn C dL_setSize_7 (q := 10) rfl km_L_25 kv_X6_setSize kc_X6_setSize M rfl rfl vcX6 rfl (by rw [hlv]; exact hlev) (by decide) (Nat.le_of_ble_eq_true rfl) (by rw [hmc]; omega) (by rw [hms]; omega) (fun m h => by rw [hw]; exact h) (nvA_c (nv_R hnw.2.2.2.2.1) (nvA_c nv_I (nvA_c nv_I (nvA_c nv_I (nvA_c (nv_R hnw.2.1) nvA_0))))) (nvB_c nv_I' (nvB_c (nv_R' hnw.2.1) nvB_0)) ?_
  refine ev_i2l C dL_setSize_10 (q := 11) rfl hx ?_
  refine ev_last (n := 100) (len := 1) (f := fun j => vL (p j)) C dL_setSize_11 (q := 12) rfl rfl (by unfold rg; decide) (by decide) (by decide) gO_p ?_
  refine ev_goto C dL_setSize_12 (tgt := 27) (by decide) ?_
  refine ev_s C dL_setSize_27 (q := 28) rfl rfl ?_
  exact ev_iret C hr dL_setSize_28 (by rw [hmc]; omega) (by rw [hms]; omega) (po_1 hPo rfl rfl)
set_option maxHeartbeats 4000000 in
set_option maxRecDepth 100000 in
theorem wx_setSize_1 {u v u' : SS} {p : Nat → Int} {q : Nat → UInt64} {a b c : Int} {lev mc ms : Nat} {nw : Nat → Prop} (hlev : lev < 12) (hnw : okn nw) (M : Cn yX6_setSize (wsy yX6_setSize cX6_setSize 6 (some .int)) lev mc ms nw [vR (some 1000), vI a, vI b, vI c] (mk u v (gO p q)) (.inr ("java/lang/IndexOutOfBoundsException", mk u' v (gO p q)))) : Cn yL_setSize (wsh yL_setSize cL_setSize 6 (some .int) [((0), (12), (15), (21)), ((0), (12), (19), (13)), ((0), (12), (23), (15))]) 12 mc ms nw [vR (some 1000), vI a, vI b, vI c, vR (some 100)] (mk u v (gO p q)) (.inl (some (vI 1), mk u' v (gO p q))) := by
  refine con_w (lv := [(0, vR (some 1000)), (1, vI a), (2, vI b), (3, vI c), (4, vR (some 100))]) (by decide) kh_L_setSize hnw (fun ad => Nat.le_of_ble_eq_true rfl) (fun ad => rfl) rfl ?_
  intro k C hr hlv hmc hms hw hPo htab
  refine ev_s C dL_setSize_0 (q := 2) rfl rfl ?_
  refine ev_s C dL_setSize_2 (q := 3) rfl rfl ?_
  refine ev_s C dL_setSize_3 (q := 4) rfl rfl ?_
  refine ev_s C dL_setSize_4 (q := 5) rfl rfl ?_
  refine ev_s C dL_setSize_5 (q := 6) rfl rfl ?_
  refine ev_s C dL_setSize_6 (q := 7) rfl rfl ?_
  refine ev_cVE C dL_setSize_7 km_L_25 kv_X6_setSize kc_X6_setSize M rfl rfl vcX6 rfl (by rw [hlv]; exact hlev) (by decide) (Nat.le_of_ble_eq_true rfl) (by rw [hmc]; omega) (by rw [hms]; omega) (fun m h => by rw [hw]; exact h) (nvA_c (nv_R hnw.2.2.2.2.1) (nvA_c nv_I (nvA_c nv_I (nvA_c nv_I (nvA_c (nv_R hnw.2.1) nvA_0))))) (nvB_c nv_I' (nvB_c (nv_R' hnw.2.1) nvB_0)) ?_
  refine ex_catch (i := 5) (x := (0, 12, 15, 21)) (pre := []) (hp' := 17) C htab rfl prel (by decide) (by decide) (by decide) (by decide) kl_L_21 dL_setSize_15 (Or.inr ⟨rfl, rfl⟩) (by decide) rfl ?_
  refine ev_s C dL_setSize_17 (q := 18) rfl rfl ?_
  exact ev_iret C hr dL_setSize_18 (by rw [hmc]; omega) (by rw [hms]; omega) (po_1 hPo rfl rfl)
set_option maxHeartbeats 4000000 in
set_option maxRecDepth 100000 in
theorem wx_setSize_2 {u v u' : SS} {p : Nat → Int} {q : Nat → UInt64} {a b c : Int} {lev mc ms : Nat} {nw : Nat → Prop} (hlev : lev < 12) (hnw : okn nw) (M : Cn yX6_setSize (wsy yX6_setSize cX6_setSize 6 (some .int)) lev mc ms nw [vR (some 1000), vI a, vI b, vI c] (mk u v (gO p q)) (.inr ("java/lang/IllegalArgumentException", mk u' v (gO p q)))) : Cn yL_setSize (wsh yL_setSize cL_setSize 6 (some .int) [((0), (12), (15), (21)), ((0), (12), (19), (13)), ((0), (12), (23), (15))]) 12 mc ms nw [vR (some 1000), vI a, vI b, vI c, vR (some 100)] (mk u v (gO p q)) (.inl (some (vI 2), mk u' v (gO p q))) := by
  refine con_w (lv := [(0, vR (some 1000)), (1, vI a), (2, vI b), (3, vI c), (4, vR (some 100))]) (by decide) kh_L_setSize hnw (fun ad => Nat.le_of_ble_eq_true rfl) (fun ad => rfl) rfl ?_
  intro k C hr hlv hmc hms hw hPo htab
  refine ev_s C dL_setSize_0 (q := 2) rfl rfl ?_
  refine ev_s C dL_setSize_2 (q := 3) rfl rfl ?_
  refine ev_s C dL_setSize_3 (q := 4) rfl rfl ?_
  refine ev_s C dL_setSize_4 (q := 5) rfl rfl ?_
  refine ev_s C dL_setSize_5 (q := 6) rfl rfl ?_
  refine ev_s C dL_setSize_6 (q := 7) rfl rfl ?_
  refine ev_cVE C dL_setSize_7 km_L_25 kv_X6_setSize kc_X6_setSize M rfl rfl vcX6 rfl (by rw [hlv]; exact hlev) (by decide) (Nat.le_of_ble_eq_true rfl) (by rw [hmc]; omega) (by rw [hms]; omega) (fun m h => by rw [hw]; exact h) (nvA_c (nv_R hnw.2.2.2.2.1) (nvA_c nv_I (nvA_c nv_I (nvA_c nv_I (nvA_c (nv_R hnw.2.1) nvA_0))))) (nvB_c nv_I' (nvB_c (nv_R' hnw.2.1) nvB_0)) ?_
  refine ex_catch (i := 5) (x := (0, 12, 19, 13)) (pre := [((0), (12), (15), (21))]) (hp' := 21) C htab rfl (fun z hz => by
      have hz2 : z = (0, 12, 15, 21) := by simpa using hz
      rcases hz2 with rfl
      · exact ⟨by decide, _, kl_L_21, by decide, by decide⟩) (by decide) (by decide) (by decide) (by decide) kl_L_13 dL_setSize_19 (Or.inr ⟨rfl, rfl⟩) (by decide) rfl ?_
  refine ev_s C dL_setSize_21 (q := 22) rfl rfl ?_
  exact ev_iret C hr dL_setSize_22 (by rw [hmc]; omega) (by rw [hms]; omega) (po_1 hPo rfl rfl)
set_option maxHeartbeats 4000000 in
set_option maxRecDepth 100000 in
theorem wx_setSize_3 {u v u' : SS} {p : Nat → Int} {q : Nat → UInt64} {a b c : Int} {lev mc ms : Nat} {nw : Nat → Prop} (hlev : lev < 12) (hnw : okn nw) (M : Cn yX6_setSize (wsy yX6_setSize cX6_setSize 6 (some .int)) lev mc ms nw [vR (some 1000), vI a, vI b, vI c] (mk u v (gO p q)) (.inr ("java/lang/IllegalStateException", mk u' v (gO p q)))) : Cn yL_setSize (wsh yL_setSize cL_setSize 6 (some .int) [((0), (12), (15), (21)), ((0), (12), (19), (13)), ((0), (12), (23), (15))]) 12 mc ms nw [vR (some 1000), vI a, vI b, vI c, vR (some 100)] (mk u v (gO p q)) (.inl (some (vI 3), mk u' v (gO p q))) := by
  refine con_w (lv := [(0, vR (some 1000)), (1, vI a), (2, vI b), (3, vI c), (4, vR (some 100))]) (by decide) kh_L_setSize hnw (fun ad => Nat.le_of_ble_eq_true rfl) (fun ad => rfl) rfl ?_
  intro k C hr hlv hmc hms hw hPo htab
  refine ev_s C dL_setSize_0 (q := 2) rfl rfl ?_
  refine ev_s C dL_setSize_2 (q := 3) rfl rfl ?_
  refine ev_s C dL_setSize_3 (q := 4) rfl rfl ?_
  refine ev_s C dL_setSize_4 (q := 5) rfl rfl ?_
  refine ev_s C dL_setSize_5 (q := 6) rfl rfl ?_
  refine ev_s C dL_setSize_6 (q := 7) rfl rfl ?_
  refine ev_cVE C dL_setSize_7 km_L_25 kv_X6_setSize kc_X6_setSize M rfl rfl vcX6 rfl (by rw [hlv]; exact hlev) (by decide) (Nat.le_of_ble_eq_true rfl) (by rw [hmc]; omega) (by rw [hms]; omega) (fun m h => by rw [hw]; exact h) (nvA_c (nv_R hnw.2.2.2.2.1) (nvA_c nv_I (nvA_c nv_I (nvA_c nv_I (nvA_c (nv_R hnw.2.1) nvA_0))))) (nvB_c nv_I' (nvB_c (nv_R' hnw.2.1) nvB_0)) ?_
  refine ex_catch (i := 5) (x := (0, 12, 23, 15)) (pre := [((0), (12), (15), (21)), ((0), (12), (19), (13))]) (hp' := 25) C htab rfl (fun z hz => by
      have hz2 : z = (0, 12, 15, 21) ∨ z = (0, 12, 19, 13) := by simpa using hz
      rcases hz2 with rfl | rfl
      · exact ⟨by decide, _, kl_L_21, by decide, by decide⟩
      · exact ⟨by decide, _, kl_L_13, by decide, by decide⟩) (by decide) (by decide) (by decide) (by decide) kl_L_15 dL_setSize_23 (Or.inr ⟨rfl, rfl⟩) (by decide) rfl ?_
  refine ev_s C dL_setSize_25 (q := 26) rfl rfl ?_
  exact ev_iret C hr dL_setSize_26 (by rw [hmc]; omega) (by rw [hms]; omega) (po_1 hPo rfl rfl)
set_option maxHeartbeats 4000000 in
set_option maxRecDepth 100000 in
theorem w_setFrames {u v u' : SS} {p : Nat → Int} {q : Nat → UInt64} {a : Int} {x : Int} {lev mc ms : Nat} {nw : Nat → Prop} (hlev : lev < 12) (hnw : okn nw) (hx : rg x) (M : Cn yX6_setFrames (wsy yX6_setFrames cX6_setFrames 5 (some .int)) lev mc ms nw [vR (some 1000), vI a] (mk u v (gO p q)) (.inl (some (vI x), mk u' v (gO p q)))) : Cn yL_setFrames (wsh yL_setFrames cL_setFrames 4 (some .int) [((0), (9), (12), (13))]) 12 mc ms nw [vR (some 1000), vI a, vR (some 100)] (mk u v (gO p q)) (.inl (some (vI 0), mk u' v (gO (pst p x) q))) := by
  refine con_w (lv := [(0, vR (some 1000)), (1, vI a), (2, vR (some 100))]) (by decide) kh_L_setFrames hnw (fun ad => Nat.le_of_ble_eq_true rfl) (fun ad => rfl) rfl ?_
  intro k C hr hlv hmc hms hw hPo htab
  refine ev_s C dL_setFrames_0 (q := 1) rfl rfl ?_
  refine ev_s C dL_setFrames_1 (q := 2) rfl rfl ?_
  refine ev_s C dL_setFrames_2 (q := 3) rfl rfl ?_
  refine ev_s C dL_setFrames_3 (q := 4) rfl rfl ?_
  refine ev_cVn C dL_setFrames_4 (q := 7) rfl km_L_29 kv_X6_setFrames kc_X6_setFrames M rfl rfl vcX6 rfl (by rw [hlv]; exact hlev) (by decide) (Nat.le_of_ble_eq_true rfl) (by rw [hmc]; omega) (by rw [hms]; omega) (fun m h => by rw [hw]; exact h) (nvA_c (nv_R hnw.2.2.2.2.1) (nvA_c nv_I (nvA_c (nv_R hnw.2.1) nvA_0))) (nvB_c nv_I' (nvB_c (nv_R' hnw.2.1) nvB_0)) ?_
  refine ev_i2l C dL_setFrames_7 (q := 8) rfl hx ?_
  refine ev_last (n := 100) (len := 1) (f := fun j => vL (p j)) C dL_setFrames_8 (q := 9) rfl rfl (by unfold rg; decide) (by decide) (by decide) gO_p ?_
  refine ev_goto C dL_setFrames_9 (tgt := 15) (by decide) ?_
  refine ev_s C dL_setFrames_15 (q := 16) rfl rfl ?_
  exact ev_iret C hr dL_setFrames_16 (by rw [hmc]; omega) (by rw [hms]; omega) (po_1 hPo rfl rfl)
set_option maxHeartbeats 4000000 in
set_option maxRecDepth 100000 in
theorem wx_setFrames_1 {u v u' : SS} {p : Nat → Int} {q : Nat → UInt64} {a : Int} {lev mc ms : Nat} {nw : Nat → Prop} (hlev : lev < 12) (hnw : okn nw) (M : Cn yX6_setFrames (wsy yX6_setFrames cX6_setFrames 5 (some .int)) lev mc ms nw [vR (some 1000), vI a] (mk u v (gO p q)) (.inr ("java/lang/IllegalArgumentException", mk u' v (gO p q)))) : Cn yL_setFrames (wsh yL_setFrames cL_setFrames 4 (some .int) [((0), (9), (12), (13))]) 12 mc ms nw [vR (some 1000), vI a, vR (some 100)] (mk u v (gO p q)) (.inl (some (vI 1), mk u' v (gO p q))) := by
  refine con_w (lv := [(0, vR (some 1000)), (1, vI a), (2, vR (some 100))]) (by decide) kh_L_setFrames hnw (fun ad => Nat.le_of_ble_eq_true rfl) (fun ad => rfl) rfl ?_
  intro k C hr hlv hmc hms hw hPo htab
  refine ev_s C dL_setFrames_0 (q := 1) rfl rfl ?_
  refine ev_s C dL_setFrames_1 (q := 2) rfl rfl ?_
  refine ev_s C dL_setFrames_2 (q := 3) rfl rfl ?_
  refine ev_s C dL_setFrames_3 (q := 4) rfl rfl ?_
  refine ev_cVE C dL_setFrames_4 km_L_29 kv_X6_setFrames kc_X6_setFrames M rfl rfl vcX6 rfl (by rw [hlv]; exact hlev) (by decide) (Nat.le_of_ble_eq_true rfl) (by rw [hmc]; omega) (by rw [hms]; omega) (fun m h => by rw [hw]; exact h) (nvA_c (nv_R hnw.2.2.2.2.1) (nvA_c nv_I (nvA_c (nv_R hnw.2.1) nvA_0))) (nvB_c nv_I' (nvB_c (nv_R' hnw.2.1) nvB_0)) ?_
  refine ex_catch (i := 3) (x := (0, 9, 12, 13)) (pre := []) (hp' := 13) C htab rfl prel (by decide) (by decide) (by decide) (by decide) kl_L_13 dL_setFrames_12 (Or.inl ⟨3, rfl, rfl, rfl⟩) (by decide) rfl ?_
  refine ev_s C dL_setFrames_13 (q := 14) rfl rfl ?_
  exact ev_iret C hr dL_setFrames_14 (by rw [hmc]; omega) (by rw [hms]; omega) (po_1 hPo rfl rfl)
set_option maxHeartbeats 4000000 in
set_option maxRecDepth 100000 in
theorem w_setRoom {u v u' : SS} {p : Nat → Int} {q : Nat → UInt64} {a : Int} {x : Int} {lev mc ms : Nat} {nw : Nat → Prop} (hlev : lev < 12) (hnw : okn nw) (hx : rg x) (M : Cn yX6_setRoom (wsy yX6_setRoom cX6_setRoom 3 (some .int)) lev mc ms nw [vR (some 1000), vI a] (mk u v (gO p q)) (.inl (some (vI x), mk u' v (gO p q)))) : Cn yL_setRoom (wsh yL_setRoom cL_setRoom 4 (some .int) [((0), (9), (12), (13))]) 12 mc ms nw [vR (some 1000), vI a, vR (some 100)] (mk u v (gO p q)) (.inl (some (vI 0), mk u' v (gO (pst p x) q))) := by
  refine con_w (lv := [(0, vR (some 1000)), (1, vI a), (2, vR (some 100))]) (by decide) kh_L_setRoom hnw (fun ad => Nat.le_of_ble_eq_true rfl) (fun ad => rfl) rfl ?_
  intro k C hr hlv hmc hms hw hPo htab
  refine ev_s C dL_setRoom_0 (q := 1) rfl rfl ?_
  refine ev_s C dL_setRoom_1 (q := 2) rfl rfl ?_
  refine ev_s C dL_setRoom_2 (q := 3) rfl rfl ?_
  refine ev_s C dL_setRoom_3 (q := 4) rfl rfl ?_
  refine ev_cVn C dL_setRoom_4 (q := 7) rfl km_L_33 kv_X6_setRoom kc_X6_setRoom M rfl rfl vcX6 rfl (by rw [hlv]; exact hlev) (by decide) (Nat.le_of_ble_eq_true rfl) (by rw [hmc]; omega) (by rw [hms]; omega) (fun m h => by rw [hw]; exact h) (nvA_c (nv_R hnw.2.2.2.2.1) (nvA_c nv_I (nvA_c (nv_R hnw.2.1) nvA_0))) (nvB_c nv_I' (nvB_c (nv_R' hnw.2.1) nvB_0)) ?_
  refine ev_i2l C dL_setRoom_7 (q := 8) rfl hx ?_
  refine ev_last (n := 100) (len := 1) (f := fun j => vL (p j)) C dL_setRoom_8 (q := 9) rfl rfl (by unfold rg; decide) (by decide) (by decide) gO_p ?_
  refine ev_goto C dL_setRoom_9 (tgt := 15) (by decide) ?_
  refine ev_s C dL_setRoom_15 (q := 16) rfl rfl ?_
  exact ev_iret C hr dL_setRoom_16 (by rw [hmc]; omega) (by rw [hms]; omega) (po_1 hPo rfl rfl)
set_option maxHeartbeats 4000000 in
set_option maxRecDepth 100000 in
theorem wx_setRoom_1 {u v u' : SS} {p : Nat → Int} {q : Nat → UInt64} {a : Int} {lev mc ms : Nat} {nw : Nat → Prop} (hlev : lev < 12) (hnw : okn nw) (M : Cn yX6_setRoom (wsy yX6_setRoom cX6_setRoom 3 (some .int)) lev mc ms nw [vR (some 1000), vI a] (mk u v (gO p q)) (.inr ("java/lang/IllegalArgumentException", mk u' v (gO p q)))) : Cn yL_setRoom (wsh yL_setRoom cL_setRoom 4 (some .int) [((0), (9), (12), (13))]) 12 mc ms nw [vR (some 1000), vI a, vR (some 100)] (mk u v (gO p q)) (.inl (some (vI 1), mk u' v (gO p q))) := by
  refine con_w (lv := [(0, vR (some 1000)), (1, vI a), (2, vR (some 100))]) (by decide) kh_L_setRoom hnw (fun ad => Nat.le_of_ble_eq_true rfl) (fun ad => rfl) rfl ?_
  intro k C hr hlv hmc hms hw hPo htab
  refine ev_s C dL_setRoom_0 (q := 1) rfl rfl ?_
  refine ev_s C dL_setRoom_1 (q := 2) rfl rfl ?_
  refine ev_s C dL_setRoom_2 (q := 3) rfl rfl ?_
  refine ev_s C dL_setRoom_3 (q := 4) rfl rfl ?_
  refine ev_cVE C dL_setRoom_4 km_L_33 kv_X6_setRoom kc_X6_setRoom M rfl rfl vcX6 rfl (by rw [hlv]; exact hlev) (by decide) (Nat.le_of_ble_eq_true rfl) (by rw [hmc]; omega) (by rw [hms]; omega) (fun m h => by rw [hw]; exact h) (nvA_c (nv_R hnw.2.2.2.2.1) (nvA_c nv_I (nvA_c (nv_R hnw.2.1) nvA_0))) (nvB_c nv_I' (nvB_c (nv_R' hnw.2.1) nvB_0)) ?_
  refine ex_catch (i := 3) (x := (0, 9, 12, 13)) (pre := []) (hp' := 13) C htab rfl prel (by decide) (by decide) (by decide) (by decide) kl_L_13 dL_setRoom_12 (Or.inl ⟨3, rfl, rfl, rfl⟩) (by decide) rfl ?_
  refine ev_s C dL_setRoom_13 (q := 14) rfl rfl ?_
  exact ev_iret C hr dL_setRoom_14 (by rw [hmc]; omega) (by rw [hms]; omega) (po_1 hPo rfl rfl)
set_option maxHeartbeats 4000000 in
set_option maxRecDepth 100000 in
theorem w_setLimit {u v u' : SS} {p : Nat → Int} {q : Nat → UInt64} {a : Int} {x : Int} {lev mc ms : Nat} {nw : Nat → Prop} (hlev : lev < 12) (hnw : okn nw) (hx : rg x) (M : Cn yX6_setLimit (wsy yX6_setLimit cX6_setLimit 3 (some .int)) lev mc ms nw [vR (some 1000), vI a] (mk u v (gO p q)) (.inl (some (vI x), mk u' v (gO p q)))) : Cn yL_setLimit (wsh yL_setLimit cL_setLimit 4 (some .int) [((0), (9), (12), (13))]) 12 mc ms nw [vR (some 1000), vI a, vR (some 100)] (mk u v (gO p q)) (.inl (some (vI 0), mk u' v (gO (pst p x) q))) := by
  refine con_w (lv := [(0, vR (some 1000)), (1, vI a), (2, vR (some 100))]) (by decide) kh_L_setLimit hnw (fun ad => Nat.le_of_ble_eq_true rfl) (fun ad => rfl) rfl ?_
  intro k C hr hlv hmc hms hw hPo htab
  refine ev_s C dL_setLimit_0 (q := 1) rfl rfl ?_
  refine ev_s C dL_setLimit_1 (q := 2) rfl rfl ?_
  refine ev_s C dL_setLimit_2 (q := 3) rfl rfl ?_
  refine ev_s C dL_setLimit_3 (q := 4) rfl rfl ?_
  refine ev_cVn C dL_setLimit_4 (q := 7) rfl km_L_36 kv_X6_setLimit kc_X6_setLimit M rfl rfl vcX6 rfl (by rw [hlv]; exact hlev) (by decide) (Nat.le_of_ble_eq_true rfl) (by rw [hmc]; omega) (by rw [hms]; omega) (fun m h => by rw [hw]; exact h) (nvA_c (nv_R hnw.2.2.2.2.1) (nvA_c nv_I (nvA_c (nv_R hnw.2.1) nvA_0))) (nvB_c nv_I' (nvB_c (nv_R' hnw.2.1) nvB_0)) ?_
  refine ev_i2l C dL_setLimit_7 (q := 8) rfl hx ?_
  refine ev_last (n := 100) (len := 1) (f := fun j => vL (p j)) C dL_setLimit_8 (q := 9) rfl rfl (by unfold rg; decide) (by decide) (by decide) gO_p ?_
  refine ev_goto C dL_setLimit_9 (tgt := 15) (by decide) ?_
  refine ev_s C dL_setLimit_15 (q := 16) rfl rfl ?_
  exact ev_iret C hr dL_setLimit_16 (by rw [hmc]; omega) (by rw [hms]; omega) (po_1 hPo rfl rfl)
set_option maxHeartbeats 4000000 in
set_option maxRecDepth 100000 in
theorem wx_setLimit_1 {u v u' : SS} {p : Nat → Int} {q : Nat → UInt64} {a : Int} {lev mc ms : Nat} {nw : Nat → Prop} (hlev : lev < 12) (hnw : okn nw) (M : Cn yX6_setLimit (wsy yX6_setLimit cX6_setLimit 3 (some .int)) lev mc ms nw [vR (some 1000), vI a] (mk u v (gO p q)) (.inr ("java/lang/IllegalArgumentException", mk u' v (gO p q)))) : Cn yL_setLimit (wsh yL_setLimit cL_setLimit 4 (some .int) [((0), (9), (12), (13))]) 12 mc ms nw [vR (some 1000), vI a, vR (some 100)] (mk u v (gO p q)) (.inl (some (vI 1), mk u' v (gO p q))) := by
  refine con_w (lv := [(0, vR (some 1000)), (1, vI a), (2, vR (some 100))]) (by decide) kh_L_setLimit hnw (fun ad => Nat.le_of_ble_eq_true rfl) (fun ad => rfl) rfl ?_
  intro k C hr hlv hmc hms hw hPo htab
  refine ev_s C dL_setLimit_0 (q := 1) rfl rfl ?_
  refine ev_s C dL_setLimit_1 (q := 2) rfl rfl ?_
  refine ev_s C dL_setLimit_2 (q := 3) rfl rfl ?_
  refine ev_s C dL_setLimit_3 (q := 4) rfl rfl ?_
  refine ev_cVE C dL_setLimit_4 km_L_36 kv_X6_setLimit kc_X6_setLimit M rfl rfl vcX6 rfl (by rw [hlv]; exact hlev) (by decide) (Nat.le_of_ble_eq_true rfl) (by rw [hmc]; omega) (by rw [hms]; omega) (fun m h => by rw [hw]; exact h) (nvA_c (nv_R hnw.2.2.2.2.1) (nvA_c nv_I (nvA_c (nv_R hnw.2.1) nvA_0))) (nvB_c nv_I' (nvB_c (nv_R' hnw.2.1) nvB_0)) ?_
  refine ex_catch (i := 3) (x := (0, 9, 12, 13)) (pre := []) (hp' := 13) C htab rfl prel (by decide) (by decide) (by decide) (by decide) kl_L_13 dL_setLimit_12 (Or.inl ⟨3, rfl, rfl, rfl⟩) (by decide) rfl ?_
  refine ev_s C dL_setLimit_13 (q := 14) rfl rfl ?_
  exact ev_iret C hr dL_setLimit_14 (by rw [hmc]; omega) (by rw [hms]; omega) (po_1 hPo rfl rfl)
set_option maxHeartbeats 4000000 in
set_option maxRecDepth 100000 in
theorem w_touch {u v u' : SS} {p : Nat → Int} {q : Nat → UInt64} {a b : Int} {x : Int} {lev mc ms : Nat} {nw : Nat → Prop} (hlev : lev < 12) (hnw : okn nw) (hx : rg x) (M : Cn yX6_touch (wsy yX6_touch cX6_touch 5 (some .int)) lev mc ms nw [vR (some 1000), vI a, vI b] (mk u v (gO p q)) (.inl (some (vI x), mk u' v (gO p q)))) : Cn yL_touch (wsh yL_touch cL_touch 5 (some .int) [((0), (10), (13), (21)), ((0), (10), (17), (15))]) 12 mc ms nw [vR (some 1000), vI a, vI b, vR (some 100)] (mk u v (gO p q)) (.inl (some (vI 0), mk u' v (gO (pst p x) q))) := by
  refine con_w (lv := [(0, vR (some 1000)), (1, vI a), (2, vI b), (3, vR (some 100))]) (by decide) kh_L_touch hnw (fun ad => Nat.le_of_ble_eq_true rfl) (fun ad => rfl) rfl ?_
  intro k C hr hlv hmc hms hw hPo htab
  refine ev_s C dL_touch_0 (q := 1) rfl rfl ?_
  refine ev_s C dL_touch_1 (q := 2) rfl rfl ?_
  refine ev_s C dL_touch_2 (q := 3) rfl rfl ?_
  refine ev_s C dL_touch_3 (q := 4) rfl rfl ?_
  refine ev_s C dL_touch_4 (q := 5) rfl rfl ?_
  refine ev_cVn C dL_touch_5 (q := 8) rfl km_L_39 kv_X6_touch kc_X6_touch M rfl rfl vcX6 rfl (by rw [hlv]; exact hlev) (by decide) (Nat.le_of_ble_eq_true rfl) (by rw [hmc]; omega) (by rw [hms]; omega) (fun m h => by rw [hw]; exact h) (nvA_c (nv_R hnw.2.2.2.2.1) (nvA_c nv_I (nvA_c nv_I (nvA_c (nv_R hnw.2.1) nvA_0)))) (nvB_c nv_I' (nvB_c (nv_R' hnw.2.1) nvB_0)) ?_
  refine ev_i2l C dL_touch_8 (q := 9) rfl hx ?_
  refine ev_last (n := 100) (len := 1) (f := fun j => vL (p j)) C dL_touch_9 (q := 10) rfl rfl (by unfold rg; decide) (by decide) (by decide) gO_p ?_
  refine ev_goto C dL_touch_10 (tgt := 21) (by decide) ?_
  refine ev_s C dL_touch_21 (q := 22) rfl rfl ?_
  exact ev_iret C hr dL_touch_22 (by rw [hmc]; omega) (by rw [hms]; omega) (po_1 hPo rfl rfl)
set_option maxHeartbeats 4000000 in
set_option maxRecDepth 100000 in
theorem wx_touch_1 {u v u' : SS} {p : Nat → Int} {q : Nat → UInt64} {a b : Int} {lev mc ms : Nat} {nw : Nat → Prop} (hlev : lev < 12) (hnw : okn nw) (M : Cn yX6_touch (wsy yX6_touch cX6_touch 5 (some .int)) lev mc ms nw [vR (some 1000), vI a, vI b] (mk u v (gO p q)) (.inr ("java/lang/IndexOutOfBoundsException", mk u' v (gO p q)))) : Cn yL_touch (wsh yL_touch cL_touch 5 (some .int) [((0), (10), (13), (21)), ((0), (10), (17), (15))]) 12 mc ms nw [vR (some 1000), vI a, vI b, vR (some 100)] (mk u v (gO p q)) (.inl (some (vI 1), mk u' v (gO p q))) := by
  refine con_w (lv := [(0, vR (some 1000)), (1, vI a), (2, vI b), (3, vR (some 100))]) (by decide) kh_L_touch hnw (fun ad => Nat.le_of_ble_eq_true rfl) (fun ad => rfl) rfl ?_
  intro k C hr hlv hmc hms hw hPo htab
  refine ev_s C dL_touch_0 (q := 1) rfl rfl ?_
  refine ev_s C dL_touch_1 (q := 2) rfl rfl ?_
  refine ev_s C dL_touch_2 (q := 3) rfl rfl ?_
  refine ev_s C dL_touch_3 (q := 4) rfl rfl ?_
  refine ev_s C dL_touch_4 (q := 5) rfl rfl ?_
  refine ev_cVE C dL_touch_5 km_L_39 kv_X6_touch kc_X6_touch M rfl rfl vcX6 rfl (by rw [hlv]; exact hlev) (by decide) (Nat.le_of_ble_eq_true rfl) (by rw [hmc]; omega) (by rw [hms]; omega) (fun m h => by rw [hw]; exact h) (nvA_c (nv_R hnw.2.2.2.2.1) (nvA_c nv_I (nvA_c nv_I (nvA_c (nv_R hnw.2.1) nvA_0)))) (nvB_c nv_I' (nvB_c (nv_R' hnw.2.1) nvB_0)) ?_
  refine ex_catch (i := 4) (x := (0, 10, 13, 21)) (pre := []) (hp' := 15) C htab rfl prel (by decide) (by decide) (by decide) (by decide) kl_L_21 dL_touch_13 (Or.inr ⟨rfl, rfl⟩) (by decide) rfl ?_
  refine ev_s C dL_touch_15 (q := 16) rfl rfl ?_
  exact ev_iret C hr dL_touch_16 (by rw [hmc]; omega) (by rw [hms]; omega) (po_1 hPo rfl rfl)
set_option maxHeartbeats 4000000 in
set_option maxRecDepth 100000 in
theorem wx_touch_2 {u v u' : SS} {p : Nat → Int} {q : Nat → UInt64} {a b : Int} {lev mc ms : Nat} {nw : Nat → Prop} (hlev : lev < 12) (hnw : okn nw) (M : Cn yX6_touch (wsy yX6_touch cX6_touch 5 (some .int)) lev mc ms nw [vR (some 1000), vI a, vI b] (mk u v (gO p q)) (.inr ("java/lang/IllegalStateException", mk u' v (gO p q)))) : Cn yL_touch (wsh yL_touch cL_touch 5 (some .int) [((0), (10), (13), (21)), ((0), (10), (17), (15))]) 12 mc ms nw [vR (some 1000), vI a, vI b, vR (some 100)] (mk u v (gO p q)) (.inl (some (vI 2), mk u' v (gO p q))) := by
  refine con_w (lv := [(0, vR (some 1000)), (1, vI a), (2, vI b), (3, vR (some 100))]) (by decide) kh_L_touch hnw (fun ad => Nat.le_of_ble_eq_true rfl) (fun ad => rfl) rfl ?_
  intro k C hr hlv hmc hms hw hPo htab
  refine ev_s C dL_touch_0 (q := 1) rfl rfl ?_
  refine ev_s C dL_touch_1 (q := 2) rfl rfl ?_
  refine ev_s C dL_touch_2 (q := 3) rfl rfl ?_
  refine ev_s C dL_touch_3 (q := 4) rfl rfl ?_
  refine ev_s C dL_touch_4 (q := 5) rfl rfl ?_
  refine ev_cVE C dL_touch_5 km_L_39 kv_X6_touch kc_X6_touch M rfl rfl vcX6 rfl (by rw [hlv]; exact hlev) (by decide) (Nat.le_of_ble_eq_true rfl) (by rw [hmc]; omega) (by rw [hms]; omega) (fun m h => by rw [hw]; exact h) (nvA_c (nv_R hnw.2.2.2.2.1) (nvA_c nv_I (nvA_c nv_I (nvA_c (nv_R hnw.2.1) nvA_0)))) (nvB_c nv_I' (nvB_c (nv_R' hnw.2.1) nvB_0)) ?_
  refine ex_catch (i := 4) (x := (0, 10, 17, 15)) (pre := [((0), (10), (13), (21))]) (hp' := 19) C htab rfl (fun z hz => by
      have hz2 : z = (0, 10, 13, 21) := by simpa using hz
      rcases hz2 with rfl
      · exact ⟨by decide, _, kl_L_21, by decide, by decide⟩) (by decide) (by decide) (by decide) (by decide) kl_L_15 dL_touch_17 (Or.inr ⟨rfl, rfl⟩) (by decide) rfl ?_
  refine ev_s C dL_touch_19 (q := 20) rfl rfl ?_
  exact ev_iret C hr dL_touch_20 (by rw [hmc]; omega) (by rw [hms]; omega) (po_1 hPo rfl rfl)
set_option maxHeartbeats 4000000 in
set_option maxRecDepth 100000 in
theorem w_tick {u v u' : SS} {p : Nat → Int} {q : Nat → UInt64} {a : Int} {x : Int} {lev mc ms : Nat} {nw : Nat → Prop} (hlev : lev < 12) (hnw : okn nw) (hx : rg x) (M : Cn yX6_tick (wsy yX6_tick cX6_tick 4 (some .int)) lev mc ms nw [vR (some 1000), vI a] (mk u v (gO p q)) (.inl (some (vI x), mk u' v (gO p q)))) : Cn yL_tick (wsh yL_tick cL_tick 4 (some .int) [((0), (9), (12), (13))]) 12 mc ms nw [vR (some 1000), vI a, vR (some 100)] (mk u v (gO p q)) (.inl (some (vI 0), mk u' v (gO (pst p x) q))) := by
  refine con_w (lv := [(0, vR (some 1000)), (1, vI a), (2, vR (some 100))]) (by decide) kh_L_tick hnw (fun ad => Nat.le_of_ble_eq_true rfl) (fun ad => rfl) rfl ?_
  intro k C hr hlv hmc hms hw hPo htab
  refine ev_s C dL_tick_0 (q := 1) rfl rfl ?_
  refine ev_s C dL_tick_1 (q := 2) rfl rfl ?_
  refine ev_s C dL_tick_2 (q := 3) rfl rfl ?_
  refine ev_s C dL_tick_3 (q := 4) rfl rfl ?_
  refine ev_cVn C dL_tick_4 (q := 7) rfl km_L_42 kv_X6_tick kc_X6_tick M rfl rfl vcX6 rfl (by rw [hlv]; exact hlev) (by decide) (Nat.le_of_ble_eq_true rfl) (by rw [hmc]; omega) (by rw [hms]; omega) (fun m h => by rw [hw]; exact h) (nvA_c (nv_R hnw.2.2.2.2.1) (nvA_c nv_I (nvA_c (nv_R hnw.2.1) nvA_0))) (nvB_c nv_I' (nvB_c (nv_R' hnw.2.1) nvB_0)) ?_
  refine ev_i2l C dL_tick_7 (q := 8) rfl hx ?_
  refine ev_last (n := 100) (len := 1) (f := fun j => vL (p j)) C dL_tick_8 (q := 9) rfl rfl (by unfold rg; decide) (by decide) (by decide) gO_p ?_
  refine ev_goto C dL_tick_9 (tgt := 15) (by decide) ?_
  refine ev_s C dL_tick_15 (q := 16) rfl rfl ?_
  exact ev_iret C hr dL_tick_16 (by rw [hmc]; omega) (by rw [hms]; omega) (po_1 hPo rfl rfl)
set_option maxHeartbeats 4000000 in
set_option maxRecDepth 100000 in
theorem wx_tick_1 {u v u' : SS} {p : Nat → Int} {q : Nat → UInt64} {a : Int} {lev mc ms : Nat} {nw : Nat → Prop} (hlev : lev < 12) (hnw : okn nw) (M : Cn yX6_tick (wsy yX6_tick cX6_tick 4 (some .int)) lev mc ms nw [vR (some 1000), vI a] (mk u v (gO p q)) (.inr ("java/lang/IllegalArgumentException", mk u' v (gO p q)))) : Cn yL_tick (wsh yL_tick cL_tick 4 (some .int) [((0), (9), (12), (13))]) 12 mc ms nw [vR (some 1000), vI a, vR (some 100)] (mk u v (gO p q)) (.inl (some (vI 1), mk u' v (gO p q))) := by
  refine con_w (lv := [(0, vR (some 1000)), (1, vI a), (2, vR (some 100))]) (by decide) kh_L_tick hnw (fun ad => Nat.le_of_ble_eq_true rfl) (fun ad => rfl) rfl ?_
  intro k C hr hlv hmc hms hw hPo htab
  refine ev_s C dL_tick_0 (q := 1) rfl rfl ?_
  refine ev_s C dL_tick_1 (q := 2) rfl rfl ?_
  refine ev_s C dL_tick_2 (q := 3) rfl rfl ?_
  refine ev_s C dL_tick_3 (q := 4) rfl rfl ?_
  refine ev_cVE C dL_tick_4 km_L_42 kv_X6_tick kc_X6_tick M rfl rfl vcX6 rfl (by rw [hlv]; exact hlev) (by decide) (Nat.le_of_ble_eq_true rfl) (by rw [hmc]; omega) (by rw [hms]; omega) (fun m h => by rw [hw]; exact h) (nvA_c (nv_R hnw.2.2.2.2.1) (nvA_c nv_I (nvA_c (nv_R hnw.2.1) nvA_0))) (nvB_c nv_I' (nvB_c (nv_R' hnw.2.1) nvB_0)) ?_
  refine ex_catch (i := 3) (x := (0, 9, 12, 13)) (pre := []) (hp' := 13) C htab rfl prel (by decide) (by decide) (by decide) (by decide) kl_L_13 dL_tick_12 (Or.inl ⟨3, rfl, rfl, rfl⟩) (by decide) rfl ?_
  refine ev_s C dL_tick_13 (q := 14) rfl rfl ?_
  exact ev_iret C hr dL_tick_14 (by rw [hmc]; omega) (by rw [hms]; omega) (po_1 hPo rfl rfl)
set_option maxHeartbeats 4000000 in
set_option maxRecDepth 100000 in
theorem w_placeOf {u v u' : SS} {p : Nat → Int} {q : Nat → UInt64} {a b : Int} {x : Int} {lev mc ms : Nat} {nw : Nat → Prop} (hlev : lev < 12) (hnw : okn nw) (hx : rg x) (M : Cn yX6_placeOf (wsy yX6_placeOf cX6_placeOf 3 (some .char)) lev mc ms nw [vR (some 1000), vI a, vI b] (mk u v (gO p q)) (.inl (some (vI x), mk u' v (gO p q)))) : Cn yL_placeOf (wsh yL_placeOf cL_placeOf 5 (some .int) [((0), (10), (13), (21))]) 12 mc ms nw [vR (some 1000), vI a, vI b, vR (some 100)] (mk u v (gO p q)) (.inl (some (vI 0), mk u' v (gO (pst p x) q))) := by
  refine con_w (lv := [(0, vR (some 1000)), (1, vI a), (2, vI b), (3, vR (some 100))]) (by decide) kh_L_placeOf hnw (fun ad => Nat.le_of_ble_eq_true rfl) (fun ad => rfl) rfl ?_
  intro k C hr hlv hmc hms hw hPo htab
  refine ev_s C dL_placeOf_0 (q := 1) rfl rfl ?_
  refine ev_s C dL_placeOf_1 (q := 2) rfl rfl ?_
  refine ev_s C dL_placeOf_2 (q := 3) rfl rfl ?_
  refine ev_s C dL_placeOf_3 (q := 4) rfl rfl ?_
  refine ev_s C dL_placeOf_4 (q := 5) rfl rfl ?_
  refine ev_cVn C dL_placeOf_5 (q := 8) rfl km_L_45 kv_X6_placeOf kc_X6_placeOf M rfl rfl vcX6 rfl (by rw [hlv]; exact hlev) (by decide) (Nat.le_of_ble_eq_true rfl) (by rw [hmc]; omega) (by rw [hms]; omega) (fun m h => by rw [hw]; exact h) (nvA_c (nv_R hnw.2.2.2.2.1) (nvA_c nv_I (nvA_c nv_I (nvA_c (nv_R hnw.2.1) nvA_0)))) (nvB_c nv_I' (nvB_c (nv_R' hnw.2.1) nvB_0)) ?_
  refine ev_i2l C dL_placeOf_8 (q := 9) rfl hx ?_
  refine ev_last (n := 100) (len := 1) (f := fun j => vL (p j)) C dL_placeOf_9 (q := 10) rfl rfl (by unfold rg; decide) (by decide) (by decide) gO_p ?_
  refine ev_goto C dL_placeOf_10 (tgt := 17) (by decide) ?_
  refine ev_s C dL_placeOf_17 (q := 18) rfl rfl ?_
  exact ev_iret C hr dL_placeOf_18 (by rw [hmc]; omega) (by rw [hms]; omega) (po_1 hPo rfl rfl)
set_option maxHeartbeats 4000000 in
set_option maxRecDepth 100000 in
theorem wx_placeOf_1 {u v u' : SS} {p : Nat → Int} {q : Nat → UInt64} {a b : Int} {lev mc ms : Nat} {nw : Nat → Prop} (hlev : lev < 12) (hnw : okn nw) (M : Cn yX6_placeOf (wsy yX6_placeOf cX6_placeOf 3 (some .char)) lev mc ms nw [vR (some 1000), vI a, vI b] (mk u v (gO p q)) (.inr ("java/lang/IndexOutOfBoundsException", mk u' v (gO p q)))) : Cn yL_placeOf (wsh yL_placeOf cL_placeOf 5 (some .int) [((0), (10), (13), (21))]) 12 mc ms nw [vR (some 1000), vI a, vI b, vR (some 100)] (mk u v (gO p q)) (.inl (some (vI 1), mk u' v (gO p q))) := by
  refine con_w (lv := [(0, vR (some 1000)), (1, vI a), (2, vI b), (3, vR (some 100))]) (by decide) kh_L_placeOf hnw (fun ad => Nat.le_of_ble_eq_true rfl) (fun ad => rfl) rfl ?_
  intro k C hr hlv hmc hms hw hPo htab
  refine ev_s C dL_placeOf_0 (q := 1) rfl rfl ?_
  refine ev_s C dL_placeOf_1 (q := 2) rfl rfl ?_
  refine ev_s C dL_placeOf_2 (q := 3) rfl rfl ?_
  refine ev_s C dL_placeOf_3 (q := 4) rfl rfl ?_
  refine ev_s C dL_placeOf_4 (q := 5) rfl rfl ?_
  refine ev_cVE C dL_placeOf_5 km_L_45 kv_X6_placeOf kc_X6_placeOf M rfl rfl vcX6 rfl (by rw [hlv]; exact hlev) (by decide) (Nat.le_of_ble_eq_true rfl) (by rw [hmc]; omega) (by rw [hms]; omega) (fun m h => by rw [hw]; exact h) (nvA_c (nv_R hnw.2.2.2.2.1) (nvA_c nv_I (nvA_c nv_I (nvA_c (nv_R hnw.2.1) nvA_0)))) (nvB_c nv_I' (nvB_c (nv_R' hnw.2.1) nvB_0)) ?_
  refine ex_catch (i := 4) (x := (0, 10, 13, 21)) (pre := []) (hp' := 15) C htab rfl prel (by decide) (by decide) (by decide) (by decide) kl_L_21 dL_placeOf_13 (Or.inr ⟨rfl, rfl⟩) (by decide) rfl ?_
  refine ev_s C dL_placeOf_15 (q := 16) rfl rfl ?_
  exact ev_iret C hr dL_placeOf_16 (by rw [hmc]; omega) (by rw [hms]; omega) (po_1 hPo rfl rfl)
set_option maxHeartbeats 4000000 in
set_option maxRecDepth 100000 in
theorem w_placeByEvents {u v u' : SS} {p : Nat → Int} {q : Nat → UInt64} {a b : Int} {x : Int} {lev mc ms : Nat} {nw : Nat → Prop} (hlev : lev < 12) (hnw : okn nw) (hx : rg x) (M : Cn yX6_placeByEvents (wsy yX6_placeByEvents cX6_placeByEvents 4 (some .char)) lev mc ms nw [vR (some 1000), vI a, vI b] (mk u v (gO p q)) (.inl (some (vI x), mk u' v (gO p q)))) : Cn yL_placeByEvents (wsh yL_placeByEvents cL_placeByEvents 5 (some .int) [((0), (10), (13), (21))]) 12 mc ms nw [vR (some 1000), vI a, vI b, vR (some 100)] (mk u v (gO p q)) (.inl (some (vI 0), mk u' v (gO (pst p x) q))) := by
  refine con_w (lv := [(0, vR (some 1000)), (1, vI a), (2, vI b), (3, vR (some 100))]) (by decide) kh_L_placeByEvents hnw (fun ad => Nat.le_of_ble_eq_true rfl) (fun ad => rfl) rfl ?_
  intro k C hr hlv hmc hms hw hPo htab
  refine ev_s C dL_placeByEvents_0 (q := 1) rfl rfl ?_
  refine ev_s C dL_placeByEvents_1 (q := 2) rfl rfl ?_
  refine ev_s C dL_placeByEvents_2 (q := 3) rfl rfl ?_
  refine ev_s C dL_placeByEvents_3 (q := 4) rfl rfl ?_
  refine ev_s C dL_placeByEvents_4 (q := 5) rfl rfl ?_
  refine ev_cVn C dL_placeByEvents_5 (q := 8) rfl km_L_49 kv_X6_placeByEvents kc_X6_placeByEvents M rfl rfl vcX6 rfl (by rw [hlv]; exact hlev) (by decide) (Nat.le_of_ble_eq_true rfl) (by rw [hmc]; omega) (by rw [hms]; omega) (fun m h => by rw [hw]; exact h) (nvA_c (nv_R hnw.2.2.2.2.1) (nvA_c nv_I (nvA_c nv_I (nvA_c (nv_R hnw.2.1) nvA_0)))) (nvB_c nv_I' (nvB_c (nv_R' hnw.2.1) nvB_0)) ?_
  refine ev_i2l C dL_placeByEvents_8 (q := 9) rfl hx ?_
  refine ev_last (n := 100) (len := 1) (f := fun j => vL (p j)) C dL_placeByEvents_9 (q := 10) rfl rfl (by unfold rg; decide) (by decide) (by decide) gO_p ?_
  refine ev_goto C dL_placeByEvents_10 (tgt := 17) (by decide) ?_
  refine ev_s C dL_placeByEvents_17 (q := 18) rfl rfl ?_
  exact ev_iret C hr dL_placeByEvents_18 (by rw [hmc]; omega) (by rw [hms]; omega) (po_1 hPo rfl rfl)
set_option maxHeartbeats 4000000 in
set_option maxRecDepth 100000 in
theorem wx_placeByEvents_1 {u v u' : SS} {p : Nat → Int} {q : Nat → UInt64} {a b : Int} {lev mc ms : Nat} {nw : Nat → Prop} (hlev : lev < 12) (hnw : okn nw) (M : Cn yX6_placeByEvents (wsy yX6_placeByEvents cX6_placeByEvents 4 (some .char)) lev mc ms nw [vR (some 1000), vI a, vI b] (mk u v (gO p q)) (.inr ("java/lang/IndexOutOfBoundsException", mk u' v (gO p q)))) : Cn yL_placeByEvents (wsh yL_placeByEvents cL_placeByEvents 5 (some .int) [((0), (10), (13), (21))]) 12 mc ms nw [vR (some 1000), vI a, vI b, vR (some 100)] (mk u v (gO p q)) (.inl (some (vI 1), mk u' v (gO p q))) := by
  refine con_w (lv := [(0, vR (some 1000)), (1, vI a), (2, vI b), (3, vR (some 100))]) (by decide) kh_L_placeByEvents hnw (fun ad => Nat.le_of_ble_eq_true rfl) (fun ad => rfl) rfl ?_
  intro k C hr hlv hmc hms hw hPo htab
  refine ev_s C dL_placeByEvents_0 (q := 1) rfl rfl ?_
  refine ev_s C dL_placeByEvents_1 (q := 2) rfl rfl ?_
  refine ev_s C dL_placeByEvents_2 (q := 3) rfl rfl ?_
  refine ev_s C dL_placeByEvents_3 (q := 4) rfl rfl ?_
  refine ev_s C dL_placeByEvents_4 (q := 5) rfl rfl ?_
  refine ev_cVE C dL_placeByEvents_5 km_L_49 kv_X6_placeByEvents kc_X6_placeByEvents M rfl rfl vcX6 rfl (by rw [hlv]; exact hlev) (by decide) (Nat.le_of_ble_eq_true rfl) (by rw [hmc]; omega) (by rw [hms]; omega) (fun m h => by rw [hw]; exact h) (nvA_c (nv_R hnw.2.2.2.2.1) (nvA_c nv_I (nvA_c nv_I (nvA_c (nv_R hnw.2.1) nvA_0)))) (nvB_c nv_I' (nvB_c (nv_R' hnw.2.1) nvB_0)) ?_
  refine ex_catch (i := 4) (x := (0, 10, 13, 21)) (pre := []) (hp' := 15) C htab rfl prel (by decide) (by decide) (by decide) (by decide) kl_L_21 dL_placeByEvents_13 (Or.inr ⟨rfl, rfl⟩) (by decide) rfl ?_
  refine ev_s C dL_placeByEvents_15 (q := 16) rfl rfl ?_
  exact ev_iret C hr dL_placeByEvents_16 (by rw [hmc]; omega) (by rw [hms]; omega) (po_1 hPo rfl rfl)
set_option maxHeartbeats 4000000 in
set_option maxRecDepth 100000 in
theorem w_frameOf {u v u' : SS} {p : Nat → Int} {q : Nat → UInt64} {a b : Int} {x : Int} {lev mc ms : Nat} {nw : Nat → Prop} (hlev : lev < 12) (hnw : okn nw) (hx : rg x) (M : Cn yX6_frameOf (wsy yX6_frameOf cX6_frameOf 4 (some .int)) lev mc ms nw [vR (some 1000), vI a, vI b] (mk u v (gO p q)) (.inl (some (vI x), mk u' v (gO p q)))) : Cn yL_frameOf (wsh yL_frameOf cL_frameOf 5 (some .int) [((0), (10), (13), (21)), ((0), (10), (17), (55))]) 12 mc ms nw [vR (some 1000), vI a, vI b, vR (some 100)] (mk u v (gO p q)) (.inl (some (vI 0), mk u' v (gO (pst p x) q))) := by
  refine con_w (lv := [(0, vR (some 1000)), (1, vI a), (2, vI b), (3, vR (some 100))]) (by decide) kh_L_frameOf hnw (fun ad => Nat.le_of_ble_eq_true rfl) (fun ad => rfl) rfl ?_
  intro k C hr hlv hmc hms hw hPo htab
  refine ev_s C dL_frameOf_0 (q := 1) rfl rfl ?_
  refine ev_s C dL_frameOf_1 (q := 2) rfl rfl ?_
  refine ev_s C dL_frameOf_2 (q := 3) rfl rfl ?_
  refine ev_s C dL_frameOf_3 (q := 4) rfl rfl ?_
  refine ev_s C dL_frameOf_4 (q := 5) rfl rfl ?_
  refine ev_cVn C dL_frameOf_5 (q := 8) rfl km_L_52 kv_X6_frameOf kc_X6_frameOf M rfl rfl vcX6 rfl (by rw [hlv]; exact hlev) (by decide) (Nat.le_of_ble_eq_true rfl) (by rw [hmc]; omega) (by rw [hms]; omega) (fun m h => by rw [hw]; exact h) (nvA_c (nv_R hnw.2.2.2.2.1) (nvA_c nv_I (nvA_c nv_I (nvA_c (nv_R hnw.2.1) nvA_0)))) (nvB_c nv_I' (nvB_c (nv_R' hnw.2.1) nvB_0)) ?_
  refine ev_i2l C dL_frameOf_8 (q := 9) rfl hx ?_
  refine ev_last (n := 100) (len := 1) (f := fun j => vL (p j)) C dL_frameOf_9 (q := 10) rfl rfl (by unfold rg; decide) (by decide) (by decide) gO_p ?_
  refine ev_goto C dL_frameOf_10 (tgt := 21) (by decide) ?_
  refine ev_s C dL_frameOf_21 (q := 22) rfl rfl ?_
  exact ev_iret C hr dL_frameOf_22 (by rw [hmc]; omega) (by rw [hms]; omega) (po_1 hPo rfl rfl)
set_option maxHeartbeats 4000000 in
set_option maxRecDepth 100000 in
theorem wx_frameOf_1 {u v u' : SS} {p : Nat → Int} {q : Nat → UInt64} {a b : Int} {lev mc ms : Nat} {nw : Nat → Prop} (hlev : lev < 12) (hnw : okn nw) (M : Cn yX6_frameOf (wsy yX6_frameOf cX6_frameOf 4 (some .int)) lev mc ms nw [vR (some 1000), vI a, vI b] (mk u v (gO p q)) (.inr ("java/lang/IndexOutOfBoundsException", mk u' v (gO p q)))) : Cn yL_frameOf (wsh yL_frameOf cL_frameOf 5 (some .int) [((0), (10), (13), (21)), ((0), (10), (17), (55))]) 12 mc ms nw [vR (some 1000), vI a, vI b, vR (some 100)] (mk u v (gO p q)) (.inl (some (vI 1), mk u' v (gO p q))) := by
  refine con_w (lv := [(0, vR (some 1000)), (1, vI a), (2, vI b), (3, vR (some 100))]) (by decide) kh_L_frameOf hnw (fun ad => Nat.le_of_ble_eq_true rfl) (fun ad => rfl) rfl ?_
  intro k C hr hlv hmc hms hw hPo htab
  refine ev_s C dL_frameOf_0 (q := 1) rfl rfl ?_
  refine ev_s C dL_frameOf_1 (q := 2) rfl rfl ?_
  refine ev_s C dL_frameOf_2 (q := 3) rfl rfl ?_
  refine ev_s C dL_frameOf_3 (q := 4) rfl rfl ?_
  refine ev_s C dL_frameOf_4 (q := 5) rfl rfl ?_
  refine ev_cVE C dL_frameOf_5 km_L_52 kv_X6_frameOf kc_X6_frameOf M rfl rfl vcX6 rfl (by rw [hlv]; exact hlev) (by decide) (Nat.le_of_ble_eq_true rfl) (by rw [hmc]; omega) (by rw [hms]; omega) (fun m h => by rw [hw]; exact h) (nvA_c (nv_R hnw.2.2.2.2.1) (nvA_c nv_I (nvA_c nv_I (nvA_c (nv_R hnw.2.1) nvA_0)))) (nvB_c nv_I' (nvB_c (nv_R' hnw.2.1) nvB_0)) ?_
  refine ex_catch (i := 4) (x := (0, 10, 13, 21)) (pre := []) (hp' := 15) C htab rfl prel (by decide) (by decide) (by decide) (by decide) kl_L_21 dL_frameOf_13 (Or.inr ⟨rfl, rfl⟩) (by decide) rfl ?_
  refine ev_s C dL_frameOf_15 (q := 16) rfl rfl ?_
  exact ev_iret C hr dL_frameOf_16 (by rw [hmc]; omega) (by rw [hms]; omega) (po_1 hPo rfl rfl)
set_option maxHeartbeats 4000000 in
set_option maxRecDepth 100000 in
theorem wx_frameOf_2 {u v u' : SS} {p : Nat → Int} {q : Nat → UInt64} {a b : Int} {lev mc ms : Nat} {nw : Nat → Prop} (hlev : lev < 12) (hnw : okn nw) (M : Cn yX6_frameOf (wsy yX6_frameOf cX6_frameOf 4 (some .int)) lev mc ms nw [vR (some 1000), vI a, vI b] (mk u v (gO p q)) (.inr ("java/util/NoSuchElementException", mk u' v (gO p q)))) : Cn yL_frameOf (wsh yL_frameOf cL_frameOf 5 (some .int) [((0), (10), (13), (21)), ((0), (10), (17), (55))]) 12 mc ms nw [vR (some 1000), vI a, vI b, vR (some 100)] (mk u v (gO p q)) (.inl (some (vI 2), mk u' v (gO p q))) := by
  refine con_w (lv := [(0, vR (some 1000)), (1, vI a), (2, vI b), (3, vR (some 100))]) (by decide) kh_L_frameOf hnw (fun ad => Nat.le_of_ble_eq_true rfl) (fun ad => rfl) rfl ?_
  intro k C hr hlv hmc hms hw hPo htab
  refine ev_s C dL_frameOf_0 (q := 1) rfl rfl ?_
  refine ev_s C dL_frameOf_1 (q := 2) rfl rfl ?_
  refine ev_s C dL_frameOf_2 (q := 3) rfl rfl ?_
  refine ev_s C dL_frameOf_3 (q := 4) rfl rfl ?_
  refine ev_s C dL_frameOf_4 (q := 5) rfl rfl ?_
  refine ev_cVE C dL_frameOf_5 km_L_52 kv_X6_frameOf kc_X6_frameOf M rfl rfl vcX6 rfl (by rw [hlv]; exact hlev) (by decide) (Nat.le_of_ble_eq_true rfl) (by rw [hmc]; omega) (by rw [hms]; omega) (fun m h => by rw [hw]; exact h) (nvA_c (nv_R hnw.2.2.2.2.1) (nvA_c nv_I (nvA_c nv_I (nvA_c (nv_R hnw.2.1) nvA_0)))) (nvB_c nv_I' (nvB_c (nv_R' hnw.2.1) nvB_0)) ?_
  refine ex_catch (i := 4) (x := (0, 10, 17, 55)) (pre := [((0), (10), (13), (21))]) (hp' := 19) C htab rfl (fun z hz => by
      have hz2 : z = (0, 10, 13, 21) := by simpa using hz
      rcases hz2 with rfl
      · exact ⟨by decide, _, kl_L_21, by decide, by decide⟩) (by decide) (by decide) (by decide) (by decide) kl_L_55 dL_frameOf_17 (Or.inr ⟨rfl, rfl⟩) (by decide) rfl ?_
  refine ev_s C dL_frameOf_19 (q := 20) rfl rfl ?_
  exact ev_iret C hr dL_frameOf_20 (by rw [hmc]; omega) (by rw [hms]; omega) (po_1 hPo rfl rfl)
set_option maxHeartbeats 4000000 in
set_option maxRecDepth 100000 in
theorem w_isReferenced {u v u' : SS} {p : Nat → Int} {q : Nat → UInt64} {a b : Int} {x : Bool} {lev mc ms : Nat} {nw : Nat → Prop} (hlev : lev < 12) (hnw : okn nw) (M : Cn yX6_isReferenced (wsy yX6_isReferenced cX6_isReferenced 3 (some .boolean)) lev mc ms nw [vR (some 1000), vI a, vI b] (mk u v (gO p q)) (.inl (some (vI (bI x)), mk u' v (gO p q)))) : Cn yL_isReferenced (wsh yL_isReferenced cL_isReferenced 5 (some .int) [((0), (17), (20), (21))]) 12 mc ms nw [vR (some 1000), vI a, vI b, vR (some 100)] (mk u v (gO p q)) (.inl (some (vI 0), mk u' v (gO (pst p (bI x)) q))) := by
  refine con_w (lv := [(0, vR (some 1000)), (1, vI a), (2, vI b), (3, vR (some 100))]) (by decide) kh_L_isReferenced hnw (fun ad => Nat.le_of_ble_eq_true rfl) (fun ad => rfl) rfl ?_
  intro k C hr hlv hmc hms hw hPo htab
  refine ev_s C dL_isReferenced_0 (q := 1) rfl rfl ?_
  refine ev_s C dL_isReferenced_1 (q := 2) rfl rfl ?_
  refine ev_s C dL_isReferenced_2 (q := 3) rfl rfl ?_
  refine ev_s C dL_isReferenced_3 (q := 4) rfl rfl ?_
  refine ev_s C dL_isReferenced_4 (q := 5) rfl rfl ?_
  refine ev_cVn C dL_isReferenced_5 (q := 8) rfl km_L_57 kv_X6_isReferenced kc_X6_isReferenced M rfl rfl vcX6 rfl (by rw [hlv]; exact hlev) (by decide) (Nat.le_of_ble_eq_true rfl) (by rw [hmc]; omega) (by rw [hms]; omega) (fun m h => by rw [hw]; exact h) (nvA_c (nv_R hnw.2.2.2.2.1) (nvA_c nv_I (nvA_c nv_I (nvA_c (nv_R hnw.2.1) nvA_0)))) (nvB_c nv_I' (nvB_c (nv_R' hnw.2.1) nvB_0)) ?_
  refine ev_ifB_eq C dL_isReferenced_8 (tgt := 15) (q := 11) (by decide) rfl (fun b0 => ?_) (fun b0 => ?_)
  · subst b0
    refine ev_s C dL_isReferenced_15 (q := 16) rfl rfl ?_
    refine ev_last (n := 100) (len := 1) (f := fun j => vL (p j)) C dL_isReferenced_16 (q := 17) rfl rfl (by unfold rg; decide) (by decide) (by decide) gO_p ?_
    refine ev_goto C dL_isReferenced_17 (tgt := 24) (by decide) ?_
    refine ev_s C dL_isReferenced_24 (q := 25) rfl rfl ?_
    exact ev_iret C hr dL_isReferenced_25 (by rw [hmc]; omega) (by rw [hms]; omega) (po_1 hPo rfl rfl)
  · subst b0
    refine ev_s C dL_isReferenced_11 (q := 12) rfl rfl ?_
    refine ev_goto C dL_isReferenced_12 (tgt := 16) (by decide) ?_
    refine ev_last (n := 100) (len := 1) (f := fun j => vL (p j)) C dL_isReferenced_16 (q := 17) rfl rfl (by unfold rg; decide) (by decide) (by decide) gO_p ?_
    refine ev_goto C dL_isReferenced_17 (tgt := 24) (by decide) ?_
    refine ev_s C dL_isReferenced_24 (q := 25) rfl rfl ?_
    exact ev_iret C hr dL_isReferenced_25 (by rw [hmc]; omega) (by rw [hms]; omega) (po_1 hPo rfl rfl)
set_option maxHeartbeats 4000000 in
set_option maxRecDepth 100000 in
theorem wx_isReferenced_1 {u v u' : SS} {p : Nat → Int} {q : Nat → UInt64} {a b : Int} {lev mc ms : Nat} {nw : Nat → Prop} (hlev : lev < 12) (hnw : okn nw) (M : Cn yX6_isReferenced (wsy yX6_isReferenced cX6_isReferenced 3 (some .boolean)) lev mc ms nw [vR (some 1000), vI a, vI b] (mk u v (gO p q)) (.inr ("java/lang/IndexOutOfBoundsException", mk u' v (gO p q)))) : Cn yL_isReferenced (wsh yL_isReferenced cL_isReferenced 5 (some .int) [((0), (17), (20), (21))]) 12 mc ms nw [vR (some 1000), vI a, vI b, vR (some 100)] (mk u v (gO p q)) (.inl (some (vI 1), mk u' v (gO p q))) := by
  refine con_w (lv := [(0, vR (some 1000)), (1, vI a), (2, vI b), (3, vR (some 100))]) (by decide) kh_L_isReferenced hnw (fun ad => Nat.le_of_ble_eq_true rfl) (fun ad => rfl) rfl ?_
  intro k C hr hlv hmc hms hw hPo htab
  refine ev_s C dL_isReferenced_0 (q := 1) rfl rfl ?_
  refine ev_s C dL_isReferenced_1 (q := 2) rfl rfl ?_
  refine ev_s C dL_isReferenced_2 (q := 3) rfl rfl ?_
  refine ev_s C dL_isReferenced_3 (q := 4) rfl rfl ?_
  refine ev_s C dL_isReferenced_4 (q := 5) rfl rfl ?_
  refine ev_cVE C dL_isReferenced_5 km_L_57 kv_X6_isReferenced kc_X6_isReferenced M rfl rfl vcX6 rfl (by rw [hlv]; exact hlev) (by decide) (Nat.le_of_ble_eq_true rfl) (by rw [hmc]; omega) (by rw [hms]; omega) (fun m h => by rw [hw]; exact h) (nvA_c (nv_R hnw.2.2.2.2.1) (nvA_c nv_I (nvA_c nv_I (nvA_c (nv_R hnw.2.1) nvA_0)))) (nvB_c nv_I' (nvB_c (nv_R' hnw.2.1) nvB_0)) ?_
  refine ex_catch (i := 4) (x := (0, 17, 20, 21)) (pre := []) (hp' := 22) C htab rfl prel (by decide) (by decide) (by decide) (by decide) kl_L_21 dL_isReferenced_20 (Or.inr ⟨rfl, rfl⟩) (by decide) rfl ?_
  refine ev_s C dL_isReferenced_22 (q := 23) rfl rfl ?_
  exact ev_iret C hr dL_isReferenced_23 (by rw [hmc]; omega) (by rw [hms]; omega) (po_1 hPo rfl rfl)
set_option maxHeartbeats 4000000 in
set_option maxRecDepth 100000 in
theorem w_storedAt {u v u' : SS} {p : Nat → Int} {q : Nat → UInt64} {a : Int} {x : Int} {lev mc ms : Nat} {nw : Nat → Prop} (hlev : lev < 12) (hnw : okn nw) (hx : rg x) (M : Cn yX6_storedAt (wsy yX6_storedAt cX6_storedAt 2 (some .int)) lev mc ms nw [vR (some 1000), vI a] (mk u v (gO p q)) (.inl (some (vI x), mk u' v (gO p q)))) : Cn yL_storedAt (wsh yL_storedAt cL_storedAt 4 (some .int) [((0), (9), (12), (55))]) 12 mc ms nw [vR (some 1000), vI a, vR (some 100)] (mk u v (gO p q)) (.inl (some (vI 0), mk u' v (gO (pst p x) q))) := by
  refine con_w (lv := [(0, vR (some 1000)), (1, vI a), (2, vR (some 100))]) (by decide) kh_L_storedAt hnw (fun ad => Nat.le_of_ble_eq_true rfl) (fun ad => rfl) rfl ?_
  intro k C hr hlv hmc hms hw hPo htab
  refine ev_s C dL_storedAt_0 (q := 1) rfl rfl ?_
  refine ev_s C dL_storedAt_1 (q := 2) rfl rfl ?_
  refine ev_s C dL_storedAt_2 (q := 3) rfl rfl ?_
  refine ev_s C dL_storedAt_3 (q := 4) rfl rfl ?_
  refine ev_cVn C dL_storedAt_4 (q := 7) rfl km_L_61 kv_X6_storedAt kc_X6_storedAt M rfl rfl vcX6 rfl (by rw [hlv]; exact hlev) (by decide) (Nat.le_of_ble_eq_true rfl) (by rw [hmc]; omega) (by rw [hms]; omega) (fun m h => by rw [hw]; exact h) (nvA_c (nv_R hnw.2.2.2.2.1) (nvA_c nv_I (nvA_c (nv_R hnw.2.1) nvA_0))) (nvB_c nv_I' (nvB_c (nv_R' hnw.2.1) nvB_0)) ?_
  refine ev_i2l C dL_storedAt_7 (q := 8) rfl hx ?_
  refine ev_last (n := 100) (len := 1) (f := fun j => vL (p j)) C dL_storedAt_8 (q := 9) rfl rfl (by unfold rg; decide) (by decide) (by decide) gO_p ?_
  refine ev_goto C dL_storedAt_9 (tgt := 15) (by decide) ?_
  refine ev_s C dL_storedAt_15 (q := 16) rfl rfl ?_
  exact ev_iret C hr dL_storedAt_16 (by rw [hmc]; omega) (by rw [hms]; omega) (po_1 hPo rfl rfl)
set_option maxHeartbeats 4000000 in
set_option maxRecDepth 100000 in
theorem wx_storedAt_1 {u v u' : SS} {p : Nat → Int} {q : Nat → UInt64} {a : Int} {lev mc ms : Nat} {nw : Nat → Prop} (hlev : lev < 12) (hnw : okn nw) (M : Cn yX6_storedAt (wsy yX6_storedAt cX6_storedAt 2 (some .int)) lev mc ms nw [vR (some 1000), vI a] (mk u v (gO p q)) (.inr ("java/util/NoSuchElementException", mk u' v (gO p q)))) : Cn yL_storedAt (wsh yL_storedAt cL_storedAt 4 (some .int) [((0), (9), (12), (55))]) 12 mc ms nw [vR (some 1000), vI a, vR (some 100)] (mk u v (gO p q)) (.inl (some (vI 1), mk u' v (gO p q))) := by
  refine con_w (lv := [(0, vR (some 1000)), (1, vI a), (2, vR (some 100))]) (by decide) kh_L_storedAt hnw (fun ad => Nat.le_of_ble_eq_true rfl) (fun ad => rfl) rfl ?_
  intro k C hr hlv hmc hms hw hPo htab
  refine ev_s C dL_storedAt_0 (q := 1) rfl rfl ?_
  refine ev_s C dL_storedAt_1 (q := 2) rfl rfl ?_
  refine ev_s C dL_storedAt_2 (q := 3) rfl rfl ?_
  refine ev_s C dL_storedAt_3 (q := 4) rfl rfl ?_
  refine ev_cVE C dL_storedAt_4 km_L_61 kv_X6_storedAt kc_X6_storedAt M rfl rfl vcX6 rfl (by rw [hlv]; exact hlev) (by decide) (Nat.le_of_ble_eq_true rfl) (by rw [hmc]; omega) (by rw [hms]; omega) (fun m h => by rw [hw]; exact h) (nvA_c (nv_R hnw.2.2.2.2.1) (nvA_c nv_I (nvA_c (nv_R hnw.2.1) nvA_0))) (nvB_c nv_I' (nvB_c (nv_R' hnw.2.1) nvB_0)) ?_
  refine ex_catch (i := 3) (x := (0, 9, 12, 55)) (pre := []) (hp' := 13) C htab rfl prel (by decide) (by decide) (by decide) (by decide) kl_L_55 dL_storedAt_12 (Or.inl ⟨3, rfl, rfl, rfl⟩) (by decide) rfl ?_
  refine ev_s C dL_storedAt_13 (q := 14) rfl rfl ?_
  exact ev_iret C hr dL_storedAt_14 (by rw [hmc]; omega) (by rw [hms]; omega) (po_1 hPo rfl rfl)
set_option maxHeartbeats 4000000 in
set_option maxRecDepth 100000 in
theorem w_pagesIn {u v u' : SS} {p : Nat → Int} {q : Nat → UInt64} {a b : Int} {x : Int} {lev mc ms : Nat} {nw : Nat → Prop} (hlev : lev < 12) (hnw : okn nw) (hx : rg x) (M : Cn yX6_pagesIn (wsy yX6_pagesIn cX6_pagesIn 4 (some .int)) lev mc ms nw [vR (some 1000), vI a, vI b] (mk u v (gO p q)) (.inl (some (vI x), mk u' v (gO p q)))) : Cn yL_pagesIn (wsh yL_pagesIn cL_pagesIn 5 (some .int) [((0), (10), (13), (21)), ((0), (10), (17), (13))]) 12 mc ms nw [vR (some 1000), vI a, vI b, vR (some 100)] (mk u v (gO p q)) (.inl (some (vI 0), mk u' v (gO (pst p x) q))) := by
  refine con_w (lv := [(0, vR (some 1000)), (1, vI a), (2, vI b), (3, vR (some 100))]) (by decide) kh_L_pagesIn hnw (fun ad => Nat.le_of_ble_eq_true rfl) (fun ad => rfl) rfl ?_
  intro k C hr hlv hmc hms hw hPo htab
  refine ev_s C dL_pagesIn_0 (q := 1) rfl rfl ?_
  refine ev_s C dL_pagesIn_1 (q := 2) rfl rfl ?_
  refine ev_s C dL_pagesIn_2 (q := 3) rfl rfl ?_
  refine ev_s C dL_pagesIn_3 (q := 4) rfl rfl ?_
  refine ev_s C dL_pagesIn_4 (q := 5) rfl rfl ?_
  refine ev_cVn C dL_pagesIn_5 (q := 8) rfl km_L_64 kv_X6_pagesIn kc_X6_pagesIn M rfl rfl vcX6 rfl (by rw [hlv]; exact hlev) (by decide) (Nat.le_of_ble_eq_true rfl) (by rw [hmc]; omega) (by rw [hms]; omega) (fun m h => by rw [hw]; exact h) (nvA_c (nv_R hnw.2.2.2.2.1) (nvA_c nv_I (nvA_c nv_I (nvA_c (nv_R hnw.2.1) nvA_0)))) (nvB_c nv_I' (nvB_c (nv_R' hnw.2.1) nvB_0)) ?_
  refine ev_i2l C dL_pagesIn_8 (q := 9) rfl hx ?_
  refine ev_last (n := 100) (len := 1) (f := fun j => vL (p j)) C dL_pagesIn_9 (q := 10) rfl rfl (by unfold rg; decide) (by decide) (by decide) gO_p ?_
  refine ev_goto C dL_pagesIn_10 (tgt := 21) (by decide) ?_
  refine ev_s C dL_pagesIn_21 (q := 22) rfl rfl ?_
  exact ev_iret C hr dL_pagesIn_22 (by rw [hmc]; omega) (by rw [hms]; omega) (po_1 hPo rfl rfl)
set_option maxHeartbeats 4000000 in
set_option maxRecDepth 100000 in
theorem wx_pagesIn_1 {u v u' : SS} {p : Nat → Int} {q : Nat → UInt64} {a b : Int} {lev mc ms : Nat} {nw : Nat → Prop} (hlev : lev < 12) (hnw : okn nw) (M : Cn yX6_pagesIn (wsy yX6_pagesIn cX6_pagesIn 4 (some .int)) lev mc ms nw [vR (some 1000), vI a, vI b] (mk u v (gO p q)) (.inr ("java/lang/IndexOutOfBoundsException", mk u' v (gO p q)))) : Cn yL_pagesIn (wsh yL_pagesIn cL_pagesIn 5 (some .int) [((0), (10), (13), (21)), ((0), (10), (17), (13))]) 12 mc ms nw [vR (some 1000), vI a, vI b, vR (some 100)] (mk u v (gO p q)) (.inl (some (vI 1), mk u' v (gO p q))) := by
  refine con_w (lv := [(0, vR (some 1000)), (1, vI a), (2, vI b), (3, vR (some 100))]) (by decide) kh_L_pagesIn hnw (fun ad => Nat.le_of_ble_eq_true rfl) (fun ad => rfl) rfl ?_
  intro k C hr hlv hmc hms hw hPo htab
  refine ev_s C dL_pagesIn_0 (q := 1) rfl rfl ?_
  refine ev_s C dL_pagesIn_1 (q := 2) rfl rfl ?_
  refine ev_s C dL_pagesIn_2 (q := 3) rfl rfl ?_
  refine ev_s C dL_pagesIn_3 (q := 4) rfl rfl ?_
  refine ev_s C dL_pagesIn_4 (q := 5) rfl rfl ?_
  refine ev_cVE C dL_pagesIn_5 km_L_64 kv_X6_pagesIn kc_X6_pagesIn M rfl rfl vcX6 rfl (by rw [hlv]; exact hlev) (by decide) (Nat.le_of_ble_eq_true rfl) (by rw [hmc]; omega) (by rw [hms]; omega) (fun m h => by rw [hw]; exact h) (nvA_c (nv_R hnw.2.2.2.2.1) (nvA_c nv_I (nvA_c nv_I (nvA_c (nv_R hnw.2.1) nvA_0)))) (nvB_c nv_I' (nvB_c (nv_R' hnw.2.1) nvB_0)) ?_
  refine ex_catch (i := 4) (x := (0, 10, 13, 21)) (pre := []) (hp' := 15) C htab rfl prel (by decide) (by decide) (by decide) (by decide) kl_L_21 dL_pagesIn_13 (Or.inr ⟨rfl, rfl⟩) (by decide) rfl ?_
  refine ev_s C dL_pagesIn_15 (q := 16) rfl rfl ?_
  exact ev_iret C hr dL_pagesIn_16 (by rw [hmc]; omega) (by rw [hms]; omega) (po_1 hPo rfl rfl)
set_option maxHeartbeats 4000000 in
set_option maxRecDepth 100000 in
theorem wx_pagesIn_2 {u v u' : SS} {p : Nat → Int} {q : Nat → UInt64} {a b : Int} {lev mc ms : Nat} {nw : Nat → Prop} (hlev : lev < 12) (hnw : okn nw) (M : Cn yX6_pagesIn (wsy yX6_pagesIn cX6_pagesIn 4 (some .int)) lev mc ms nw [vR (some 1000), vI a, vI b] (mk u v (gO p q)) (.inr ("java/lang/IllegalArgumentException", mk u' v (gO p q)))) : Cn yL_pagesIn (wsh yL_pagesIn cL_pagesIn 5 (some .int) [((0), (10), (13), (21)), ((0), (10), (17), (13))]) 12 mc ms nw [vR (some 1000), vI a, vI b, vR (some 100)] (mk u v (gO p q)) (.inl (some (vI 2), mk u' v (gO p q))) := by
  refine con_w (lv := [(0, vR (some 1000)), (1, vI a), (2, vI b), (3, vR (some 100))]) (by decide) kh_L_pagesIn hnw (fun ad => Nat.le_of_ble_eq_true rfl) (fun ad => rfl) rfl ?_
  intro k C hr hlv hmc hms hw hPo htab
  refine ev_s C dL_pagesIn_0 (q := 1) rfl rfl ?_
  refine ev_s C dL_pagesIn_1 (q := 2) rfl rfl ?_
  refine ev_s C dL_pagesIn_2 (q := 3) rfl rfl ?_
  refine ev_s C dL_pagesIn_3 (q := 4) rfl rfl ?_
  refine ev_s C dL_pagesIn_4 (q := 5) rfl rfl ?_
  refine ev_cVE C dL_pagesIn_5 km_L_64 kv_X6_pagesIn kc_X6_pagesIn M rfl rfl vcX6 rfl (by rw [hlv]; exact hlev) (by decide) (Nat.le_of_ble_eq_true rfl) (by rw [hmc]; omega) (by rw [hms]; omega) (fun m h => by rw [hw]; exact h) (nvA_c (nv_R hnw.2.2.2.2.1) (nvA_c nv_I (nvA_c nv_I (nvA_c (nv_R hnw.2.1) nvA_0)))) (nvB_c nv_I' (nvB_c (nv_R' hnw.2.1) nvB_0)) ?_
  refine ex_catch (i := 4) (x := (0, 10, 17, 13)) (pre := [((0), (10), (13), (21))]) (hp' := 19) C htab rfl (fun z hz => by
      have hz2 : z = (0, 10, 13, 21) := by simpa using hz
      rcases hz2 with rfl
      · exact ⟨by decide, _, kl_L_21, by decide, by decide⟩) (by decide) (by decide) (by decide) (by decide) kl_L_13 dL_pagesIn_17 (Or.inr ⟨rfl, rfl⟩) (by decide) rfl ?_
  refine ev_s C dL_pagesIn_19 (q := 20) rfl rfl ?_
  exact ev_iret C hr dL_pagesIn_20 (by rw [hmc]; omega) (by rw [hms]; omega) (po_1 hPo rfl rfl)
set_option maxHeartbeats 4000000 in
set_option maxRecDepth 100000 in
theorem w_stallsOf {u v u' : SS} {p : Nat → Int} {q : Nat → UInt64} {a : Int} {x : Int} {lev mc ms : Nat} {nw : Nat → Prop} (hlev : lev < 12) (hnw : okn nw) (M : Cn yX6_stallsOf (wsy yX6_stallsOf cX6_stallsOf 2 (some .long)) lev mc ms nw [vR (some 1000), vI a] (mk u v (gO p q)) (.inl (some (vL x), mk u' v (gO p q)))) : Cn yL_stallsOf (wsh yL_stallsOf cL_stallsOf 4 (some .int) [((0), (8), (11), (21))]) 12 mc ms nw [vR (some 1000), vI a, vR (some 100)] (mk u v (gO p q)) (.inl (some (vI 0), mk u' v (gO (pst p x) q))) := by
  refine con_w (lv := [(0, vR (some 1000)), (1, vI a), (2, vR (some 100))]) (by decide) kh_L_stallsOf hnw (fun ad => Nat.le_of_ble_eq_true rfl) (fun ad => rfl) rfl ?_
  intro k C hr hlv hmc hms hw hPo htab
  refine ev_s C dL_stallsOf_0 (q := 1) rfl rfl ?_
  refine ev_s C dL_stallsOf_1 (q := 2) rfl rfl ?_
  refine ev_s C dL_stallsOf_2 (q := 3) rfl rfl ?_
  refine ev_s C dL_stallsOf_3 (q := 4) rfl rfl ?_
  refine ev_cVn C dL_stallsOf_4 (q := 7) rfl km_L_68 kv_X6_stallsOf kc_X6_stallsOf M rfl rfl vcX6 rfl (by rw [hlv]; exact hlev) (by decide) (Nat.le_of_ble_eq_true rfl) (by rw [hmc]; omega) (by rw [hms]; omega) (fun m h => by rw [hw]; exact h) (nvA_c (nv_R hnw.2.2.2.2.1) (nvA_c nv_I (nvA_c (nv_R hnw.2.1) nvA_0))) (nvB_c nv_I' (nvB_c (nv_R' hnw.2.1) nvB_0)) ?_
  refine ev_last (n := 100) (len := 1) (f := fun j => vL (p j)) C dL_stallsOf_7 (q := 8) rfl rfl (by unfold rg; decide) (by decide) (by decide) gO_p ?_
  refine ev_goto C dL_stallsOf_8 (tgt := 14) (by decide) ?_
  refine ev_s C dL_stallsOf_14 (q := 15) rfl rfl ?_
  exact ev_iret C hr dL_stallsOf_15 (by rw [hmc]; omega) (by rw [hms]; omega) (po_1 hPo rfl rfl)
set_option maxHeartbeats 4000000 in
set_option maxRecDepth 100000 in
theorem wx_stallsOf_1 {u v u' : SS} {p : Nat → Int} {q : Nat → UInt64} {a : Int} {lev mc ms : Nat} {nw : Nat → Prop} (hlev : lev < 12) (hnw : okn nw) (M : Cn yX6_stallsOf (wsy yX6_stallsOf cX6_stallsOf 2 (some .long)) lev mc ms nw [vR (some 1000), vI a] (mk u v (gO p q)) (.inr ("java/lang/IndexOutOfBoundsException", mk u' v (gO p q)))) : Cn yL_stallsOf (wsh yL_stallsOf cL_stallsOf 4 (some .int) [((0), (8), (11), (21))]) 12 mc ms nw [vR (some 1000), vI a, vR (some 100)] (mk u v (gO p q)) (.inl (some (vI 1), mk u' v (gO p q))) := by
  refine con_w (lv := [(0, vR (some 1000)), (1, vI a), (2, vR (some 100))]) (by decide) kh_L_stallsOf hnw (fun ad => Nat.le_of_ble_eq_true rfl) (fun ad => rfl) rfl ?_
  intro k C hr hlv hmc hms hw hPo htab
  refine ev_s C dL_stallsOf_0 (q := 1) rfl rfl ?_
  refine ev_s C dL_stallsOf_1 (q := 2) rfl rfl ?_
  refine ev_s C dL_stallsOf_2 (q := 3) rfl rfl ?_
  refine ev_s C dL_stallsOf_3 (q := 4) rfl rfl ?_
  refine ev_cVE C dL_stallsOf_4 km_L_68 kv_X6_stallsOf kc_X6_stallsOf M rfl rfl vcX6 rfl (by rw [hlv]; exact hlev) (by decide) (Nat.le_of_ble_eq_true rfl) (by rw [hmc]; omega) (by rw [hms]; omega) (fun m h => by rw [hw]; exact h) (nvA_c (nv_R hnw.2.2.2.2.1) (nvA_c nv_I (nvA_c (nv_R hnw.2.1) nvA_0))) (nvB_c nv_I' (nvB_c (nv_R' hnw.2.1) nvB_0)) ?_
  refine ex_catch (i := 3) (x := (0, 8, 11, 21)) (pre := []) (hp' := 12) C htab rfl prel (by decide) (by decide) (by decide) (by decide) kl_L_21 dL_stallsOf_11 (Or.inl ⟨3, rfl, rfl, rfl⟩) (by decide) rfl ?_
  refine ev_s C dL_stallsOf_12 (q := 13) rfl rfl ?_
  exact ev_iret C hr dL_stallsOf_13 (by rw [hmc]; omega) (by rw [hms]; omega) (po_1 hPo rfl rfl)
set_option maxHeartbeats 4000000 in
set_option maxRecDepth 100000 in
theorem w_stateOf {u v u' : SS} {p : Nat → Int} {q : Nat → UInt64} {a : Int} {x : Int} {lev mc ms : Nat} {nw : Nat → Prop} (hlev : lev < 12) (hnw : okn nw) (hx : rg x) (M : Cn yX6_stateOf (wsy yX6_stateOf cX6_stateOf 2 (some .char)) lev mc ms nw [vR (some 1000), vI a] (mk u v (gO p q)) (.inl (some (vI x), mk u' v (gO p q)))) : Cn yL_stateOf (wsh yL_stateOf cL_stateOf 4 (some .int) [((0), (9), (12), (21))]) 12 mc ms nw [vR (some 1000), vI a, vR (some 100)] (mk u v (gO p q)) (.inl (some (vI 0), mk u' v (gO (pst p x) q))) := by
  refine con_w (lv := [(0, vR (some 1000)), (1, vI a), (2, vR (some 100))]) (by decide) kh_L_stateOf hnw (fun ad => Nat.le_of_ble_eq_true rfl) (fun ad => rfl) rfl ?_
  intro k C hr hlv hmc hms hw hPo htab
  refine ev_s C dL_stateOf_0 (q := 1) rfl rfl ?_
  refine ev_s C dL_stateOf_1 (q := 2) rfl rfl ?_
  refine ev_s C dL_stateOf_2 (q := 3) rfl rfl ?_
  refine ev_s C dL_stateOf_3 (q := 4) rfl rfl ?_
  refine ev_cVn C dL_stateOf_4 (q := 7) rfl km_L_72 kv_X6_stateOf kc_X6_stateOf M rfl rfl vcX6 rfl (by rw [hlv]; exact hlev) (by decide) (Nat.le_of_ble_eq_true rfl) (by rw [hmc]; omega) (by rw [hms]; omega) (fun m h => by rw [hw]; exact h) (nvA_c (nv_R hnw.2.2.2.2.1) (nvA_c nv_I (nvA_c (nv_R hnw.2.1) nvA_0))) (nvB_c nv_I' (nvB_c (nv_R' hnw.2.1) nvB_0)) ?_
  refine ev_i2l C dL_stateOf_7 (q := 8) rfl hx ?_
  refine ev_last (n := 100) (len := 1) (f := fun j => vL (p j)) C dL_stateOf_8 (q := 9) rfl rfl (by unfold rg; decide) (by decide) (by decide) gO_p ?_
  refine ev_goto C dL_stateOf_9 (tgt := 15) (by decide) ?_
  refine ev_s C dL_stateOf_15 (q := 16) rfl rfl ?_
  exact ev_iret C hr dL_stateOf_16 (by rw [hmc]; omega) (by rw [hms]; omega) (po_1 hPo rfl rfl)
set_option maxHeartbeats 4000000 in
set_option maxRecDepth 100000 in
theorem wx_stateOf_1 {u v u' : SS} {p : Nat → Int} {q : Nat → UInt64} {a : Int} {lev mc ms : Nat} {nw : Nat → Prop} (hlev : lev < 12) (hnw : okn nw) (M : Cn yX6_stateOf (wsy yX6_stateOf cX6_stateOf 2 (some .char)) lev mc ms nw [vR (some 1000), vI a] (mk u v (gO p q)) (.inr ("java/lang/IndexOutOfBoundsException", mk u' v (gO p q)))) : Cn yL_stateOf (wsh yL_stateOf cL_stateOf 4 (some .int) [((0), (9), (12), (21))]) 12 mc ms nw [vR (some 1000), vI a, vR (some 100)] (mk u v (gO p q)) (.inl (some (vI 1), mk u' v (gO p q))) := by
  refine con_w (lv := [(0, vR (some 1000)), (1, vI a), (2, vR (some 100))]) (by decide) kh_L_stateOf hnw (fun ad => Nat.le_of_ble_eq_true rfl) (fun ad => rfl) rfl ?_
  intro k C hr hlv hmc hms hw hPo htab
  refine ev_s C dL_stateOf_0 (q := 1) rfl rfl ?_
  refine ev_s C dL_stateOf_1 (q := 2) rfl rfl ?_
  refine ev_s C dL_stateOf_2 (q := 3) rfl rfl ?_
  refine ev_s C dL_stateOf_3 (q := 4) rfl rfl ?_
  refine ev_cVE C dL_stateOf_4 km_L_72 kv_X6_stateOf kc_X6_stateOf M rfl rfl vcX6 rfl (by rw [hlv]; exact hlev) (by decide) (Nat.le_of_ble_eq_true rfl) (by rw [hmc]; omega) (by rw [hms]; omega) (fun m h => by rw [hw]; exact h) (nvA_c (nv_R hnw.2.2.2.2.1) (nvA_c nv_I (nvA_c (nv_R hnw.2.1) nvA_0))) (nvB_c nv_I' (nvB_c (nv_R' hnw.2.1) nvB_0)) ?_
  refine ex_catch (i := 3) (x := (0, 9, 12, 21)) (pre := []) (hp' := 13) C htab rfl prel (by decide) (by decide) (by decide) (by decide) kl_L_21 dL_stateOf_12 (Or.inl ⟨3, rfl, rfl, rfl⟩) (by decide) rfl ?_
  refine ev_s C dL_stateOf_13 (q := 14) rfl rfl ?_
  exact ev_iret C hr dL_stateOf_14 (by rw [hmc]; omega) (by rw [hms]; omega) (po_1 hPo rfl rfl)
set_option maxHeartbeats 4000000 in
set_option maxRecDepth 100000 in
theorem w_waitsFor {u v u' : SS} {p : Nat → Int} {q : Nat → UInt64} {a : Int} {x : Int} {lev mc ms : Nat} {nw : Nat → Prop} (hlev : lev < 12) (hnw : okn nw) (hx : rg x) (M : Cn yX6_waitsFor (wsy yX6_waitsFor cX6_waitsFor 4 (some .int)) lev mc ms nw [vR (some 1000), vI a] (mk u v (gO p q)) (.inl (some (vI x), mk u' v (gO p q)))) : Cn yL_waitsFor (wsh yL_waitsFor cL_waitsFor 4 (some .int) [((0), (9), (12), (21)), ((0), (9), (15), (55))]) 12 mc ms nw [vR (some 1000), vI a, vR (some 100)] (mk u v (gO p q)) (.inl (some (vI 0), mk u' v (gO (pst p x) q))) := by
  refine con_w (lv := [(0, vR (some 1000)), (1, vI a), (2, vR (some 100))]) (by decide) kh_L_waitsFor hnw (fun ad => Nat.le_of_ble_eq_true rfl) (fun ad => rfl) rfl ?_
  intro k C hr hlv hmc hms hw hPo htab
  refine ev_s C dL_waitsFor_0 (q := 1) rfl rfl ?_
  refine ev_s C dL_waitsFor_1 (q := 2) rfl rfl ?_
  refine ev_s C dL_waitsFor_2 (q := 3) rfl rfl ?_
  refine ev_s C dL_waitsFor_3 (q := 4) rfl rfl ?_
  refine ev_cVn C dL_waitsFor_4 (q := 7) rfl km_L_76 kv_X6_waitsFor kc_X6_waitsFor M rfl rfl vcX6 rfl (by rw [hlv]; exact hlev) (by decide) (Nat.le_of_ble_eq_true rfl) (by rw [hmc]; omega) (by rw [hms]; omega) (fun m h => by rw [hw]; exact h) (nvA_c (nv_R hnw.2.2.2.2.1) (nvA_c nv_I (nvA_c (nv_R hnw.2.1) nvA_0))) (nvB_c nv_I' (nvB_c (nv_R' hnw.2.1) nvB_0)) ?_
  refine ev_i2l C dL_waitsFor_7 (q := 8) rfl hx ?_
  refine ev_last (n := 100) (len := 1) (f := fun j => vL (p j)) C dL_waitsFor_8 (q := 9) rfl rfl (by unfold rg; decide) (by decide) (by decide) gO_p ?_
  refine ev_goto C dL_waitsFor_9 (tgt := 18) (by decide) ?_
  refine ev_s C dL_waitsFor_18 (q := 19) rfl rfl ?_
  exact ev_iret C hr dL_waitsFor_19 (by rw [hmc]; omega) (by rw [hms]; omega) (po_1 hPo rfl rfl)
set_option maxHeartbeats 4000000 in
set_option maxRecDepth 100000 in
theorem wx_waitsFor_1 {u v u' : SS} {p : Nat → Int} {q : Nat → UInt64} {a : Int} {lev mc ms : Nat} {nw : Nat → Prop} (hlev : lev < 12) (hnw : okn nw) (M : Cn yX6_waitsFor (wsy yX6_waitsFor cX6_waitsFor 4 (some .int)) lev mc ms nw [vR (some 1000), vI a] (mk u v (gO p q)) (.inr ("java/lang/IndexOutOfBoundsException", mk u' v (gO p q)))) : Cn yL_waitsFor (wsh yL_waitsFor cL_waitsFor 4 (some .int) [((0), (9), (12), (21)), ((0), (9), (15), (55))]) 12 mc ms nw [vR (some 1000), vI a, vR (some 100)] (mk u v (gO p q)) (.inl (some (vI 1), mk u' v (gO p q))) := by
  refine con_w (lv := [(0, vR (some 1000)), (1, vI a), (2, vR (some 100))]) (by decide) kh_L_waitsFor hnw (fun ad => Nat.le_of_ble_eq_true rfl) (fun ad => rfl) rfl ?_
  intro k C hr hlv hmc hms hw hPo htab
  refine ev_s C dL_waitsFor_0 (q := 1) rfl rfl ?_
  refine ev_s C dL_waitsFor_1 (q := 2) rfl rfl ?_
  refine ev_s C dL_waitsFor_2 (q := 3) rfl rfl ?_
  refine ev_s C dL_waitsFor_3 (q := 4) rfl rfl ?_
  refine ev_cVE C dL_waitsFor_4 km_L_76 kv_X6_waitsFor kc_X6_waitsFor M rfl rfl vcX6 rfl (by rw [hlv]; exact hlev) (by decide) (Nat.le_of_ble_eq_true rfl) (by rw [hmc]; omega) (by rw [hms]; omega) (fun m h => by rw [hw]; exact h) (nvA_c (nv_R hnw.2.2.2.2.1) (nvA_c nv_I (nvA_c (nv_R hnw.2.1) nvA_0))) (nvB_c nv_I' (nvB_c (nv_R' hnw.2.1) nvB_0)) ?_
  refine ex_catch (i := 3) (x := (0, 9, 12, 21)) (pre := []) (hp' := 13) C htab rfl prel (by decide) (by decide) (by decide) (by decide) kl_L_21 dL_waitsFor_12 (Or.inl ⟨3, rfl, rfl, rfl⟩) (by decide) rfl ?_
  refine ev_s C dL_waitsFor_13 (q := 14) rfl rfl ?_
  exact ev_iret C hr dL_waitsFor_14 (by rw [hmc]; omega) (by rw [hms]; omega) (po_1 hPo rfl rfl)
set_option maxHeartbeats 4000000 in
set_option maxRecDepth 100000 in
theorem wx_waitsFor_2 {u v u' : SS} {p : Nat → Int} {q : Nat → UInt64} {a : Int} {lev mc ms : Nat} {nw : Nat → Prop} (hlev : lev < 12) (hnw : okn nw) (M : Cn yX6_waitsFor (wsy yX6_waitsFor cX6_waitsFor 4 (some .int)) lev mc ms nw [vR (some 1000), vI a] (mk u v (gO p q)) (.inr ("java/util/NoSuchElementException", mk u' v (gO p q)))) : Cn yL_waitsFor (wsh yL_waitsFor cL_waitsFor 4 (some .int) [((0), (9), (12), (21)), ((0), (9), (15), (55))]) 12 mc ms nw [vR (some 1000), vI a, vR (some 100)] (mk u v (gO p q)) (.inl (some (vI 2), mk u' v (gO p q))) := by
  refine con_w (lv := [(0, vR (some 1000)), (1, vI a), (2, vR (some 100))]) (by decide) kh_L_waitsFor hnw (fun ad => Nat.le_of_ble_eq_true rfl) (fun ad => rfl) rfl ?_
  intro k C hr hlv hmc hms hw hPo htab
  refine ev_s C dL_waitsFor_0 (q := 1) rfl rfl ?_
  refine ev_s C dL_waitsFor_1 (q := 2) rfl rfl ?_
  refine ev_s C dL_waitsFor_2 (q := 3) rfl rfl ?_
  refine ev_s C dL_waitsFor_3 (q := 4) rfl rfl ?_
  refine ev_cVE C dL_waitsFor_4 km_L_76 kv_X6_waitsFor kc_X6_waitsFor M rfl rfl vcX6 rfl (by rw [hlv]; exact hlev) (by decide) (Nat.le_of_ble_eq_true rfl) (by rw [hmc]; omega) (by rw [hms]; omega) (fun m h => by rw [hw]; exact h) (nvA_c (nv_R hnw.2.2.2.2.1) (nvA_c nv_I (nvA_c (nv_R hnw.2.1) nvA_0))) (nvB_c nv_I' (nvB_c (nv_R' hnw.2.1) nvB_0)) ?_
  refine ex_catch (i := 3) (x := (0, 9, 15, 55)) (pre := [((0), (9), (12), (21))]) (hp' := 16) C htab rfl (fun z hz => by
      have hz2 : z = (0, 9, 12, 21) := by simpa using hz
      rcases hz2 with rfl
      · exact ⟨by decide, _, kl_L_21, by decide, by decide⟩) (by decide) (by decide) (by decide) (by decide) kl_L_55 dL_waitsFor_15 (Or.inl ⟨3, rfl, rfl, rfl⟩) (by decide) rfl ?_
  refine ev_s C dL_waitsFor_16 (q := 17) rfl rfl ?_
  exact ev_iret C hr dL_waitsFor_17 (by rw [hmc]; omega) (by rw [hms]; omega) (po_1 hPo rfl rfl)
set_option maxHeartbeats 4000000 in
set_option maxRecDepth 100000 in
theorem w_isNeeded {u v u' : SS} {p : Nat → Int} {q : Nat → UInt64} {a : Int} {x : Bool} {lev mc ms : Nat} {nw : Nat → Prop} (hlev : lev < 12) (hnw : okn nw) (M : Cn yX6_isNeeded (wsy yX6_isNeeded cX6_isNeeded 2 (some .boolean)) lev mc ms nw [vR (some 1000), vI a] (mk u v (gO p q)) (.inl (some (vI (bI x)), mk u' v (gO p q)))) : Cn yL_isNeeded (wsh yL_isNeeded cL_isNeeded 4 (some .int) [((0), (16), (19), (21))]) 12 mc ms nw [vR (some 1000), vI a, vR (some 100)] (mk u v (gO p q)) (.inl (some (vI 0), mk u' v (gO (pst p (bI x)) q))) := by
  refine con_w (lv := [(0, vR (some 1000)), (1, vI a), (2, vR (some 100))]) (by decide) kh_L_isNeeded hnw (fun ad => Nat.le_of_ble_eq_true rfl) (fun ad => rfl) rfl ?_
  intro k C hr hlv hmc hms hw hPo htab
  refine ev_s C dL_isNeeded_0 (q := 1) rfl rfl ?_
  refine ev_s C dL_isNeeded_1 (q := 2) rfl rfl ?_
  refine ev_s C dL_isNeeded_2 (q := 3) rfl rfl ?_
  refine ev_s C dL_isNeeded_3 (q := 4) rfl rfl ?_
  refine ev_cVn C dL_isNeeded_4 (q := 7) rfl km_L_79 kv_X6_isNeeded kc_X6_isNeeded M rfl rfl vcX6 rfl (by rw [hlv]; exact hlev) (by decide) (Nat.le_of_ble_eq_true rfl) (by rw [hmc]; omega) (by rw [hms]; omega) (fun m h => by rw [hw]; exact h) (nvA_c (nv_R hnw.2.2.2.2.1) (nvA_c nv_I (nvA_c (nv_R hnw.2.1) nvA_0))) (nvB_c nv_I' (nvB_c (nv_R' hnw.2.1) nvB_0)) ?_
  refine ev_ifB_eq C dL_isNeeded_7 (tgt := 14) (q := 10) (by decide) rfl (fun b0 => ?_) (fun b0 => ?_)
  · subst b0
    refine ev_s C dL_isNeeded_14 (q := 15) rfl rfl ?_
    refine ev_last (n := 100) (len := 1) (f := fun j => vL (p j)) C dL_isNeeded_15 (q := 16) rfl rfl (by unfold rg; decide) (by decide) (by decide) gO_p ?_
    refine ev_goto C dL_isNeeded_16 (tgt := 22) (by decide) ?_
    refine ev_s C dL_isNeeded_22 (q := 23) rfl rfl ?_
    exact ev_iret C hr dL_isNeeded_23 (by rw [hmc]; omega) (by rw [hms]; omega) (po_1 hPo rfl rfl)
  · subst b0
    refine ev_s C dL_isNeeded_10 (q := 11) rfl rfl ?_
    refine ev_goto C dL_isNeeded_11 (tgt := 15) (by decide) ?_
    refine ev_last (n := 100) (len := 1) (f := fun j => vL (p j)) C dL_isNeeded_15 (q := 16) rfl rfl (by unfold rg; decide) (by decide) (by decide) gO_p ?_
    refine ev_goto C dL_isNeeded_16 (tgt := 22) (by decide) ?_
    refine ev_s C dL_isNeeded_22 (q := 23) rfl rfl ?_
    exact ev_iret C hr dL_isNeeded_23 (by rw [hmc]; omega) (by rw [hms]; omega) (po_1 hPo rfl rfl)
set_option maxHeartbeats 4000000 in
set_option maxRecDepth 100000 in
theorem wx_isNeeded_1 {u v u' : SS} {p : Nat → Int} {q : Nat → UInt64} {a : Int} {lev mc ms : Nat} {nw : Nat → Prop} (hlev : lev < 12) (hnw : okn nw) (M : Cn yX6_isNeeded (wsy yX6_isNeeded cX6_isNeeded 2 (some .boolean)) lev mc ms nw [vR (some 1000), vI a] (mk u v (gO p q)) (.inr ("java/lang/IndexOutOfBoundsException", mk u' v (gO p q)))) : Cn yL_isNeeded (wsh yL_isNeeded cL_isNeeded 4 (some .int) [((0), (16), (19), (21))]) 12 mc ms nw [vR (some 1000), vI a, vR (some 100)] (mk u v (gO p q)) (.inl (some (vI 1), mk u' v (gO p q))) := by
  refine con_w (lv := [(0, vR (some 1000)), (1, vI a), (2, vR (some 100))]) (by decide) kh_L_isNeeded hnw (fun ad => Nat.le_of_ble_eq_true rfl) (fun ad => rfl) rfl ?_
  intro k C hr hlv hmc hms hw hPo htab
  refine ev_s C dL_isNeeded_0 (q := 1) rfl rfl ?_
  refine ev_s C dL_isNeeded_1 (q := 2) rfl rfl ?_
  refine ev_s C dL_isNeeded_2 (q := 3) rfl rfl ?_
  refine ev_s C dL_isNeeded_3 (q := 4) rfl rfl ?_
  refine ev_cVE C dL_isNeeded_4 km_L_79 kv_X6_isNeeded kc_X6_isNeeded M rfl rfl vcX6 rfl (by rw [hlv]; exact hlev) (by decide) (Nat.le_of_ble_eq_true rfl) (by rw [hmc]; omega) (by rw [hms]; omega) (fun m h => by rw [hw]; exact h) (nvA_c (nv_R hnw.2.2.2.2.1) (nvA_c nv_I (nvA_c (nv_R hnw.2.1) nvA_0))) (nvB_c nv_I' (nvB_c (nv_R' hnw.2.1) nvB_0)) ?_
  refine ex_catch (i := 3) (x := (0, 16, 19, 21)) (pre := []) (hp' := 20) C htab rfl prel (by decide) (by decide) (by decide) (by decide) kl_L_21 dL_isNeeded_19 (Or.inl ⟨3, rfl, rfl, rfl⟩) (by decide) rfl ?_
  refine ev_s C dL_isNeeded_20 (q := 21) rfl rfl ?_
  exact ev_iret C hr dL_isNeeded_21 (by rw [hmc]; omega) (by rw [hms]; omega) (po_1 hPo rfl rfl)
set_option maxHeartbeats 4000000 in
set_option maxRecDepth 100000 in
theorem w_startsIn {u v u' : SS} {p : Nat → Int} {q : Nat → UInt64} {a : Int} {x : Int} {lev mc ms : Nat} {nw : Nat → Prop} (hlev : lev < 12) (hnw : okn nw) (hx : rg x) (M : Cn yX6_startsIn (wsy yX6_startsIn cX6_startsIn 3 (some .int)) lev mc ms nw [vR (some 1000), vI a] (mk u v (gO p q)) (.inl (some (vI x), mk u' v (gO p q)))) : Cn yL_startsIn (wsh yL_startsIn cL_startsIn 4 (some .int) [((0), (9), (12), (21)), ((0), (9), (15), (15))]) 12 mc ms nw [vR (some 1000), vI a, vR (some 100)] (mk u v (gO p q)) (.inl (some (vI 0), mk u' v (gO (pst p x) q))) := by
  refine con_w (lv := [(0, vR (some 1000)), (1, vI a), (2, vR (some 100))]) (by decide) kh_L_startsIn hnw (fun ad => Nat.le_of_ble_eq_true rfl) (fun ad => rfl) rfl ?_
  intro k C hr hlv hmc hms hw hPo htab
  refine ev_s C dL_startsIn_0 (q := 1) rfl rfl ?_
  refine ev_s C dL_startsIn_1 (q := 2) rfl rfl ?_
  refine ev_s C dL_startsIn_2 (q := 3) rfl rfl ?_
  refine ev_s C dL_startsIn_3 (q := 4) rfl rfl ?_
  refine ev_cVn C dL_startsIn_4 (q := 7) rfl km_L_83 kv_X6_startsIn kc_X6_startsIn M rfl rfl vcX6 rfl (by rw [hlv]; exact hlev) (by decide) (Nat.le_of_ble_eq_true rfl) (by rw [hmc]; omega) (by rw [hms]; omega) (fun m h => by rw [hw]; exact h) (nvA_c (nv_R hnw.2.2.2.2.1) (nvA_c nv_I (nvA_c (nv_R hnw.2.1) nvA_0))) (nvB_c nv_I' (nvB_c (nv_R' hnw.2.1) nvB_0)) ?_
  refine ev_i2l C dL_startsIn_7 (q := 8) rfl hx ?_
  refine ev_last (n := 100) (len := 1) (f := fun j => vL (p j)) C dL_startsIn_8 (q := 9) rfl rfl (by unfold rg; decide) (by decide) (by decide) gO_p ?_
  refine ev_goto C dL_startsIn_9 (tgt := 18) (by decide) ?_
  refine ev_s C dL_startsIn_18 (q := 19) rfl rfl ?_
  exact ev_iret C hr dL_startsIn_19 (by rw [hmc]; omega) (by rw [hms]; omega) (po_1 hPo rfl rfl)
set_option maxHeartbeats 4000000 in
set_option maxRecDepth 100000 in
theorem wx_startsIn_1 {u v u' : SS} {p : Nat → Int} {q : Nat → UInt64} {a : Int} {lev mc ms : Nat} {nw : Nat → Prop} (hlev : lev < 12) (hnw : okn nw) (M : Cn yX6_startsIn (wsy yX6_startsIn cX6_startsIn 3 (some .int)) lev mc ms nw [vR (some 1000), vI a] (mk u v (gO p q)) (.inr ("java/lang/IndexOutOfBoundsException", mk u' v (gO p q)))) : Cn yL_startsIn (wsh yL_startsIn cL_startsIn 4 (some .int) [((0), (9), (12), (21)), ((0), (9), (15), (15))]) 12 mc ms nw [vR (some 1000), vI a, vR (some 100)] (mk u v (gO p q)) (.inl (some (vI 1), mk u' v (gO p q))) := by
  refine con_w (lv := [(0, vR (some 1000)), (1, vI a), (2, vR (some 100))]) (by decide) kh_L_startsIn hnw (fun ad => Nat.le_of_ble_eq_true rfl) (fun ad => rfl) rfl ?_
  intro k C hr hlv hmc hms hw hPo htab
  refine ev_s C dL_startsIn_0 (q := 1) rfl rfl ?_
  refine ev_s C dL_startsIn_1 (q := 2) rfl rfl ?_
  refine ev_s C dL_startsIn_2 (q := 3) rfl rfl ?_
  refine ev_s C dL_startsIn_3 (q := 4) rfl rfl ?_
  refine ev_cVE C dL_startsIn_4 km_L_83 kv_X6_startsIn kc_X6_startsIn M rfl rfl vcX6 rfl (by rw [hlv]; exact hlev) (by decide) (Nat.le_of_ble_eq_true rfl) (by rw [hmc]; omega) (by rw [hms]; omega) (fun m h => by rw [hw]; exact h) (nvA_c (nv_R hnw.2.2.2.2.1) (nvA_c nv_I (nvA_c (nv_R hnw.2.1) nvA_0))) (nvB_c nv_I' (nvB_c (nv_R' hnw.2.1) nvB_0)) ?_
  refine ex_catch (i := 3) (x := (0, 9, 12, 21)) (pre := []) (hp' := 13) C htab rfl prel (by decide) (by decide) (by decide) (by decide) kl_L_21 dL_startsIn_12 (Or.inl ⟨3, rfl, rfl, rfl⟩) (by decide) rfl ?_
  refine ev_s C dL_startsIn_13 (q := 14) rfl rfl ?_
  exact ev_iret C hr dL_startsIn_14 (by rw [hmc]; omega) (by rw [hms]; omega) (po_1 hPo rfl rfl)
set_option maxHeartbeats 4000000 in
set_option maxRecDepth 100000 in
theorem wx_startsIn_2 {u v u' : SS} {p : Nat → Int} {q : Nat → UInt64} {a : Int} {lev mc ms : Nat} {nw : Nat → Prop} (hlev : lev < 12) (hnw : okn nw) (M : Cn yX6_startsIn (wsy yX6_startsIn cX6_startsIn 3 (some .int)) lev mc ms nw [vR (some 1000), vI a] (mk u v (gO p q)) (.inr ("java/lang/IllegalStateException", mk u' v (gO p q)))) : Cn yL_startsIn (wsh yL_startsIn cL_startsIn 4 (some .int) [((0), (9), (12), (21)), ((0), (9), (15), (15))]) 12 mc ms nw [vR (some 1000), vI a, vR (some 100)] (mk u v (gO p q)) (.inl (some (vI 2), mk u' v (gO p q))) := by
  refine con_w (lv := [(0, vR (some 1000)), (1, vI a), (2, vR (some 100))]) (by decide) kh_L_startsIn hnw (fun ad => Nat.le_of_ble_eq_true rfl) (fun ad => rfl) rfl ?_
  intro k C hr hlv hmc hms hw hPo htab
  refine ev_s C dL_startsIn_0 (q := 1) rfl rfl ?_
  refine ev_s C dL_startsIn_1 (q := 2) rfl rfl ?_
  refine ev_s C dL_startsIn_2 (q := 3) rfl rfl ?_
  refine ev_s C dL_startsIn_3 (q := 4) rfl rfl ?_
  refine ev_cVE C dL_startsIn_4 km_L_83 kv_X6_startsIn kc_X6_startsIn M rfl rfl vcX6 rfl (by rw [hlv]; exact hlev) (by decide) (Nat.le_of_ble_eq_true rfl) (by rw [hmc]; omega) (by rw [hms]; omega) (fun m h => by rw [hw]; exact h) (nvA_c (nv_R hnw.2.2.2.2.1) (nvA_c nv_I (nvA_c (nv_R hnw.2.1) nvA_0))) (nvB_c nv_I' (nvB_c (nv_R' hnw.2.1) nvB_0)) ?_
  refine ex_catch (i := 3) (x := (0, 9, 15, 15)) (pre := [((0), (9), (12), (21))]) (hp' := 16) C htab rfl (fun z hz => by
      have hz2 : z = (0, 9, 12, 21) := by simpa using hz
      rcases hz2 with rfl
      · exact ⟨by decide, _, kl_L_21, by decide, by decide⟩) (by decide) (by decide) (by decide) (by decide) kl_L_15 dL_startsIn_15 (Or.inl ⟨3, rfl, rfl, rfl⟩) (by decide) rfl ?_
  refine ev_s C dL_startsIn_16 (q := 17) rfl rfl ?_
  exact ev_iret C hr dL_startsIn_17 (by rw [hmc]; omega) (by rw [hms]; omega) (po_1 hPo rfl rfl)
set_option maxHeartbeats 4000000 in
set_option maxRecDepth 100000 in
theorem w_starts {u v u' : SS} {p : Nat → Int} {q : Nat → UInt64} {a : Int} {x : Int} {lev mc ms : Nat} {nw : Nat → Prop} (hlev : lev < 12) (hnw : okn nw) (hx : rg x) (M : Cn yX6_starts (wsy yX6_starts cX6_starts 2 (some .int)) lev mc ms nw [vR (some 1000), vI a] (mk u v (gO p q)) (.inl (some (vI x), mk u' v (gO p q)))) : Cn yL_starts (wsh yL_starts cL_starts 4 (some .int) [((0), (9), (12), (21))]) 12 mc ms nw [vR (some 1000), vI a, vR (some 100)] (mk u v (gO p q)) (.inl (some (vI 0), mk u' v (gO (pst p x) q))) := by
  refine con_w (lv := [(0, vR (some 1000)), (1, vI a), (2, vR (some 100))]) (by decide) kh_L_starts hnw (fun ad => Nat.le_of_ble_eq_true rfl) (fun ad => rfl) rfl ?_
  intro k C hr hlv hmc hms hw hPo htab
  refine ev_s C dL_starts_0 (q := 1) rfl rfl ?_
  refine ev_s C dL_starts_1 (q := 2) rfl rfl ?_
  refine ev_s C dL_starts_2 (q := 3) rfl rfl ?_
  refine ev_s C dL_starts_3 (q := 4) rfl rfl ?_
  refine ev_cVn C dL_starts_4 (q := 7) rfl km_L_86 kv_X6_starts kc_X6_starts M rfl rfl vcX6 rfl (by rw [hlv]; exact hlev) (by decide) (Nat.le_of_ble_eq_true rfl) (by rw [hmc]; omega) (by rw [hms]; omega) (fun m h => by rw [hw]; exact h) (nvA_c (nv_R hnw.2.2.2.2.1) (nvA_c nv_I (nvA_c (nv_R hnw.2.1) nvA_0))) (nvB_c nv_I' (nvB_c (nv_R' hnw.2.1) nvB_0)) ?_
  refine ev_i2l C dL_starts_7 (q := 8) rfl hx ?_
  refine ev_last (n := 100) (len := 1) (f := fun j => vL (p j)) C dL_starts_8 (q := 9) rfl rfl (by unfold rg; decide) (by decide) (by decide) gO_p ?_
  refine ev_goto C dL_starts_9 (tgt := 15) (by decide) ?_
  refine ev_s C dL_starts_15 (q := 16) rfl rfl ?_
  exact ev_iret C hr dL_starts_16 (by rw [hmc]; omega) (by rw [hms]; omega) (po_1 hPo rfl rfl)
set_option maxHeartbeats 4000000 in
set_option maxRecDepth 100000 in
theorem wx_starts_1 {u v u' : SS} {p : Nat → Int} {q : Nat → UInt64} {a : Int} {lev mc ms : Nat} {nw : Nat → Prop} (hlev : lev < 12) (hnw : okn nw) (M : Cn yX6_starts (wsy yX6_starts cX6_starts 2 (some .int)) lev mc ms nw [vR (some 1000), vI a] (mk u v (gO p q)) (.inr ("java/lang/IndexOutOfBoundsException", mk u' v (gO p q)))) : Cn yL_starts (wsh yL_starts cL_starts 4 (some .int) [((0), (9), (12), (21))]) 12 mc ms nw [vR (some 1000), vI a, vR (some 100)] (mk u v (gO p q)) (.inl (some (vI 1), mk u' v (gO p q))) := by
  refine con_w (lv := [(0, vR (some 1000)), (1, vI a), (2, vR (some 100))]) (by decide) kh_L_starts hnw (fun ad => Nat.le_of_ble_eq_true rfl) (fun ad => rfl) rfl ?_
  intro k C hr hlv hmc hms hw hPo htab
  refine ev_s C dL_starts_0 (q := 1) rfl rfl ?_
  refine ev_s C dL_starts_1 (q := 2) rfl rfl ?_
  refine ev_s C dL_starts_2 (q := 3) rfl rfl ?_
  refine ev_s C dL_starts_3 (q := 4) rfl rfl ?_
  refine ev_cVE C dL_starts_4 km_L_86 kv_X6_starts kc_X6_starts M rfl rfl vcX6 rfl (by rw [hlv]; exact hlev) (by decide) (Nat.le_of_ble_eq_true rfl) (by rw [hmc]; omega) (by rw [hms]; omega) (fun m h => by rw [hw]; exact h) (nvA_c (nv_R hnw.2.2.2.2.1) (nvA_c nv_I (nvA_c (nv_R hnw.2.1) nvA_0))) (nvB_c nv_I' (nvB_c (nv_R' hnw.2.1) nvB_0)) ?_
  refine ex_catch (i := 3) (x := (0, 9, 12, 21)) (pre := []) (hp' := 13) C htab rfl prel (by decide) (by decide) (by decide) (by decide) kl_L_21 dL_starts_12 (Or.inl ⟨3, rfl, rfl, rfl⟩) (by decide) rfl ?_
  refine ev_s C dL_starts_13 (q := 14) rfl rfl ?_
  exact ev_iret C hr dL_starts_14 (by rw [hmc]; omega) (by rw [hms]; omega) (po_1 hPo rfl rfl)
set_option maxHeartbeats 4000000 in
set_option maxRecDepth 100000 in
theorem w_score {u v u' : SS} {p : Nat → Int} {q : Nat → UInt64} {a : Int} {x : Int} {lev mc ms : Nat} {nw : Nat → Prop} (hlev : lev < 12) (hnw : okn nw) (hx : rg x) (M : Cn yX6_score (wsy yX6_score cX6_score 2 (some .int)) lev mc ms nw [vR (some 1000), vI a] (mk u v (gO p q)) (.inl (some (vI x), mk u' v (gO p q)))) : Cn yL_score (wsh yL_score cL_score 4 (some .int) [((0), (9), (12), (21))]) 12 mc ms nw [vR (some 1000), vI a, vR (some 100)] (mk u v (gO p q)) (.inl (some (vI 0), mk u' v (gO (pst p x) q))) := by
  refine con_w (lv := [(0, vR (some 1000)), (1, vI a), (2, vR (some 100))]) (by decide) kh_L_score hnw (fun ad => Nat.le_of_ble_eq_true rfl) (fun ad => rfl) rfl ?_
  intro k C hr hlv hmc hms hw hPo htab
  refine ev_s C dL_score_0 (q := 1) rfl rfl ?_
  refine ev_s C dL_score_1 (q := 2) rfl rfl ?_
  refine ev_s C dL_score_2 (q := 3) rfl rfl ?_
  refine ev_s C dL_score_3 (q := 4) rfl rfl ?_
  refine ev_cVn C dL_score_4 (q := 7) rfl km_L_89 kv_X6_score kc_X6_score M rfl rfl vcX6 rfl (by rw [hlv]; exact hlev) (by decide) (Nat.le_of_ble_eq_true rfl) (by rw [hmc]; omega) (by rw [hms]; omega) (fun m h => by rw [hw]; exact h) (nvA_c (nv_R hnw.2.2.2.2.1) (nvA_c nv_I (nvA_c (nv_R hnw.2.1) nvA_0))) (nvB_c nv_I' (nvB_c (nv_R' hnw.2.1) nvB_0)) ?_
  refine ev_i2l C dL_score_7 (q := 8) rfl hx ?_
  refine ev_last (n := 100) (len := 1) (f := fun j => vL (p j)) C dL_score_8 (q := 9) rfl rfl (by unfold rg; decide) (by decide) (by decide) gO_p ?_
  refine ev_goto C dL_score_9 (tgt := 15) (by decide) ?_
  refine ev_s C dL_score_15 (q := 16) rfl rfl ?_
  exact ev_iret C hr dL_score_16 (by rw [hmc]; omega) (by rw [hms]; omega) (po_1 hPo rfl rfl)
set_option maxHeartbeats 4000000 in
set_option maxRecDepth 100000 in
theorem wx_score_1 {u v u' : SS} {p : Nat → Int} {q : Nat → UInt64} {a : Int} {lev mc ms : Nat} {nw : Nat → Prop} (hlev : lev < 12) (hnw : okn nw) (M : Cn yX6_score (wsy yX6_score cX6_score 2 (some .int)) lev mc ms nw [vR (some 1000), vI a] (mk u v (gO p q)) (.inr ("java/lang/IndexOutOfBoundsException", mk u' v (gO p q)))) : Cn yL_score (wsh yL_score cL_score 4 (some .int) [((0), (9), (12), (21))]) 12 mc ms nw [vR (some 1000), vI a, vR (some 100)] (mk u v (gO p q)) (.inl (some (vI 1), mk u' v (gO p q))) := by
  refine con_w (lv := [(0, vR (some 1000)), (1, vI a), (2, vR (some 100))]) (by decide) kh_L_score hnw (fun ad => Nat.le_of_ble_eq_true rfl) (fun ad => rfl) rfl ?_
  intro k C hr hlv hmc hms hw hPo htab
  refine ev_s C dL_score_0 (q := 1) rfl rfl ?_
  refine ev_s C dL_score_1 (q := 2) rfl rfl ?_
  refine ev_s C dL_score_2 (q := 3) rfl rfl ?_
  refine ev_s C dL_score_3 (q := 4) rfl rfl ?_
  refine ev_cVE C dL_score_4 km_L_89 kv_X6_score kc_X6_score M rfl rfl vcX6 rfl (by rw [hlv]; exact hlev) (by decide) (Nat.le_of_ble_eq_true rfl) (by rw [hmc]; omega) (by rw [hms]; omega) (fun m h => by rw [hw]; exact h) (nvA_c (nv_R hnw.2.2.2.2.1) (nvA_c nv_I (nvA_c (nv_R hnw.2.1) nvA_0))) (nvB_c nv_I' (nvB_c (nv_R' hnw.2.1) nvB_0)) ?_
  refine ex_catch (i := 3) (x := (0, 9, 12, 21)) (pre := []) (hp' := 13) C htab rfl prel (by decide) (by decide) (by decide) (by decide) kl_L_21 dL_score_12 (Or.inl ⟨3, rfl, rfl, rfl⟩) (by decide) rfl ?_
  refine ev_s C dL_score_13 (q := 14) rfl rfl ?_
  exact ev_iret C hr dL_score_14 (by rw [hmc]; omega) (by rw [hms]; omega) (po_1 hPo rfl rfl)
set_option maxHeartbeats 4000000 in
set_option maxRecDepth 100000 in
theorem w_victim {u v u' : SS} {p : Nat → Int} {q : Nat → UInt64} {x : Int} {lev mc ms : Nat} {nw : Nat → Prop} (hlev : lev < 12) (hnw : okn nw) (hx : rg x) (M : Cn yX6_victim (wsy yX6_victim cX6_victim 2 (some .int)) lev mc ms nw [vR (some 1000)] (mk u v (gO p q)) (.inl (some (vI x), mk u' v (gO p q)))) : Cn yL_victim (wsh yL_victim cL_victim 3 (some .int) [((0), (8), (11), (55))]) 12 mc ms nw [vR (some 1000), vR (some 100)] (mk u v (gO p q)) (.inl (some (vI 0), mk u' v (gO (pst p x) q))) := by
  refine con_w (lv := [(0, vR (some 1000)), (1, vR (some 100))]) (by decide) kh_L_victim hnw (fun ad => Nat.le_of_ble_eq_true rfl) (fun ad => rfl) rfl ?_
  intro k C hr hlv hmc hms hw hPo htab
  refine ev_s C dL_victim_0 (q := 1) rfl rfl ?_
  refine ev_s C dL_victim_1 (q := 2) rfl rfl ?_
  refine ev_s C dL_victim_2 (q := 3) rfl rfl ?_
  refine ev_cVn C dL_victim_3 (q := 6) rfl km_L_92 kv_X6_victim kc_X6_victim M rfl rfl vcX6 rfl (by rw [hlv]; exact hlev) (by decide) (Nat.le_of_ble_eq_true rfl) (by rw [hmc]; omega) (by rw [hms]; omega) (fun m h => by rw [hw]; exact h) (nvA_c (nv_R hnw.2.2.2.2.1) (nvA_c (nv_R hnw.2.1) nvA_0)) (nvB_c nv_I' (nvB_c (nv_R' hnw.2.1) nvB_0)) ?_
  refine ev_i2l C dL_victim_6 (q := 7) rfl hx ?_
  refine ev_last (n := 100) (len := 1) (f := fun j => vL (p j)) C dL_victim_7 (q := 8) rfl rfl (by unfold rg; decide) (by decide) (by decide) gO_p ?_
  refine ev_goto C dL_victim_8 (tgt := 14) (by decide) ?_
  refine ev_s C dL_victim_14 (q := 15) rfl rfl ?_
  exact ev_iret C hr dL_victim_15 (by rw [hmc]; omega) (by rw [hms]; omega) (po_1 hPo rfl rfl)
set_option maxHeartbeats 4000000 in
set_option maxRecDepth 100000 in
theorem wx_victim_1 {u v u' : SS} {p : Nat → Int} {q : Nat → UInt64} {lev mc ms : Nat} {nw : Nat → Prop} (hlev : lev < 12) (hnw : okn nw) (M : Cn yX6_victim (wsy yX6_victim cX6_victim 2 (some .int)) lev mc ms nw [vR (some 1000)] (mk u v (gO p q)) (.inr ("java/util/NoSuchElementException", mk u' v (gO p q)))) : Cn yL_victim (wsh yL_victim cL_victim 3 (some .int) [((0), (8), (11), (55))]) 12 mc ms nw [vR (some 1000), vR (some 100)] (mk u v (gO p q)) (.inl (some (vI 1), mk u' v (gO p q))) := by
  refine con_w (lv := [(0, vR (some 1000)), (1, vR (some 100))]) (by decide) kh_L_victim hnw (fun ad => Nat.le_of_ble_eq_true rfl) (fun ad => rfl) rfl ?_
  intro k C hr hlv hmc hms hw hPo htab
  refine ev_s C dL_victim_0 (q := 1) rfl rfl ?_
  refine ev_s C dL_victim_1 (q := 2) rfl rfl ?_
  refine ev_s C dL_victim_2 (q := 3) rfl rfl ?_
  refine ev_cVE C dL_victim_3 km_L_92 kv_X6_victim kc_X6_victim M rfl rfl vcX6 rfl (by rw [hlv]; exact hlev) (by decide) (Nat.le_of_ble_eq_true rfl) (by rw [hmc]; omega) (by rw [hms]; omega) (fun m h => by rw [hw]; exact h) (nvA_c (nv_R hnw.2.2.2.2.1) (nvA_c (nv_R hnw.2.1) nvA_0)) (nvB_c nv_I' (nvB_c (nv_R' hnw.2.1) nvB_0)) ?_
  refine ex_catch (i := 2) (x := (0, 8, 11, 55)) (pre := []) (hp' := 12) C htab rfl prel (by decide) (by decide) (by decide) (by decide) kl_L_55 dL_victim_11 (Or.inl ⟨2, rfl, rfl, rfl⟩) (by decide) rfl ?_
  refine ev_s C dL_victim_12 (q := 13) rfl rfl ?_
  exact ev_iret C hr dL_victim_13 (by rw [hmc]; omega) (by rw [hms]; omega) (po_1 hPo rfl rfl)
set_option maxHeartbeats 4000000 in
set_option maxRecDepth 100000 in
theorem w_smoothShare {u v u' : SS} {p : Nat → Int} {q : Nat → UInt64} {x : UInt32} {lev mc ms : Nat} {nw : Nat → Prop} (hlev : lev < 12) (hnw : okn nw) (hx : vf_n64 (FP.f2d x)) (M : Cn yX6_smoothShare (wsy yX6_smoothShare cX6_smoothShare 1 (some .float)) lev mc ms nw [vR (some 1000)] (mk u v (gO p q)) (.inl (some (vF x), mk u' v (gO p q)))) : Cn yL_smoothShare (wsh yL_smoothShare cL_smoothShare 3 (some .int) [((0), (8), (11), (100))]) 12 mc ms nw [vR (some 1000), vR (some 101)] (mk u v (gO p q)) (.inl (some (vI 0), mk u' v (gO p (qst q (FP.f2d x))))) := by
  refine con_w (lv := [(0, vR (some 1000)), (1, vR (some 101))]) (by decide) kh_L_smoothShare hnw (fun ad => Nat.le_of_ble_eq_true rfl) (fun ad => rfl) rfl ?_
  intro k C hr hlv hmc hms hw hPo htab
  refine ev_s C dL_smoothShare_0 (q := 1) rfl rfl ?_
  refine ev_s C dL_smoothShare_1 (q := 2) rfl rfl ?_
  refine ev_s C dL_smoothShare_2 (q := 3) rfl rfl ?_
  refine ev_cVn C dL_smoothShare_3 (q := 6) rfl km_L_96 kv_X6_smoothShare kc_X6_smoothShare M rfl rfl vcX6 rfl (by rw [hlv]; exact hlev) (by decide) (Nat.le_of_ble_eq_true rfl) (by rw [hmc]; omega) (by rw [hms]; omega) (fun m h => by rw [hw]; exact h) (nvA_c (nv_R hnw.2.2.2.2.1) (nvA_c (nv_R hnw.2.2.1) nvA_0)) (nvB_c nv_I' (nvB_c (nv_R' hnw.2.2.1) nvB_0)) ?_
  refine ev_f2d C dL_smoothShare_6 (q := 7) rfl hx ?_
  refine ev_dast (n := 101) (len := 1) (f := fun j => vD (q j)) C dL_smoothShare_7 (q := 8) rfl rfl (by unfold rg; decide) (by decide) (by decide) gO_q ?_
  refine ev_goto C dL_smoothShare_8 (tgt := 14) (by decide) ?_
  refine ev_s C dL_smoothShare_14 (q := 15) rfl rfl ?_
  exact ev_iret C hr dL_smoothShare_15 (by rw [hmc]; omega) (by rw [hms]; omega) (po_1 hPo rfl rfl)
set_option maxHeartbeats 4000000 in
set_option maxRecDepth 100000 in
theorem wx_smoothShare_1 {u v u' : SS} {p : Nat → Int} {q : Nat → UInt64} {lev mc ms : Nat} {nw : Nat → Prop} (hlev : lev < 12) (hnw : okn nw) (M : Cn yX6_smoothShare (wsy yX6_smoothShare cX6_smoothShare 1 (some .float)) lev mc ms nw [vR (some 1000)] (mk u v (gO p q)) (.inr ("java/lang/ArithmeticException", mk u' v (gO p q)))) : Cn yL_smoothShare (wsh yL_smoothShare cL_smoothShare 3 (some .int) [((0), (8), (11), (100))]) 12 mc ms nw [vR (some 1000), vR (some 101)] (mk u v (gO p q)) (.inl (some (vI 1), mk u' v (gO p q))) := by
  refine con_w (lv := [(0, vR (some 1000)), (1, vR (some 101))]) (by decide) kh_L_smoothShare hnw (fun ad => Nat.le_of_ble_eq_true rfl) (fun ad => rfl) rfl ?_
  intro k C hr hlv hmc hms hw hPo htab
  refine ev_s C dL_smoothShare_0 (q := 1) rfl rfl ?_
  refine ev_s C dL_smoothShare_1 (q := 2) rfl rfl ?_
  refine ev_s C dL_smoothShare_2 (q := 3) rfl rfl ?_
  refine ev_cVE C dL_smoothShare_3 km_L_96 kv_X6_smoothShare kc_X6_smoothShare M rfl rfl vcX6 rfl (by rw [hlv]; exact hlev) (by decide) (Nat.le_of_ble_eq_true rfl) (by rw [hmc]; omega) (by rw [hms]; omega) (fun m h => by rw [hw]; exact h) (nvA_c (nv_R hnw.2.2.2.2.1) (nvA_c (nv_R hnw.2.2.1) nvA_0)) (nvB_c nv_I' (nvB_c (nv_R' hnw.2.2.1) nvB_0)) ?_
  refine ex_catch (i := 2) (x := (0, 8, 11, 100)) (pre := []) (hp' := 12) C htab rfl prel (by decide) (by decide) (by decide) (by decide) kl_L_100 dL_smoothShare_11 (Or.inl ⟨2, rfl, rfl, rfl⟩) (by decide) rfl ?_
  refine ev_s C dL_smoothShare_12 (q := 13) rfl rfl ?_
  exact ev_iret C hr dL_smoothShare_13 (by rw [hmc]; omega) (by rw [hms]; omega) (po_1 hPo rfl rfl)
set_option maxHeartbeats 4000000 in
set_option maxRecDepth 100000 in
theorem w_meanStalls {u v u' : SS} {p : Nat → Int} {q : Nat → UInt64} {x : UInt64} {lev mc ms : Nat} {nw : Nat → Prop} (hlev : lev < 12) (hnw : okn nw) (M : Cn yX6_meanStalls (wsy yX6_meanStalls cX6_meanStalls 1 (some .double)) lev mc ms nw [vR (some 1000)] (mk u v (gO p q)) (.inl (some (vD x), mk u' v (gO p q)))) : Cn yL_meanStalls (wsh yL_meanStalls cL_meanStalls 3 (some .int) [((0), (7), (10), (100))]) 12 mc ms nw [vR (some 1000), vR (some 101)] (mk u v (gO p q)) (.inl (some (vI 0), mk u' v (gO p (qst q x)))) := by
  refine con_w (lv := [(0, vR (some 1000)), (1, vR (some 101))]) (by decide) kh_L_meanStalls hnw (fun ad => Nat.le_of_ble_eq_true rfl) (fun ad => rfl) rfl ?_
  intro k C hr hlv hmc hms hw hPo htab
  refine ev_s C dL_meanStalls_0 (q := 1) rfl rfl ?_
  refine ev_s C dL_meanStalls_1 (q := 2) rfl rfl ?_
  refine ev_s C dL_meanStalls_2 (q := 3) rfl rfl ?_
  refine ev_cVn C dL_meanStalls_3 (q := 6) rfl km_L_102 kv_X6_meanStalls kc_X6_meanStalls M rfl rfl vcX6 rfl (by rw [hlv]; exact hlev) (by decide) (Nat.le_of_ble_eq_true rfl) (by rw [hmc]; omega) (by rw [hms]; omega) (fun m h => by rw [hw]; exact h) (nvA_c (nv_R hnw.2.2.2.2.1) (nvA_c (nv_R hnw.2.2.1) nvA_0)) (nvB_c nv_I' (nvB_c (nv_R' hnw.2.2.1) nvB_0)) ?_
  refine ev_dast (n := 101) (len := 1) (f := fun j => vD (q j)) C dL_meanStalls_6 (q := 7) rfl rfl (by unfold rg; decide) (by decide) (by decide) gO_q ?_
  refine ev_goto C dL_meanStalls_7 (tgt := 13) (by decide) ?_
  refine ev_s C dL_meanStalls_13 (q := 14) rfl rfl ?_
  exact ev_iret C hr dL_meanStalls_14 (by rw [hmc]; omega) (by rw [hms]; omega) (po_1 hPo rfl rfl)
set_option maxHeartbeats 4000000 in
set_option maxRecDepth 100000 in
theorem wx_meanStalls_1 {u v u' : SS} {p : Nat → Int} {q : Nat → UInt64} {lev mc ms : Nat} {nw : Nat → Prop} (hlev : lev < 12) (hnw : okn nw) (M : Cn yX6_meanStalls (wsy yX6_meanStalls cX6_meanStalls 1 (some .double)) lev mc ms nw [vR (some 1000)] (mk u v (gO p q)) (.inr ("java/lang/ArithmeticException", mk u' v (gO p q)))) : Cn yL_meanStalls (wsh yL_meanStalls cL_meanStalls 3 (some .int) [((0), (7), (10), (100))]) 12 mc ms nw [vR (some 1000), vR (some 101)] (mk u v (gO p q)) (.inl (some (vI 1), mk u' v (gO p q))) := by
  refine con_w (lv := [(0, vR (some 1000)), (1, vR (some 101))]) (by decide) kh_L_meanStalls hnw (fun ad => Nat.le_of_ble_eq_true rfl) (fun ad => rfl) rfl ?_
  intro k C hr hlv hmc hms hw hPo htab
  refine ev_s C dL_meanStalls_0 (q := 1) rfl rfl ?_
  refine ev_s C dL_meanStalls_1 (q := 2) rfl rfl ?_
  refine ev_s C dL_meanStalls_2 (q := 3) rfl rfl ?_
  refine ev_cVE C dL_meanStalls_3 km_L_102 kv_X6_meanStalls kc_X6_meanStalls M rfl rfl vcX6 rfl (by rw [hlv]; exact hlev) (by decide) (Nat.le_of_ble_eq_true rfl) (by rw [hmc]; omega) (by rw [hms]; omega) (fun m h => by rw [hw]; exact h) (nvA_c (nv_R hnw.2.2.2.2.1) (nvA_c (nv_R hnw.2.2.1) nvA_0)) (nvB_c nv_I' (nvB_c (nv_R' hnw.2.2.1) nvB_0)) ?_
  refine ex_catch (i := 2) (x := (0, 7, 10, 100)) (pre := []) (hp' := 11) C htab rfl prel (by decide) (by decide) (by decide) (by decide) kl_L_100 dL_meanStalls_10 (Or.inl ⟨2, rfl, rfl, rfl⟩) (by decide) rfl ?_
  refine ev_s C dL_meanStalls_11 (q := 12) rfl rfl ?_
  exact ev_iret C hr dL_meanStalls_12 (by rw [hmc]; omega) (by rw [hms]; omega) (po_1 hPo rfl rfl)
