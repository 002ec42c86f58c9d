/-! CALLS, THROWS, HANDLERS -/
section CA
variable {k : Kx} {own : String} {cc : ByteArray} {nL : Nat} {pc q tgt : Nat} {lv lv' : List (Nat × AV)} {st st' : List AV} {G G' : GH} {ct sl : Nat}
def nov (nw : Nat → Prop) (v : AV) : Prop := ∀ n, rfo v = some n → ¬ nw n
theorem cv_nov {ad ad' : Nat → Nat} {nw : Nat → Prop} {v : AV} (h : nov nw v) (he : ∀ n, ¬ nw n → ad' n = ad n) : cv ad' v = cv ad v := by
  rcases v with x | (_ | r) | x | x | x
  · rfl
  · rfl
  · exact congrArg Value.ref (he r (h r rfl))
  · rfl
  · rfl
  · rfl
theorem gA_kA {ad : Nat → Nat} {H : Heap} {locs : List Loc} (C : CX k own cc nL) (hM : MS k ad G H locs) : ∀ q, gA ad G H.size q → kA k q := fun q h => by
  rcases h with ⟨n, hn, rfl⟩ | h
  · exact hM.2.2.1 n hn
  · exact C.2.2.2.2.2.2.2.2.2.2.1 q (Nat.le_trans hM.2.2.2.2.2.1 h)
theorem ms_fn {ad ad' : Nat → Nat} {H : Heap} {locs L : List Loc} {nwc : Nat → Prop} {st₀ t T' : State} (C : CX k own cc nL) (hM : MS k ad G H locs) (hn : ∀ n, nwc n → knw k n) (h0 : st₀.heap = H) (e1 : T'.heap = t.heap) (hL : ∀ z ∈ L, gA ad G H.size z.base) (hF : FN (kD k) (kdT k) ad nwc G (gA ad G H.size) G' ad' st₀ t) : MS k ad' G' T'.heap (locs ++ L) := by
  obtain ⟨f1, f2, f3, f4, f5, f6, f7⟩ := hF
  obtain ⟨-, -, h3⟩ := vx_keep h0 e1 hM.2.2.2.2.2 (fun q _ h => gA_kA C hM q h) (gA_kA C hM) hL f7
  exact ⟨by rw [e1]; exact f2, f3, fun n hn => gA_kA C hM _ (f4 n hn), fun n h => (f5 n (fun z => h (hn n z))).trans (hM.2.2.2.1 n h), fun n h => f6 n (hM.2.2.2.2.1 n h), h3⟩
theorem okv_dom {v : AV} (h : okv G v) (hd : ∀ n, G n ≠ none → G' n ≠ none) : okv G' v := fun n hn => (h n hn).imp (hd n) id
theorem ev_fin {ad : Nat → Nat} {H : Heap} {locs : List Loc} {ls : Array Slot} {mc ms : Nat} {nwc : Nat → Prop} {Po : Option AV → GH → Prop} {Px : String → GH → Prop} {aa : Array Value} {st0 : List Value} (C : CX k own cc nL) (hO : OKS G lv st) (hM : MS k ad G H locs) (hl : lv_has ls (kc k).maxLocals (cvl ad lv))
    (hr : vx_Run (kp k) (kl k) (ke k) (kR k) (ks k) (km k) (ka k) (kb k) (kmeth k) (kc k) H locs ct sl mc ms (F0 (km k) pc ls st0) (st.map (cv ad)) (QN (kD k) (kdT k) ad nwc G (gA ad G H.size) Po aa) (XN (kD k) (kdT k) ad nwc G (gA ad G H.size) Px) (gA ad G H.size))
    (hn : ∀ n, nwc n → knw k n) (hv1 : ∀ a ∈ lv, nov nwc a.2) (hv2 : ∀ v ∈ st, nov nwc v)
    (kx : ∀ E G', Px E G' → EX k E pc lv G' (ct + mc) (sl + ms)) (kk : ∀ r G', Po r G' → EV k (pc + 3) lv (r.toList ++ st) G' (ct + mc) (sl + ms)) : WK k H locs ct sl pc ls st0 := by
  intro T hT X
  rcases hr T hT X with ⟨v, st₀, t, T', L, h0, X', hL, e1, e2, ⟨r, G', ad', hv, hP, hro, hF⟩, go⟩ | ⟨qx, st₀, t, T', L, E, ce, h0, X', hL, e1, e2, ⟨G', ad', hP, hF⟩, hce, hcv, hcl, go⟩
  · cases hv
    have hM' := ms_fn C hM hn h0 e1 hL hF
    have hlv : cvl ad' lv = cvl ad lv := List.map_congr_left fun a ha => by rw [cv_nov (hv1 a ha) hF.2.2.2.2.1]
    have hst : ∀ w : List AV, (∀ v ∈ w, nov nwc v) → w.map (cv ad') = w.map (cv ad) := fun w hw => List.map_congr_left fun a ha => cv_nov (hw a ha) hF.2.2.2.2.1
    obtain ⟨t2, a1, b1⟩ := kk r G' hP ⟨hF.1, fun a ha => okv_dom (hO.2.1 a ha) hF.2.2.2.2.2.1, fun v hv => by
      rcases List.mem_append.mp hv with hv | hv
      · exact hro v (by cases r with | none => cases hv | some w => exact (List.mem_singleton.mp hv) ▸ rfl)
      · exact okv_dom (hO.2.2 v hv) hF.2.2.2.2.2.1⟩ ad' T'.heap (locs ++ L) ls hM' (by rw [hlv]; exact hl) T' rfl X'
    refine ⟨t2, go t2 ?_, b1⟩
    have e : (r.toList ++ st).map (cv ad') = (r.map (cv ad')).toList ++ st.map (cv ad) := by rw [List.map_append, hst _ hv2]; cases r <;> rfl
    rw [e] at a1
    exact a1
  · have hM' := ms_fn C hM hn h0 e1 hL hF
    have hlv : cvl ad' lv = cvl ad lv := List.map_congr_left fun a ha => by rw [cv_nov (hv1 a ha) hF.2.2.2.2.1]
    obtain ⟨t2, a1, b1⟩ := kx E G' hP ⟨hF.1, fun a ha => okv_dom (hO.2.1 a ha) hF.2.2.2.2.2.1, fun v hv => nomatch hv⟩ ad' T'.heap (locs ++ L) ls _ qx ce hM' (by rw [hlv]; exact hl) (by rw [e1]; exact hce) hcv hcl T' rfl X'
    exact ⟨t2, go.trans a1, b1⟩
theorem pn_of {ad : Nat → Nat} {H : Heap} {locs : List Loc} {av : List AV} (C : CX k own cc nL) (hO : okG G) (hav : ∀ v ∈ av, okv G v) (hM : MS k ad G H locs) (U : State) (hU : U.heap = H) (hW : (ks k).WarmedH U.vm) : PN (kD k) (kdT k) ad G av H.size (av.map (cv ad)).toArray U := by
  obtain ⟨hx, hb, hml, hown, hts, hlk, htr, hK, hH, hV, hA, hn1, hn2⟩ := id C
  have h13 : ad 1013 = kad k 1013 := hM.2.2.2.1 1013 hn1
  refine ⟨rfl, by rw [hU], hO, hav, by rw [hU]; exact hM.1, hM.2.1, va_K.moved hW.alike hK, ?_, hV.warm hW⟩
  rw [hU]
  exact (((hH.kept hM.2.2.2.2.2.2.1).narrow (gA_kA C hM)).moved hW.alike).ad h13 (hM.2.2.2.1 1014 hn2.2)
theorem wsy_good {y : MethodName} {bytes : ByteArray} {maxL : Nat} {ret : Option FieldType} (hc : Cond.code y bytes maxL ret ∈ lw_good) : GoodIn lw_good (wsy y bytes maxL ret) := fun w hw => (List.mem_cons.mp hw).elim (fun e => e ▸ lw_goodIn _ hc) (lw_goodIn w)
theorem cb_of {y : MethodName} {bytes : ByteArray} {maxL lev mc ms index na : Nat} {ret : Option FieldType} (C : CX k own cc nL) (M : MLk own index y na) (hc : Cond.code y bytes maxL ret ∈ lw_good) (hlev : lev < klev k) (hml : maxL ≤ 41) : CallB (kR k) (ks k) (ka k) own index y bytes maxL ret (wsy y bytes maxL ret) (rmk lev mc ms) mc ms na :=
  callB_of na C.2.2.2.2.1 (wsy_good hc) rfl rfl rfl (C.2.2.2.2.1 _ M.2.1) (C.2.2.2.2.1 _ M.1) M.2.2 ⟨by show 20 + 2 * lev + 1 ≤ 20 + 2 * klev k; omega, by show 8 + (maxL + 11) + (300 + 60 * lev) ≤ 300 + 60 * klev k; omega⟩
def wdt (st : List AV) : Nat := (st.map (fun v => if c2 v then 2 else 1)).sum
theorem wdt_ok {ad : Nat → Nat} (h : wdt st ≤ 8) : ((st.map (cv ad)).map fun v => v.category).sum ≤ 8 := by
  unfold wdt at h
  rw [List.map_map]
  have e : (fun v => v.category) ∘ cv ad = fun v => if c2 v then 2 else 1 := by funext v; exact cv_cat ad v
  rw [e]
  exact h
theorem ev_callV {y : MethodName} {bytes : ByteArray} {maxL lev mc ms index na n ci : Nat} {ret : Option FieldType} {nwc : Nat → Prop} {As : List AV} {Po : Option AV → GH → Prop} {Px : String → GH → Prop} {fs : List AV} {T : u_T} {N : Nat} {st0 : List AV} (C : CX k own cc nL) (hd : decode cc pc = .ok (.invokevirtual index, 3)) (hq : pc + 3 = q)
    (Mk : MLk own index y na) (Mv : MLv y) (hcode : Cond.code y bytes maxL ret ∈ lw_good) (M : Con y (wsy y bytes maxL ret) lev mc ms nwc (vR (some n) :: As) G Po Px) (hst : st0 = As.reverse ++ vR (some n) :: st) (hna : As.length = na) (hci : vwCl[ci]? = some (y.cls, T, N)) (hG : G n = some (.inl (ci, fs)))
    (hlev : lev < klev k) (hml : maxL ≤ 41) (hw : wdt st ≤ 8) (hct : ct + mc ≤ kmc k) (hsl : sl + ms ≤ kms k) (hn : ∀ m, nwc m → knw k m) (hv1 : ∀ a ∈ lv, nov nwc a.2) (hv2 : ∀ v ∈ st, nov nwc v)
    (kx : ∀ E G', Px E G' → EX k E pc lv G' (ct + mc) (sl + ms)) (kk : ∀ r G', Po r G' → EV k q lv (r.toList ++ st) G' (ct + mc) (sl + ms)) : EV k pc lv st0 G ct sl := by
  subst hq
  subst hst
  intro hO ad H locs ls hM hl
  have hav : ∀ v ∈ vR (some n) :: As, okv G v := fun v hv => hO.2.2 v (by
    rcases List.mem_cons.mp hv with rfl | hv
    · exact List.mem_append_right _ List.mem_cons_self
    · exact List.mem_append_left _ (List.mem_reverse.mpr hv))
  obtain ⟨r', hr', cell, g1, g2, g3, -⟩ := hM.1 n _ hG
  have hcls := (C.2.2.2.2.2.2.2.1.1 ci _ hci).2
  have hlo : OKS G lv st := ⟨hO.1, hO.2.1, fun v hv => hO.2.2 v (List.mem_append_right _ (List.mem_cons_of_mem _ hv))⟩
  refine ev_fin C hlo hM hl (vx_runV (As := As.map (cv ad)) ⟨C.1, C.2.1, C.2.2.1, C.2.2.2.1, C.2.2.2.2.1⟩ (M (kl k) (kD k) (kdT k) ad H.size C.2.2.2.2.2.2.1) ⟨cb_of C Mk hcode hlev hml, C.2.2.2.2.1 _ Mv.1, C.2.2.2.2.1 _ Mv.2⟩ ⟨PN.blind, ⟨cell, g1, by rw [g3]; rfl, by rw [g2]; exact hcls.1⟩, fun U hU hW => pn_of C hO.1 hav hM U hU hW⟩ rfl (by rw [List.length_map]; exact hna) (hl.1.trans C.2.2.1) (by rw [List.map_append, List.map_reverse]; rfl) (lv_room (wdt_ok hw)) hd ⟨hct, hsl⟩) hn hv1 hv2 kx kk
theorem ev_callS {y : MethodName} {bytes : ByteArray} {maxL lev mc ms index na : Nat} {ret : Option FieldType} {nwc : Nat → Prop} {As : List AV} {Po : Option AV → GH → Prop} {Px : String → GH → Prop} {st0 : List AV} (C : CX k own cc nL) (hd : decode cc pc = .ok (.invokestatic index, 3)) (hq : pc + 3 = q)
    (Mk : MLk own index y na) (Ms : Cond.static y ∈ lw_good) (hcode : Cond.code y bytes maxL ret ∈ lw_good) (M : Con y (wsy y bytes maxL ret) lev mc ms nwc As G Po Px) (hst : st0 = As.reverse ++ st) (hna : As.length = na)
    (hlev : lev < klev k) (hml : maxL ≤ 41) (hw : wdt st ≤ 8) (hct : ct + mc ≤ kmc k) (hsl : sl + ms ≤ kms k) (hn : ∀ m, nwc m → knw k m) (hv1 : ∀ a ∈ lv, nov nwc a.2) (hv2 : ∀ v ∈ st, nov nwc v)
    (kx : ∀ E G', Px E G' → EX k E pc lv G' (ct + mc) (sl + ms)) (kk : ∀ r G', Po r G' → EV k q lv (r.toList ++ st) G' (ct + mc) (sl + ms)) : EV k pc lv st0 G ct sl := by
  subst hq
  subst hst
  intro hO ad H locs ls hM hl
  have hav : ∀ v ∈ As, okv G v := fun v hv => hO.2.2 v (List.mem_append_left _ (List.mem_reverse.mpr hv))
  have hlo : OKS G lv st := ⟨hO.1, hO.2.1, fun v hv => hO.2.2 v (List.mem_append_right _ hv)⟩
  refine ev_fin C hlo hM hl (vx_runS (As := As.map (cv ad)) ⟨C.1, C.2.1, C.2.2.1, C.2.2.2.1, C.2.2.2.2.1⟩ (M (kl k) (kD k) (kdT k) ad H.size C.2.2.2.2.2.2.1) ⟨cb_of C Mk hcode hlev hml, C.2.2.2.2.1 _ Ms⟩ ⟨PN.blind, fun U hU hW => pn_of C hO.1 hav hM U hU hW⟩ rfl (by rw [List.length_map]; exact hna) (hl.1.trans C.2.2.1) (by rw [List.map_append, List.map_reverse]) (lv_room (wdt_ok hw)) hd ⟨hct, hsl⟩) hn hv1 hv2 kx kk
/-- a static call of a method with handlers -/
theorem ev_callH {y : MethodName} {bytes : ByteArray} {maxL lev mc ms index na : Nat} {ret : Option FieldType} {hh : List (Nat × Nat × Nat × Nat)} {nwc : Nat → Prop} {As : List AV} {Po : Option AV → GH → Prop} {Px : String → GH → Prop} {st0 : List AV} (C : CX k own cc nL) (hd : decode cc pc = .ok (.invokestatic index, 3)) (hq : pc + 3 = q)
    (Mk : MLk own index y na) (Ms : Cond.static y ∈ lw_good) (hcode : Cond.codeWith y bytes maxL ret hh ∈ lw_good) (M : Con y (wsh y bytes maxL ret hh) lev mc ms nwc As G Po Px) (hst : st0 = As.reverse ++ st) (hna : As.length = na)
    (hlev : lev < klev k) (hml : maxL ≤ 41) (hw : wdt st ≤ 8) (hct : ct + mc ≤ kmc k) (hsl : sl + ms ≤ kms k) (hn : ∀ m, nwc m → knw k m) (hv1 : ∀ a ∈ lv, nov nwc a.2) (hv2 : ∀ v ∈ st, nov nwc v)
    (kx : ∀ E G', Px E G' → EX k E pc lv G' (ct + mc) (sl + ms)) (kk : ∀ r G', Po r G' → EV k q lv (r.toList ++ st) G' (ct + mc) (sl + ms)) : EV k pc lv st0 G ct sl := by
  subst hq
  subst hst
  intro hO ad H locs ls hM hl
  have hav : ∀ v ∈ As, okv G v := fun v hv => hO.2.2 v (List.mem_append_left _ (List.mem_reverse.mpr hv))
  have hlo : OKS G lv st := ⟨hO.1, hO.2.1, fun v hv => hO.2.2 v (List.mem_append_right _ hv)⟩
  have hgd : GoodIn lw_good (wsh y bytes maxL ret hh) := fun w hw => (List.mem_cons.mp hw).elim (fun e => e ▸ lw_goodIn _ hcode) (lw_goodIn w)
  refine ev_fin C hlo hM hl (vx_runSX (hh := hh) (As := As.map (cv ad)) (n := na) ⟨C.1, C.2.1, C.2.2.1, C.2.2.2.1, C.2.2.2.2.1⟩ (M (kl k) (kD k) (kdT k) ad H.size C.2.2.2.2.2.2.1)
    ⟨⟨rfl, rfl, by show 20 + 2 * lev + 1 ≤ 20 + 2 * klev k; omega, by show 8 + (maxL + 11) + (300 + 60 * lev) ≤ 300 + 60 * klev k; omega, pay_in C.2.2.2.2.1 hgd, List.mem_cons_self⟩, C.2.2.2.2.1 _ hcode, C.2.2.2.2.1 _ Mk.2.1, ⟨Mk.2.2.1, Mk.2.2.2.1⟩, fun sig h => by have h2 := Mk.2.2.2.2; rw [h] at h2; exact (Option.some.inj h2).symm, C.2.2.2.2.1 _ Mk.1, C.2.2.2.2.1 _ Ms⟩
    ⟨PN.blind, fun U hU hW => pn_of C hO.1 hav hM U hU hW⟩ rfl (by rw [List.length_map]; exact hna) (hl.1.trans C.2.2.1) (by rw [List.map_append, List.map_reverse]) (lv_room (wdt_ok hw)) hd ⟨hct, hsl⟩) hn hv1 hv2 kx kk
theorem met_of_vx {l : Launch} {y : MethodName} {ws : List Cond} {rm : Room} {Pc : Array Value → State → Prop} {Qc : Array Value → State → Outcome → State → Prop} {XC : String → State → State → Prop} {mc ms : Nat} {free : Addr → Prop} (hX : ∀ E st t, ¬ XC E st t) (h : vx_Met l y ws rm Pc Qc XC mc ms free) : Met l y ws rm Pc Qc mc ms free := by
  intro p e ha hc hk s m args below hf happ hP hK
  obtain ⟨n, o, h1, h2, h3, h4⟩ := h p e ha hc hk s m args below hf happ hP hK
  rcases h4 with ⟨a, b⟩ | ⟨q, rfl, E, ce, L, hx, -⟩
  · exact ⟨n, o, h1, h2, h3, a, b⟩
  · exact absurd hx (hX _ _ _)
theorem run_of {p : Program} {l : Launch} {e : Env} {R : Room} {s : State} {m : MethodId} {args : Array Value} {below : List Frame} {meth : Method} {c : Code} {H : Heap} {locs : List Loc} {cells slots mc ms : Nat} {g : JFrame} {rest : List Value} {Qa : State → Outcome → State → Prop} {XC : String → State → State → Prop} {free : Addr → Prop} (h : va_Run p l e R s m args below meth c H locs cells slots mc ms g rest Qa free) : vx_Run p l e R s m args below meth c H locs cells slots mc ms g rest Qa XC free :=
  fun T hT X => Or.inl (h T hT X)
/-- a constructor -/
theorem ev_callI {y : MethodName} {bytes : ByteArray} {maxL lev mc ms index na n : Nat} {nwc : Nat → Prop} {As : List AV} {Po : Option AV → GH → Prop} {st0 : List AV} (C : CX k own cc nL) (hd : decode cc pc = .ok (.invokespecial index, 3)) (hq : pc + 3 = q)
    (Mk : MLk own index y na) (Mi : Cond.instanceMethod y ∈ lw_good ∧ y.name = "<init>") (hcode : Cond.code y bytes maxL none ∈ lw_good) (M : Con y (wsy y bytes maxL none) lev mc ms nwc (vR (some n) :: As) G Po (fun _ _ => False)) (hst : st0 = As.reverse ++ vR (some n) :: st) (hna : As.length = na)
    (hlev : lev < klev k) (hml : maxL ≤ 41) (hw : wdt st ≤ 8) (hct : ct + mc ≤ kmc k) (hsl : sl + ms ≤ kms k) (hn : ∀ m, nwc m → knw k m) (hv1 : ∀ a ∈ lv, nov nwc a.2) (hv2 : ∀ v ∈ st, nov nwc v)
    (kk : ∀ r G', Po r G' → EV k q lv (r.toList ++ st) G' (ct + mc) (sl + ms)) : EV k pc lv st0 G ct sl := by
  subst hq
  subst hst
  intro hO ad H locs ls hM hl
  have hav : ∀ v ∈ vR (some n) :: As, okv G v := fun v hv => hO.2.2 v (by
    rcases List.mem_cons.mp hv with rfl | hv
    · exact List.mem_append_right _ List.mem_cons_self
    · exact List.mem_append_left _ (List.mem_reverse.mpr hv))
  have hlo : OKS G lv st := ⟨hO.1, hO.2.1, fun v hv => hO.2.2 v (List.mem_append_right _ (List.mem_cons_of_mem _ hv))⟩
  refine ev_fin (Px := fun _ _ => False) C hlo hM hl (run_of (va_runI (As := As.map (cv ad)) ⟨C.1, C.2.1, C.2.2.1, C.2.2.2.1, C.2.2.2.2.1⟩ (met_of_vx (fun E st t h => by obtain ⟨_, _, h, -⟩ := h; exact h) (M (kl k) (kD k) (kdT k) ad H.size C.2.2.2.2.2.2.1)) ⟨cb_of C Mk hcode hlev hml, Mi.2, C.2.2.2.2.1 _ Mi.1⟩ ⟨PN.blind, fun U hU hW => pn_of C hO.1 hav hM U hU hW⟩ rfl (by rw [List.length_map]; exact hna) (hl.1.trans C.2.2.1) (by rw [List.map_append, List.map_reverse]; rfl) (lv_room (wdt_ok hw)) hd ⟨hct, hsl⟩)) hn hv1 hv2 (fun _ _ h => h.elim) kk
/-- a nest mate's private constructor -/
theorem ev_callIN {y : MethodName} {host : String} {bytes : ByteArray} {maxL lev mc ms index na n : Nat} {nwc : Nat → Prop} {As : List AV} {Po : Option AV → GH → Prop} {st0 : List AV} (C : CX k "Swapyard" cc nL) (hd : decode cc pc = .ok (.invokespecial index, 3)) (hq : pc + 3 = q)
    (Mn : (index, y, host) ∈ nst0) (Mk : Cond.initialized y.cls ∈ lw_good ∧ (y.cls ≠ "java/lang/invoke/MethodHandle" ∧ y.cls ≠ "java/lang/invoke/VarHandle" ∧ (parseMethodDescriptor y.desc).map (fun d => d.parameters.length) = some na)) (Mi : Cond.instanceMethod y ∈ lw_good ∧ y.name = "<init>") (hcode : Cond.code y bytes maxL none ∈ lw_good) (M : Con y (wsy y bytes maxL none) lev mc ms nwc (vR (some n) :: As) G Po (fun _ _ => False)) (hst : st0 = As.reverse ++ vR (some n) :: st) (hna : As.length = na)
    (hlev : lev < klev k) (hml : maxL ≤ 41) (hw : wdt st ≤ 8) (hct : ct + mc ≤ kmc k) (hsl : sl + ms ≤ kms k) (hn : ∀ m, nwc m → knw k m) (hv1 : ∀ a ∈ lv, nov nwc a.2) (hv2 : ∀ v ∈ st, nov nwc v)
    (kk : ∀ r G', Po r G' → EV k q lv (r.toList ++ st) G' (ct + mc) (sl + ms)) : EV k pc lv st0 G ct sl := by
  subst hq
  subst hst
  intro hO ad H locs ls hM hl
  have hav : ∀ v ∈ vR (some n) :: As, okv G v := fun v hv => hO.2.2 v (by
    rcases List.mem_cons.mp hv with rfl | hv
    · exact List.mem_append_right _ List.mem_cons_self
    · exact List.mem_append_left _ (List.mem_reverse.mpr hv))
  have hlo : OKS G lv st := ⟨hO.1, hO.2.1, fun v hv => hO.2.2 v (List.mem_append_right _ (List.mem_cons_of_mem _ hv))⟩
  have hV : VF strl0 nst0 (ks k) := C.2.2.2.2.2.2.2.2.2.1
  refine ev_fin (Px := fun _ _ => False) C hlo hM hl (run_of (va_runIN (host := host) (As := As.map (cv ad)) ⟨C.1, C.2.1, C.2.2.1, C.2.2.2.1, C.2.2.2.2.1⟩ (met_of_vx (fun E st t h => by obtain ⟨_, _, h, -⟩ := h; exact h) (M (kl k) (kD k) (kdT k) ad H.size C.2.2.2.2.2.2.1))
    ⟨va_cnB na C.2.2.2.2.1 (wsy_good hcode) rfl rfl rfl (hV.2.2.2.2.2.2.2.1 _ Mn) (C.2.2.2.2.1 _ Mk.1) Mk.2 ⟨by show 20 + 2 * lev + 1 ≤ 20 + 2 * klev k; omega, by show 8 + (maxL + 11) + (300 + 60 * lev) ≤ 300 + 60 * klev k; omega⟩, Mi.2, C.2.2.2.2.1 _ Mi.1⟩ ⟨PN.blind, fun U hU hW => pn_of C hO.1 hav hM U hU hW⟩ rfl (by rw [List.length_map]; exact hna) (hl.1.trans C.2.2.1) (by rw [List.map_append, List.map_reverse]; rfl) (lv_room (wdt_ok hw)) hd ⟨hct, hsl⟩)) hn hv1 hv2 (fun _ _ h => h.elim) kk
-- throws
theorem rtx_fit : ∀ n ∈ rtx, Bundle.fit n = true := by decide
theorem wdt_cat {ad : Nat → Nat} : ((st.map (cv ad)).map fun v => v.category).sum = wdt st := by
  unfold wdt
  rw [List.map_map]
  have e : (fun v => v.category) ∘ cv ad = fun v => if c2 v then 2 else 1 := by funext v; exact cv_cat ad v
  rw [e]
theorem xn_of {ad : Nat → Nat} {H : Heap} {locs : List Loc} {cls : String} {t : State} (hO : okG G) (hM : MS k ad G H locs) (hP : kPx k cls G) (h1 : H.size ≤ t.heap.size) (h2 : ∀ q : Nat, q < H.size → t.heap[q]? = H[q]?) : XN (kD k) (kdT k) (kad k) (knw k) (kG k) (kA k) (kPx k) cls (ks k) t := by
  refine ⟨G, ad, hP, hO, fun m d hm => ?_, hM.2.1, hM.2.2.1, hM.2.2.2.1, hM.2.2.2.2.1, ⟨Nat.le_trans hM.2.2.2.2.2.1 h1, fun q g1 g2 => (h2 q (Nat.lt_of_lt_of_le g1 hM.2.2.2.2.2.1)).trans (hM.2.2.2.2.2.2.1 q g1 g2)⟩⟩
  have h := hM.1 m d hm
  refine nrp1_kept h (h2 _ ?_)
  cases d with
  | inl o =>
    obtain ⟨r, -, cell, q1, -⟩ := h
    exact (Array.getElem?_eq_some_iff.mp q1).1
  | inr a => exact (Array.getElem?_eq_some_iff.mp h.2).1
theorem ev_throw {ik is ic : Nat} {cls text : String} (C : CX k "Swapyard" cc nL) (htab : ∀ x ∈ (kc k).exceptionTable.toList, False) (M : TLk ik ic cls) (hstr : (is, text) ∈ strl0) (d0 : decode cc pc = .ok (.new ik, 3)) (d3 : decode cc (pc + 3) = .ok (.dup, 1)) (d4 : decode cc (pc + 4) = .ok (.ldc is, 2)) (d6 : decode cc (pc + 6) = .ok (.invokespecial ic, 3)) (d9 : decode cc (pc + 9) = .ok (.athrow, 1))
    (hw : wdt st ≤ 8) (hct : ct + 1 ≤ kmc k) (hsl : sl + 6 ≤ kms k) (hP : kPx k cls G) : EV k pc lv st G ct sl := by
  obtain ⟨hx, hb, hml, hown, hts, hlk, htr, hK, hH, hV, hA, hn1, hn2⟩ := id C
  obtain ⟨m1, m2, m3, m4, m5, m6, m7⟩ := M
  intro hO ad H locs ls hM hl
  obtain ⟨sa, hsa⟩ := hV.2.2.2.2.2.2.1 _ hstr
  exact vx_throwS hx hb htr hown m1 rtx_fit (hts _ m2) (hts _ m3) hsa (vx_hat (fun w hw => hts _ (m5 w hw)) m6 (vx_c (va_Nw.use rfl (hV.1 _ m4)) (fun w hw => by obtain ⟨y, hy, rfl⟩ := List.mem_map.mp hw; exact va_Nw.use rfl (hV.2.2.2.2.2.2.2.2 y hy)))) m7 hH.1 hH.2.1 hM.2.2.2.2.2 hl.1 d0 d3 d4 d6 d9 (fun x hx => (htab x hx).elim)
    (by show 2 + 3 < 20 + 2 * klev k; omega) (by rw [wdt_cat]; show wdt st + (13 * (2 + 1) + 43) ≤ 300 + 60 * klev k; omega) hct hsl hlk (fun t _ h1 h2 => xn_of hO.1 hM hP h1 h2) hM.2.2.2.2.2.2.2 hct hsl
theorem ev_throwW {ik is ic : Nat} {cls text : String} (C : CX k "Swapyard" cc nL) (htab : ∀ x ∈ (kc k).exceptionTable.toList, False) (M : TLk ik ic cls) (hstr : (is, text) ∈ strl0) (d0 : decode cc pc = .ok (.new ik, 3)) (d3 : decode cc (pc + 3) = .ok (.dup, 1)) (d4 : decode cc (pc + 4) = .ok (.ldc_w is, 3)) (d7 : decode cc (pc + 7) = .ok (.invokespecial ic, 3)) (d10 : decode cc (pc + 10) = .ok (.athrow, 1))
    (hw : wdt st ≤ 8) (hct : ct + 1 ≤ kmc k) (hsl : sl + 6 ≤ kms k) (hP : kPx k cls G) : EV k pc lv st G ct sl := by
  obtain ⟨hx, hb, hml, hown, hts, hlk, htr, hK, hH, hV, hA, hn1, hn2⟩ := id C
  obtain ⟨m1, m2, m3, m4, m5, m6, m7⟩ := M
  intro hO ad H locs ls hM hl
  obtain ⟨sa, hsa⟩ := hV.2.2.2.2.2.2.1 _ hstr
  exact vx_throwSW hx hb htr hown m1 rtx_fit (hts _ m2) (hts _ m3) hsa (vx_hat (fun w hw => hts _ (m5 w hw)) m6 (vx_c (va_Nw.use rfl (hV.1 _ m4)) (fun w hw => by obtain ⟨y, hy, rfl⟩ := List.mem_map.mp hw; exact va_Nw.use rfl (hV.2.2.2.2.2.2.2.2 y hy)))) m7 hH.1 hH.2.1 hM.2.2.2.2.2 hl.1 d0 d3 d4 d7 d10 (fun x hx => (htab x hx).elim)
    (by show 2 + 3 < 20 + 2 * klev k; omega) (by rw [wdt_cat]; show wdt st + (13 * (2 + 1) + 43) ≤ 300 + 60 * klev k; omega) hct hsl hlk (fun t _ h1 h2 => xn_of hO.1 hM hP h1 h2) hM.2.2.2.2.2.2.2 hct hsl
/-- an exception passes through a method without handlers -/
theorem ex_out {E : String} (C : CX k own cc nL) (htab : ∀ x ∈ (kc k).exceptionTable.toList, False) (hct : ct ≤ kmc k) (hsl : sl ≤ kms k) (hP : kPx k E G) : EX k E pc lv G ct sl := by
  intro hO ad H locs ls rest q ce hM hl hce hcv hcl
  exact vx_out (fun x hx => (htab x hx).elim) C.2.2.2.2.2.1 hce hcv hcl (fun t ht hW => xn_of hO.1 hM hP (by rw [ht]; exact Nat.le_refl _) (fun q _ => by rw [ht])) hM.2.2.2.2.2.2.2 hct hsl
/-- it is caught: the table's row x, whose class is E's own; the rows ahead are of other classes; the handler stores it away -/
theorem ex_catch {E : String} {hh : List (Nat × Nat × Nat × Nat)} {i : Nat} {pre suf : List (Nat × Nat × Nat × Nat)} {x : Nat × Nat × Nat × Nat} {ins : Instr} {n hp' : Nat} (C : CX k own cc nL) (htab : (kc k).exceptionTable.toList = tableOf hh) (hsplit : hh = pre ++ x :: suf) (hpre : ∀ z ∈ pre, z.2.2.2 ≠ 0 ∧ ∃ nm, Cond.classLink own z.2.2.2 nm ∈ lw_good ∧ nm ∈ exl ∧ E ≠ nm) (hE : E ∈ exl) (hEE : (E, E) ∈ cstl0) (hcov : x.1 ≤ pc ∧ pc < x.2.1) (h0 : x.2.2.2 ≠ 0) (hlink : Cond.classLink own x.2.2.2 E ∈ lw_good)
    (hd : decode cc x.2.2.1 = .ok (ins, n)) (hi : (∃ f : Fin 4, ins = .astore_n f ∧ (f : Nat) = i ∧ n = 1) ∨ (ins = .astore i ∧ n = 2)) (hin : i < nL) (hp : x.2.2.1 + n = hp') (kk : EV k hp' (lvf i false lv) [] G ct sl) : EX k E pc lv G ct sl := by
  subst hp
  obtain ⟨hx, hb, hml, hown, hts, hlk, htr, hK, hH, hV, hA, hn1, hn2⟩ := id C
  intro hO ad H locs ls rest q ce hM hl hce hcv hcl
  refine vx_catch (own := own) (name := E) hown (tableOf pre) ⟨x.1, x.2.1, x.2.2.1, x.2.2.2⟩ (tableOf suf) (by rw [htab, hsplit]; unfold tableOf; rw [List.map_append, List.map_cons]) (fun z hz => ?_) (by unfold covers; simp [hcov.1, hcov.2]) h0 (hts _ hlink) (va_Nw.use rfl (hV.1 _ hEE)) hce hcv hcl ?_
  · obtain ⟨a, ha, rfl⟩ := List.mem_map.mp hz
    obtain ⟨g0, nm, g1, g2, g3⟩ := hpre a ha
    exact Or.inr ⟨g0, nm, hts _ g1, hV.2.1 E hE nm g2 g3⟩
  · have hk : ∀ ls', lv_has ls' (kc k).maxLocals ((i, .ref q) :: (cvl ad lv).filter (fun q => !(q.1 == i) && !(q.1 + 1 == i && q.2.category == 2))) → WK k H locs ct sl (x.2.2.1 + n) ls' ([].map (cv ad)) := fun ls' hl' => kk ⟨hO.1, fun a ha => hO.2.1 a (lvf_mem ha).1, fun v hv => nomatch hv⟩ ad H locs ls' hM (lv_less hl' (fun a ha => by
      obtain ⟨b, hb, rfl⟩ := List.mem_map.mp ha
      obtain ⟨g1, g2, g3, -⟩ := lvf_mem hb
      refine List.mem_cons_of_mem _ (List.mem_filter.mpr ⟨List.mem_map.mpr ⟨b, g1, rfl⟩, ?_⟩)
      simp only [cv_cat]
      cases hc : c2 b.2
      · simp [g2]
      · have h4 : b.1 + 1 ≠ i := fun e => g3 ⟨e, hc⟩
        simp [g2, h4]))
    rcases hi with ⟨f, rfl, hf, rfl⟩ | ⟨rfl, rfl⟩
    · exact lv_astore_n hx hb hd hf hl (by rw [hml]; exact hin) rfl hk
    · exact lv_astore hx hb hd hl (by rw [hml]; exact hin) rfl hk
end CA
