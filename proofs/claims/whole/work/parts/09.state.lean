/-! THE STATES: the model's (names 0 to 26) and the class's (names from 1000 on); numbers alone -/
abbrev SS : Type := (Nat → Int) × (Nat → Nat → Int)
def stS (v : SS) (k : Nat) (x : Int) : SS := (fun j => if j = k then x else v.1 j, v.2)
def stA (v : SS) (a i : Nat) (x : Int) : SS := (v.1, fun b j => if b = a then (if j = i then x else v.2 b j) else v.2 b j)
theorem stS_1 (v : SS) (k j : Nat) (x : Int) : (stS v k x).1 j = if j = k then x else v.1 j := rfl
theorem stS_2 (v : SS) (k : Nat) (x : Int) : (stS v k x).2 = v.2 := rfl
theorem stA_1 (v : SS) (a i : Nat) (x : Int) : (stA v a i x).1 = v.1 := rfl
theorem stA_2 (v : SS) (a i : Nat) (x : Int) (b j : Nat) : (stA v a i x).2 b j = if b = a then (if j = i then x else v.2 b j) else v.2 b j := rfl
def pgr (x : Int) : AV := if x < 0 then vR none else vR (some (3000 + x.toNat))
def fldM (v : SS) : List AV := [vI (v.1 0), vR (some 1), vR (some 2), vR (some 3), vR (some 4), vR (some 5), vR (some 6), vR (some 7), vR (some 8), vR (some 9), vR (some 10), vI (v.1 11), vR (some 12), vR (some 13), vI (v.1 14), vI (v.1 15), vI (v.1 16), vR (some 17), vI (v.1 18), vI (v.1 19), vR (some 20), vI (v.1 21), vI (v.1 22), vI (v.1 23), vL (v.1 24), vI (v.1 25), vI (v.1 26)]
def mA (f : Nat → Nat → Int) (n : Nat) : Option AC := match n with
  | 1 => some (.inr (0, 6, fun j => vI (f 1 j)))
  | 2 => some (.inr (3, 6, fun j => vI (f 2 j)))
  | 3 => some (.inr (0, 6, fun j => vI (f 3 j)))
  | 4 => some (.inr (2, 6, fun j => vI (f 4 j)))
  | 5 => some (.inr (0, 6, fun j => vI (f 5 j)))
  | 6 => some (.inr (0, 6, fun j => vI (f 6 j)))
  | 7 => some (.inr (0, 6, fun j => vI (f 7 j)))
  | 8 => some (.inr (1, 6, fun j => vL (f 8 j)))
  | 9 => some (.inr (0, 48, fun j => vI (f 9 j)))
  | 10 => some (.inr (0, 48, fun j => vI (f 10 j)))
  | 12 => some (.inr (0, 16, fun j => vI (f 12 j)))
  | 13 => some (.inr (2, 16, fun j => vI (f 13 j)))
  | 17 => some (.inr (0, 48, fun j => vI (f 17 j)))
  | 20 => some (.inr (0, 4, fun j => vI (f 20 j)))
  | _ => none
def mN (v : SS) (n : Nat) : Option AC := if n = 0 then some (.inl (10, fldM v)) else mA v.2 n
def eS (u : SS) (n : Nat) : Option AC :=
  if n < 2000 then (match n with
    | 1000 => some (.inl (9, [vR (some 1001), vR (some 1004), vR (some 1006), vR (some 1009), vR (some 1011), vI (u.1 0), vI (u.1 1), vI (u.1 2), vI (u.1 3), vI (u.1 4), vL (u.1 5)]))
    | 1001 => some (.inl (4, [vR (some 1002), vI (u.1 6), vR (some 1003)]))
    | 1002 => some (.inr (0, 2048, fun j => vI (u.2 0 j)))
    | 1003 => some (.inr (3, 48, fun j => vI (u.2 1 j)))
    | 1004 => some (.inl (3, [vR (some 1005), vI (u.1 7), vI (u.1 8)]))
    | 1005 => some (.inr (5, 16, fun j => pgr (u.2 2 j)))
    | 1006 => some (.inl (8, [vR (some 1007), vI (u.1 9)]))
    | 1007 => some (.inl (2, [vI (u.1 10), vR (some (if u.1 12 = 0 then 1013 else 1008)), vI (u.1 11)]))
    | 1008 => if u.1 12 = 0 then none else some (.inr (6, (u.1 12).toNat, fun j => pgr (u.2 3 j)))
    | 1009 => some (.inl (6, [vR (some 1010)]))
    | 1010 => some (.inr (0, 4, fun j => vI (u.2 4 j)))
    | 1011 => some (.inl (2, [vI (u.1 13), vR (some (if u.1 15 = 0 then 1013 else 1012)), vI (u.1 14)]))
    | 1012 => if u.1 15 = 0 then none else some (.inr (6, (u.1 15).toNat, fun j => if (j : Int) < u.1 14 then vR (some (2000 + j)) else vR none))
    | _ => none)
  else if n < 2100 then (if ((n - 2000 : Nat) : Int) < u.1 14 then some (.inl (7, [vI (n - 2000 : Nat), vI (u.2 11 (n - 2000)), vI (u.2 12 (n - 2000)), vI (u.2 13 (n - 2000)), vR (some (n + 100)), vI (u.2 15 (n - 2000)), vI (u.2 16 (n - 2000)), vI (u.2 17 (n - 2000)), vI (u.2 18 (n - 2000)), vL (u.2 19 (n - 2000))])) else none)
  else if n < 3000 then (if ((n - 2100 : Nat) : Int) < u.1 14 then some (.inr (5, 8, fun p => if p < 8 then vR (some (3000 + (8 * (n - 2100) + p))) else vR none)) else none)
  else (if ((n - 3000 : Nat) : Int) < 8 * u.1 14 then some (.inl (5, [vI (n - 3000 : Nat), vR (some 1001), vI (u.2 22 (n - 3000)), vI (u.2 23 (n - 3000)), vI (u.2 24 (n - 3000)), vI (u.2 25 (n - 3000))])) else none)
def mk (u v : SS) (g : GH) : GH := fun n => if n < 100 then mN v n else if n < 1000 then g n else eS u n
abbrev Rs : Type := (Option AV × GH) ⊕ (String × GH)
def PoR (r : Rs) : Option AV → GH → Prop := fun a G => r = .inl (a, G)
def PxR (r : Rs) : String → GH → Prop := fun E G => r = .inr (E, G)
def stk (r : Option AV) (st : List AV) : List AV := match r with
  | some x => x :: st
  | none => st
def nn : Nat → Prop := fun _ => False
/-- a contract whose result is one: returned or thrown -/
abbrev Cn (y : MethodName) (ws : List Cond) (lev mc ms : Nat) (nw : Nat → Prop) (av : List AV) (G : GH) (r : Rs) : Prop := Con y ws lev mc ms nw av G (PoR r) (PxR r)
section CR
variable {k : Kx} {own : String} {cc : ByteArray} {nL : Nat} {pc q tgt : Nat} {lv lv' : List (Nat × AV)} {st st' : List AV} {G G' : GH} {ct sl : Nat}
theorem nn_nov (v : AV) : nov nn v := fun _ _ h => h
theorem stk_eq (r : Option AV) (st : List AV) : r.toList ++ st = stk r st := by cases r <;> rfl
/-- calls that name nothing new and return -/
theorem ev_cV {y : MethodName} {bytes : ByteArray} {maxL lev mc ms index na n ci : Nat} {ret : Option FieldType} {As : List AV} {r : Option AV} {G1 : GH} {fs : List AV} {T : u_T} {N : Nat} {st0 : List AV} (C : CX k own cc nL) (hd : decode cc pc = .ok (.invokevirtual index, 3)) (hq : pc + 3 = q)
    (Mk : MLk own index y na) (Mv : MLv y) (hcode : Cond.code y bytes maxL ret ∈ lw_good) (M : Cn y (wsy y bytes maxL ret) lev mc ms nn (vR (some n) :: As) G (.inl (r, G1))) (hst : st0 = As.reverse ++ vR (some n) :: st) (hna : As.length = na) (hci : vwCl[ci]? = some (y.cls, T, N)) (hG : G n = some (.inl (ci, fs)))
    (hlev : lev < klev k) (hml : maxL ≤ 41) (hw : wdt st ≤ 8) (hct : ct + mc ≤ kmc k) (hsl : sl + ms ≤ kms k) (kk : EV k q lv (stk r st) G1 (ct + mc) (sl + ms)) : EV k pc lv st0 G ct sl :=
  ev_callV C hd hq Mk Mv hcode M hst hna hci hG hlev hml hw hct hsl (fun _ h => h.elim) (fun a _ => nn_nov a.2) (fun v _ => nn_nov v) (fun E G' h => nomatch h) (fun r' G' h => by cases h; rw [stk_eq]; exact kk)
theorem ev_cS {y : MethodName} {bytes : ByteArray} {maxL lev mc ms index na : Nat} {ret : Option FieldType} {As : List AV} {r : Option AV} {G1 : GH} {st0 : List AV} (C : CX k own cc nL) (hd : decode cc pc = .ok (.invokestatic index, 3)) (hq : pc + 3 = q)
    (Mk : MLk own index y na) (Ms : Cond.static y ∈ lw_good) (hcode : Cond.code y bytes maxL ret ∈ lw_good) (M : Cn y (wsy y bytes maxL ret) lev mc ms nn As G (.inl (r, G1))) (hst : st0 = As.reverse ++ st) (hna : As.length = na)
    (hlev : lev < klev k) (hml : maxL ≤ 41) (hw : wdt st ≤ 8) (hct : ct + mc ≤ kmc k) (hsl : sl + ms ≤ kms k) (kk : EV k q lv (stk r st) G1 (ct + mc) (sl + ms)) : EV k pc lv st0 G ct sl :=
  ev_callS C hd hq Mk Ms hcode M hst hna hlev hml hw hct hsl (fun _ h => h.elim) (fun a _ => nn_nov a.2) (fun v _ => nn_nov v) (fun E G' h => nomatch h) (fun r' G' h => by cases h; rw [stk_eq]; exact kk)
/-- calls that may throw: the result is r -/
theorem ev_cVx {y : MethodName} {bytes : ByteArray} {maxL lev mc ms index na n ci : Nat} {ret : Option FieldType} {As : List AV} {r : Rs} {fs : List AV} {T : u_T} {N : Nat} {st0 : List AV} (C : CX k own cc nL) (hd : decode cc pc = .ok (.invokevirtual index, 3)) (hq : pc + 3 = q)
    (Mk : MLk own index y na) (Mv : MLv y) (hcode : Cond.code y bytes maxL ret ∈ lw_good) (M : Cn y (wsy y bytes maxL ret) lev mc ms nn (vR (some n) :: As) G r) (hst : st0 = As.reverse ++ vR (some n) :: st) (hna : As.length = na) (hci : vwCl[ci]? = some (y.cls, T, N)) (hG : G n = some (.inl (ci, fs)))
    (hlev : lev < klev k) (hml : maxL ≤ 41) (hw : wdt st ≤ 8) (hct : ct + mc ≤ kmc k) (hsl : sl + ms ≤ kms k) (kx : ∀ E G1, r = .inr (E, G1) → EX k E pc lv G1 (ct + mc) (sl + ms)) (kk : ∀ a G1, r = .inl (a, G1) → EV k q lv (stk a st) G1 (ct + mc) (sl + ms)) : EV k pc lv st0 G ct sl :=
  ev_callV C hd hq Mk Mv hcode M hst hna hci hG hlev hml hw hct hsl (fun _ h => h.elim) (fun a _ => nn_nov a.2) (fun v _ => nn_nov v) kx (fun r' G' h => by rw [stk_eq]; exact kk r' G' h)
theorem ev_cSx {y : MethodName} {bytes : ByteArray} {maxL lev mc ms index na : Nat} {ret : Option FieldType} {As : List AV} {r : Rs} {st0 : List AV} (C : CX k own cc nL) (hd : decode cc pc = .ok (.invokestatic index, 3)) (hq : pc + 3 = q)
    (Mk : MLk own index y na) (Ms : Cond.static y ∈ lw_good) (hcode : Cond.code y bytes maxL ret ∈ lw_good) (M : Cn y (wsy y bytes maxL ret) lev mc ms nn As G r) (hst : st0 = As.reverse ++ st) (hna : As.length = na)
    (hlev : lev < klev k) (hml : maxL ≤ 41) (hw : wdt st ≤ 8) (hct : ct + mc ≤ kmc k) (hsl : sl + ms ≤ kms k) (kx : ∀ E G1, r = .inr (E, G1) → EX k E pc lv G1 (ct + mc) (sl + ms)) (kk : ∀ a G1, r = .inl (a, G1) → EV k q lv (stk a st) G1 (ct + mc) (sl + ms)) : EV k pc lv st0 G ct sl :=
  ev_callS C hd hq Mk Ms hcode M hst hna hlev hml hw hct hsl (fun _ h => h.elim) (fun a _ => nn_nov a.2) (fun v _ => nn_nov v) kx (fun r' G' h => by rw [stk_eq]; exact kk r' G' h)
end CR
section MR
variable {k : Kx} {cc : ByteArray} {nL : Nat} {pc q tgt : Nat} {lv lv' : List (Nat × AV)} {st st' : List AV} {u v : SS} {g : GH} {ct sl : Nat}
theorem go_0 : mk u v g 0 = some (.inl (10, fldM v)) := rfl
theorem ga_1 : mk u v g 1 = some (.inr (0, 6, fun j => vI (v.2 1 j))) := rfl
theorem ga_2 : mk u v g 2 = some (.inr (3, 6, fun j => vI (v.2 2 j))) := rfl
theorem ga_3 : mk u v g 3 = some (.inr (0, 6, fun j => vI (v.2 3 j))) := rfl
theorem ga_4 : mk u v g 4 = some (.inr (2, 6, fun j => vI (v.2 4 j))) := rfl
theorem ga_5 : mk u v g 5 = some (.inr (0, 6, fun j => vI (v.2 5 j))) := rfl
theorem ga_6 : mk u v g 6 = some (.inr (0, 6, fun j => vI (v.2 6 j))) := rfl
theorem ga_7 : mk u v g 7 = some (.inr (0, 6, fun j => vI (v.2 7 j))) := rfl
theorem ga_8 : mk u v g 8 = some (.inr (1, 6, fun j => vL (v.2 8 j))) := rfl
theorem ga_9 : mk u v g 9 = some (.inr (0, 48, fun j => vI (v.2 9 j))) := rfl
theorem ga_10 : mk u v g 10 = some (.inr (0, 48, fun j => vI (v.2 10 j))) := rfl
theorem ga_12 : mk u v g 12 = some (.inr (0, 16, fun j => vI (v.2 12 j))) := rfl
theorem ga_13 : mk u v g 13 = some (.inr (2, 16, fun j => vI (v.2 13 j))) := rfl
theorem ga_17 : mk u v g 17 = some (.inr (0, 48, fun j => vI (v.2 17 j))) := rfl
theorem ga_20 : mk u v g 20 = some (.inr (0, 4, fun j => vI (v.2 20 j))) := rfl
theorem mk_put {n : Nat} {c : AC} {v' : SS} (hn : n < 100) (h1 : mN v' n = some c) (h2 : ∀ m, m ≠ n → mN v' m = mN v m) : gup (mk u v g) n c = mk u v' g := by
  funext m
  by_cases e : m = n
  · subst e
    rw [gup_self]
    unfold mk
    rw [if_pos hn, h1]
  · rw [gup_ne e]
    unfold mk
    by_cases h : m < 100
    · rw [if_pos h, if_pos h, h2 m e]
    · rw [if_neg h, if_neg h]
theorem mk_putS {j : Nat} {x : Int} {c : AC} (h1 : mN (stS v j x) 0 = some c) : gup (mk u v g) 0 c = mk u (stS v j x) g :=
  mk_put (by decide) h1 (fun m hm => by unfold mN; rw [if_neg hm, if_neg hm]; rfl)
theorem mA_ne {a i n : Nat} {x : Int} (h : n ≠ a) : mA (stA v a i x).2 n = mA v.2 n := by
  have e : ∀ j, (stA v a i x).2 n j = v.2 n j := fun j => by rw [stA_2, if_neg h]
  unfold mA
  split <;> first | rfl | simp only [e]
theorem mk_putA {a i : Nat} {x : Int} {c : AC} (ha : a < 100) (h0 : a ≠ 0) (h1 : mA (stA v a i x).2 a = some c) : gup (mk u v g) a c = mk u (stA v a i x) g :=
  mk_put ha (by unfold mN; rw [if_neg h0, h1]) (fun m hm => by
    unfold mN
    by_cases e : m = 0
    · rw [if_pos e, if_pos e]; rfl
    · rw [if_neg e, if_neg e, mA_ne hm])
theorem stA_self {a i : Nat} {x : Int} (w : Int → AV) : (fun j => w ((stA v a i x).2 a j)) = vset (fun j => w (v.2 a j)) i (w x) := by
  funext j
  unfold vset
  rw [stA_2, if_pos rfl]
  by_cases e : j = i <;> simp [e]
theorem mg_0 (C : CX k RX7 cc nL) (hd : decode cc pc = .ok (.getfield 68, 3)) (hq : pc + 3 = q) (kk : EV k q lv (vI (v.1 0) :: st) (mk u v g) ct sl) : EV k pc lv (vR (some 0) :: st) (mk u v g) ct sl := ev_get C hd kf_X7_68 hq go_0 rfl kk
theorem mp_0 {x : Int} (C : CX k RX7 cc nL) (hd : decode cc pc = .ok (.putfield 68, 3)) (hq : pc + 3 = q) (kk : EV k q lv st (mk u (stS v 0 x) g) ct sl) : EV k pc lv (vI x :: vR (some 0) :: st) (mk u v g) ct sl := ev_put C hd kf_X7_68 hq (fit_I _) go_0 (Nat.le_of_ble_eq_true rfl) (mk_putS rfl) kk
theorem mg_1 (C : CX k RX7 cc nL) (hd : decode cc pc = .ok (.getfield 7, 3)) (hq : pc + 3 = q) (kk : EV k q lv (vR (some 1) :: st) (mk u v g) ct sl) : EV k pc lv (vR (some 0) :: st) (mk u v g) ct sl := ev_get C hd kf_X7_7 hq go_0 rfl kk
theorem mg_2 (C : CX k RX7 cc nL) (hd : decode cc pc = .ok (.getfield 13, 3)) (hq : pc + 3 = q) (kk : EV k q lv (vR (some 2) :: st) (mk u v g) ct sl) : EV k pc lv (vR (some 0) :: st) (mk u v g) ct sl := ev_get C hd kf_X7_13 hq go_0 rfl kk
theorem mg_3 (C : CX k RX7 cc nL) (hd : decode cc pc = .ok (.getfield 17, 3)) (hq : pc + 3 = q) (kk : EV k q lv (vR (some 3) :: st) (mk u v g) ct sl) : EV k pc lv (vR (some 0) :: st) (mk u v g) ct sl := ev_get C hd kf_X7_17 hq go_0 rfl kk
theorem mg_4 (C : CX k RX7 cc nL) (hd : decode cc pc = .ok (.getfield 20, 3)) (hq : pc + 3 = q) (kk : EV k q lv (vR (some 4) :: st) (mk u v g) ct sl) : EV k pc lv (vR (some 0) :: st) (mk u v g) ct sl := ev_get C hd kf_X7_20 hq go_0 rfl kk
theorem mg_5 (C : CX k RX7 cc nL) (hd : decode cc pc = .ok (.getfield 24, 3)) (hq : pc + 3 = q) (kk : EV k q lv (vR (some 5) :: st) (mk u v g) ct sl) : EV k pc lv (vR (some 0) :: st) (mk u v g) ct sl := ev_get C hd kf_X7_24 hq go_0 rfl kk
theorem mg_6 (C : CX k RX7 cc nL) (hd : decode cc pc = .ok (.getfield 27, 3)) (hq : pc + 3 = q) (kk : EV k q lv (vR (some 6) :: st) (mk u v g) ct sl) : EV k pc lv (vR (some 0) :: st) (mk u v g) ct sl := ev_get C hd kf_X7_27 hq go_0 rfl kk
theorem mg_7 (C : CX k RX7 cc nL) (hd : decode cc pc = .ok (.getfield 30, 3)) (hq : pc + 3 = q) (kk : EV k q lv (vR (some 7) :: st) (mk u v g) ct sl) : EV k pc lv (vR (some 0) :: st) (mk u v g) ct sl := ev_get C hd kf_X7_30 hq go_0 rfl kk
theorem mg_8 (C : CX k RX7 cc nL) (hd : decode cc pc = .ok (.getfield 33, 3)) (hq : pc + 3 = q) (kk : EV k q lv (vR (some 8) :: st) (mk u v g) ct sl) : EV k pc lv (vR (some 0) :: st) (mk u v g) ct sl := ev_get C hd kf_X7_33 hq go_0 rfl kk
theorem mg_9 (C : CX k RX7 cc nL) (hd : decode cc pc = .ok (.getfield 37, 3)) (hq : pc + 3 = q) (kk : EV k q lv (vR (some 9) :: st) (mk u v g) ct sl) : EV k pc lv (vR (some 0) :: st) (mk u v g) ct sl := ev_get C hd kf_X7_37 hq go_0 rfl kk
theorem mg_10 (C : CX k RX7 cc nL) (hd : decode cc pc = .ok (.getfield 40, 3)) (hq : pc + 3 = q) (kk : EV k q lv (vR (some 10) :: st) (mk u v g) ct sl) : EV k pc lv (vR (some 0) :: st) (mk u v g) ct sl := ev_get C hd kf_X7_40 hq go_0 rfl kk
theorem mg_11 (C : CX k RX7 cc nL) (hd : decode cc pc = .ok (.getfield 43, 3)) (hq : pc + 3 = q) (kk : EV k q lv (vI (v.1 11) :: st) (mk u v g) ct sl) : EV k pc lv (vR (some 0) :: st) (mk u v g) ct sl := ev_get C hd kf_X7_43 hq go_0 rfl kk
theorem mp_11 {x : Int} (C : CX k RX7 cc nL) (hd : decode cc pc = .ok (.putfield 43, 3)) (hq : pc + 3 = q) (kk : EV k q lv st (mk u (stS v 11 x) g) ct sl) : EV k pc lv (vI x :: vR (some 0) :: st) (mk u v g) ct sl := ev_put C hd kf_X7_43 hq (fit_I _) go_0 (Nat.le_of_ble_eq_true rfl) (mk_putS rfl) kk
theorem mg_12 (C : CX k RX7 cc nL) (hd : decode cc pc = .ok (.getfield 47, 3)) (hq : pc + 3 = q) (kk : EV k q lv (vR (some 12) :: st) (mk u v g) ct sl) : EV k pc lv (vR (some 0) :: st) (mk u v g) ct sl := ev_get C hd kf_X7_47 hq go_0 rfl kk
theorem mg_13 (C : CX k RX7 cc nL) (hd : decode cc pc = .ok (.getfield 50, 3)) (hq : pc + 3 = q) (kk : EV k q lv (vR (some 13) :: st) (mk u v g) ct sl) : EV k pc lv (vR (some 0) :: st) (mk u v g) ct sl := ev_get C hd kf_X7_50 hq go_0 rfl kk
theorem mg_14 (C : CX k RX7 cc nL) (hd : decode cc pc = .ok (.getfield 114, 3)) (hq : pc + 3 = q) (kk : EV k q lv (vI (v.1 14) :: st) (mk u v g) ct sl) : EV k pc lv (vR (some 0) :: st) (mk u v g) ct sl := ev_get C hd kf_X7_114 hq go_0 rfl kk
theorem mp_14 {x : Int} (C : CX k RX7 cc nL) (hd : decode cc pc = .ok (.putfield 114, 3)) (hq : pc + 3 = q) (kk : EV k q lv st (mk u (stS v 14 x) g) ct sl) : EV k pc lv (vI x :: vR (some 0) :: st) (mk u v g) ct sl := ev_put C hd kf_X7_114 hq (fit_I _) go_0 (Nat.le_of_ble_eq_true rfl) (mk_putS rfl) kk
theorem mg_15 (C : CX k RX7 cc nL) (hd : decode cc pc = .ok (.getfield 53, 3)) (hq : pc + 3 = q) (kk : EV k q lv (vI (v.1 15) :: st) (mk u v g) ct sl) : EV k pc lv (vR (some 0) :: st) (mk u v g) ct sl := ev_get C hd kf_X7_53 hq go_0 rfl kk
theorem mp_15 {x : Int} (C : CX k RX7 cc nL) (hd : decode cc pc = .ok (.putfield 53, 3)) (hq : pc + 3 = q) (kk : EV k q lv st (mk u (stS v 15 x) g) ct sl) : EV k pc lv (vI x :: vR (some 0) :: st) (mk u v g) ct sl := ev_put C hd kf_X7_53 hq (fit_I _) go_0 (Nat.le_of_ble_eq_true rfl) (mk_putS rfl) kk
theorem mg_16 (C : CX k RX7 cc nL) (hd : decode cc pc = .ok (.getfield 94, 3)) (hq : pc + 3 = q) (kk : EV k q lv (vI (v.1 16) :: st) (mk u v g) ct sl) : EV k pc lv (vR (some 0) :: st) (mk u v g) ct sl := ev_get C hd kf_X7_94 hq go_0 rfl kk
theorem mp_16 {x : Int} (C : CX k RX7 cc nL) (hd : decode cc pc = .ok (.putfield 94, 3)) (hq : pc + 3 = q) (kk : EV k q lv st (mk u (stS v 16 x) g) ct sl) : EV k pc lv (vI x :: vR (some 0) :: st) (mk u v g) ct sl := ev_put C hd kf_X7_94 hq (fit_I _) go_0 (Nat.le_of_ble_eq_true rfl) (mk_putS rfl) kk
theorem mg_17 (C : CX k RX7 cc nL) (hd : decode cc pc = .ok (.getfield 56, 3)) (hq : pc + 3 = q) (kk : EV k q lv (vR (some 17) :: st) (mk u v g) ct sl) : EV k pc lv (vR (some 0) :: st) (mk u v g) ct sl := ev_get C hd kf_X7_56 hq go_0 rfl kk
theorem mg_18 (C : CX k RX7 cc nL) (hd : decode cc pc = .ok (.getfield 59, 3)) (hq : pc + 3 = q) (kk : EV k q lv (vI (v.1 18) :: st) (mk u v g) ct sl) : EV k pc lv (vR (some 0) :: st) (mk u v g) ct sl := ev_get C hd kf_X7_59 hq go_0 rfl kk
theorem mp_18 {x : Int} (C : CX k RX7 cc nL) (hd : decode cc pc = .ok (.putfield 59, 3)) (hq : pc + 3 = q) (kk : EV k q lv st (mk u (stS v 18 x) g) ct sl) : EV k pc lv (vI x :: vR (some 0) :: st) (mk u v g) ct sl := ev_put C hd kf_X7_59 hq (fit_I _) go_0 (Nat.le_of_ble_eq_true rfl) (mk_putS rfl) kk
theorem mg_19 (C : CX k RX7 cc nL) (hd : decode cc pc = .ok (.getfield 133, 3)) (hq : pc + 3 = q) (kk : EV k q lv (vI (v.1 19) :: st) (mk u v g) ct sl) : EV k pc lv (vR (some 0) :: st) (mk u v g) ct sl := ev_get C hd kf_X7_133 hq go_0 rfl kk
theorem mp_19 {x : Int} (C : CX k RX7 cc nL) (hd : decode cc pc = .ok (.putfield 133, 3)) (hq : pc + 3 = q) (kk : EV k q lv st (mk u (stS v 19 x) g) ct sl) : EV k pc lv (vI x :: vR (some 0) :: st) (mk u v g) ct sl := ev_put C hd kf_X7_133 hq (fit_I _) go_0 (Nat.le_of_ble_eq_true rfl) (mk_putS rfl) kk
theorem mg_20 (C : CX k RX7 cc nL) (hd : decode cc pc = .ok (.getfield 62, 3)) (hq : pc + 3 = q) (kk : EV k q lv (vR (some 20) :: st) (mk u v g) ct sl) : EV k pc lv (vR (some 0) :: st) (mk u v g) ct sl := ev_get C hd kf_X7_62 hq go_0 rfl kk
theorem mg_21 (C : CX k RX7 cc nL) (hd : decode cc pc = .ok (.getfield 105, 3)) (hq : pc + 3 = q) (kk : EV k q lv (vI (v.1 21) :: st) (mk u v g) ct sl) : EV k pc lv (vR (some 0) :: st) (mk u v g) ct sl := ev_get C hd kf_X7_105 hq go_0 rfl kk
theorem mp_21 {x : Int} (C : CX k RX7 cc nL) (hd : decode cc pc = .ok (.putfield 105, 3)) (hq : pc + 3 = q) (kk : EV k q lv st (mk u (stS v 21 x) g) ct sl) : EV k pc lv (vI x :: vR (some 0) :: st) (mk u v g) ct sl := ev_put C hd kf_X7_105 hq (fit_I _) go_0 (Nat.le_of_ble_eq_true rfl) (mk_putS rfl) kk
theorem mg_22 (C : CX k RX7 cc nL) (hd : decode cc pc = .ok (.getfield 140, 3)) (hq : pc + 3 = q) (kk : EV k q lv (vI (v.1 22) :: st) (mk u v g) ct sl) : EV k pc lv (vR (some 0) :: st) (mk u v g) ct sl := ev_get C hd kf_X7_140 hq go_0 rfl kk
theorem mp_22 {x : Int} (C : CX k RX7 cc nL) (hd : decode cc pc = .ok (.putfield 140, 3)) (hq : pc + 3 = q) (kk : EV k q lv st (mk u (stS v 22 x) g) ct sl) : EV k pc lv (vI x :: vR (some 0) :: st) (mk u v g) ct sl := ev_put C hd kf_X7_140 hq (fit_I _) go_0 (Nat.le_of_ble_eq_true rfl) (mk_putS rfl) kk
theorem mg_23 (C : CX k RX7 cc nL) (hd : decode cc pc = .ok (.getfield 143, 3)) (hq : pc + 3 = q) (kk : EV k q lv (vI (v.1 23) :: st) (mk u v g) ct sl) : EV k pc lv (vR (some 0) :: st) (mk u v g) ct sl := ev_get C hd kf_X7_143 hq go_0 rfl kk
theorem mp_23 {x : Int} (C : CX k RX7 cc nL) (hd : decode cc pc = .ok (.putfield 143, 3)) (hq : pc + 3 = q) (kk : EV k q lv st (mk u (stS v 23 x) g) ct sl) : EV k pc lv (vI x :: vR (some 0) :: st) (mk u v g) ct sl := ev_put C hd kf_X7_143 hq (fit_I _) go_0 (Nat.le_of_ble_eq_true rfl) (mk_putS rfl) kk
theorem mg_24 (C : CX k RX7 cc nL) (hd : decode cc pc = .ok (.getfield 136, 3)) (hq : pc + 3 = q) (kk : EV k q lv (vL (v.1 24) :: st) (mk u v g) ct sl) : EV k pc lv (vR (some 0) :: st) (mk u v g) ct sl := ev_get C hd kf_X7_136 hq go_0 rfl kk
theorem mp_24 {x : Int} (C : CX k RX7 cc nL) (hd : decode cc pc = .ok (.putfield 136, 3)) (hq : pc + 3 = q) (kk : EV k q lv st (mk u (stS v 24 x) g) ct sl) : EV k pc lv (vL x :: vR (some 0) :: st) (mk u v g) ct sl := ev_put C hd kf_X7_136 hq (fit_L _) go_0 (Nat.le_of_ble_eq_true rfl) (mk_putS rfl) kk
theorem mg_25 (C : CX k RX7 cc nL) (hd : decode cc pc = .ok (.getfield 153, 3)) (hq : pc + 3 = q) (kk : EV k q lv (vI (v.1 25) :: st) (mk u v g) ct sl) : EV k pc lv (vR (some 0) :: st) (mk u v g) ct sl := ev_get C hd kf_X7_153 hq go_0 rfl kk
theorem mp_25 {x : Int} (C : CX k RX7 cc nL) (hd : decode cc pc = .ok (.putfield 153, 3)) (hq : pc + 3 = q) (kk : EV k q lv st (mk u (stS v 25 x) g) ct sl) : EV k pc lv (vI x :: vR (some 0) :: st) (mk u v g) ct sl := ev_put C hd kf_X7_153 hq (fit_I _) go_0 (Nat.le_of_ble_eq_true rfl) (mk_putS rfl) kk
theorem mg_26 (C : CX k RX7 cc nL) (hd : decode cc pc = .ok (.getfield 65, 3)) (hq : pc + 3 = q) (kk : EV k q lv (vI (v.1 26) :: st) (mk u v g) ct sl) : EV k pc lv (vR (some 0) :: st) (mk u v g) ct sl := ev_get C hd kf_X7_65 hq go_0 rfl kk
theorem mp_26 {x : Int} (C : CX k RX7 cc nL) (hd : decode cc pc = .ok (.putfield 65, 3)) (hq : pc + 3 = q) (kk : EV k q lv st (mk u (stS v 26 x) g) ct sl) : EV k pc lv (vI x :: vR (some 0) :: st) (mk u v g) ct sl := ev_put C hd kf_X7_65 hq (fit_I _) go_0 (Nat.le_of_ble_eq_true rfl) (mk_putS rfl) kk
theorem ml_1 {i : Int} (C : CX k RX7 cc nL) (hd : decode cc pc = .ok (.iaload, 1)) (hq : pc + 1 = q) (hi : 0 ≤ i ∧ i < 6) (kk : EV k q lv (vI (v.2 1 i.toNat) :: st) (mk u v g) ct sl) : EV k pc lv (vI i :: vR (some 1) :: st) (mk u v g) ct sl := ev_iald C hd hq ga_1 (by unfold rg; omega) hi.1 (by have := hi.2; omega) kk
theorem ms_1 {i x : Int} (C : CX k RX7 cc nL) (hd : decode cc pc = .ok (.iastore, 1)) (hq : pc + 1 = q) (hi : 0 ≤ i ∧ i < 6) (kk : EV k q lv st (mk u (stA v 1 i.toNat x) g) ct sl) : EV k pc lv (vI x :: vI i :: vR (some 1) :: st) (mk u v g) ct sl := ev_iast C hd hq ga_1 (by unfold rg; omega) hi.1 (by have := hi.2; omega) (mk_putA (by decide) (by decide) (congrArg (fun f => some (Sum.inr (0, 6, f))) (stA_self vI))) kk
theorem ml_2 {i : Int} (C : CX k RX7 cc nL) (hd : decode cc pc = .ok (.caload, 1)) (hq : pc + 1 = q) (hi : 0 ≤ i ∧ i < 6) (kk : EV k q lv (vI (v.2 2 i.toNat) :: st) (mk u v g) ct sl) : EV k pc lv (vI i :: vR (some 2) :: st) (mk u v g) ct sl := ev_cald C hd hq ga_2 (by unfold rg; omega) hi.1 (by have := hi.2; omega) kk
theorem ms_2 {i x : Int} (C : CX k RX7 cc nL) (hd : decode cc pc = .ok (.castore, 1)) (hq : pc + 1 = q) (hx : 0 ≤ x ∧ x < 65536) (hi : 0 ≤ i ∧ i < 6) (kk : EV k q lv st (mk u (stA v 2 i.toNat x) g) ct sl) : EV k pc lv (vI x :: vI i :: vR (some 2) :: st) (mk u v g) ct sl := ev_cast C hd hq hx ga_2 (by unfold rg; omega) hi.1 (by have := hi.2; omega) (mk_putA (by decide) (by decide) (congrArg (fun f => some (Sum.inr (3, 6, f))) (stA_self vI))) kk
theorem ml_3 {i : Int} (C : CX k RX7 cc nL) (hd : decode cc pc = .ok (.iaload, 1)) (hq : pc + 1 = q) (hi : 0 ≤ i ∧ i < 6) (kk : EV k q lv (vI (v.2 3 i.toNat) :: st) (mk u v g) ct sl) : EV k pc lv (vI i :: vR (some 3) :: st) (mk u v g) ct sl := ev_iald C hd hq ga_3 (by unfold rg; omega) hi.1 (by have := hi.2; omega) kk
theorem ms_3 {i x : Int} (C : CX k RX7 cc nL) (hd : decode cc pc = .ok (.iastore, 1)) (hq : pc + 1 = q) (hi : 0 ≤ i ∧ i < 6) (kk : EV k q lv st (mk u (stA v 3 i.toNat x) g) ct sl) : EV k pc lv (vI x :: vI i :: vR (some 3) :: st) (mk u v g) ct sl := ev_iast C hd hq ga_3 (by unfold rg; omega) hi.1 (by have := hi.2; omega) (mk_putA (by decide) (by decide) (congrArg (fun f => some (Sum.inr (0, 6, f))) (stA_self vI))) kk
theorem ml_4 {i : Int} (C : CX k RX7 cc nL) (hd : decode cc pc = .ok (.baload, 1)) (hq : pc + 1 = q) (hi : 0 ≤ i ∧ i < 6) (kk : EV k q lv (vI (v.2 4 i.toNat) :: st) (mk u v g) ct sl) : EV k pc lv (vI i :: vR (some 4) :: st) (mk u v g) ct sl := ev_zald C hd hq ga_4 (by unfold rg; omega) hi.1 (by have := hi.2; omega) kk
theorem ms_4 {i x : Int} (C : CX k RX7 cc nL) (hd : decode cc pc = .ok (.bastore, 1)) (hq : pc + 1 = q) (hx : x = 0 ∨ x = 1) (hi : 0 ≤ i ∧ i < 6) (kk : EV k q lv st (mk u (stA v 4 i.toNat x) g) ct sl) : EV k pc lv (vI x :: vI i :: vR (some 4) :: st) (mk u v g) ct sl := ev_zast C hd hq hx ga_4 (by unfold rg; omega) hi.1 (by have := hi.2; omega) (mk_putA (by decide) (by decide) (congrArg (fun f => some (Sum.inr (2, 6, f))) (stA_self vI))) kk
theorem ml_5 {i : Int} (C : CX k RX7 cc nL) (hd : decode cc pc = .ok (.iaload, 1)) (hq : pc + 1 = q) (hi : 0 ≤ i ∧ i < 6) (kk : EV k q lv (vI (v.2 5 i.toNat) :: st) (mk u v g) ct sl) : EV k pc lv (vI i :: vR (some 5) :: st) (mk u v g) ct sl := ev_iald C hd hq ga_5 (by unfold rg; omega) hi.1 (by have := hi.2; omega) kk
theorem ms_5 {i x : Int} (C : CX k RX7 cc nL) (hd : decode cc pc = .ok (.iastore, 1)) (hq : pc + 1 = q) (hi : 0 ≤ i ∧ i < 6) (kk : EV k q lv st (mk u (stA v 5 i.toNat x) g) ct sl) : EV k pc lv (vI x :: vI i :: vR (some 5) :: st) (mk u v g) ct sl := ev_iast C hd hq ga_5 (by unfold rg; omega) hi.1 (by have := hi.2; omega) (mk_putA (by decide) (by decide) (congrArg (fun f => some (Sum.inr (0, 6, f))) (stA_self vI))) kk
theorem ml_6 {i : Int} (C : CX k RX7 cc nL) (hd : decode cc pc = .ok (.iaload, 1)) (hq : pc + 1 = q) (hi : 0 ≤ i ∧ i < 6) (kk : EV k q lv (vI (v.2 6 i.toNat) :: st) (mk u v g) ct sl) : EV k pc lv (vI i :: vR (some 6) :: st) (mk u v g) ct sl := ev_iald C hd hq ga_6 (by unfold rg; omega) hi.1 (by have := hi.2; omega) kk
theorem ms_6 {i x : Int} (C : CX k RX7 cc nL) (hd : decode cc pc = .ok (.iastore, 1)) (hq : pc + 1 = q) (hi : 0 ≤ i ∧ i < 6) (kk : EV k q lv st (mk u (stA v 6 i.toNat x) g) ct sl) : EV k pc lv (vI x :: vI i :: vR (some 6) :: st) (mk u v g) ct sl := ev_iast C hd hq ga_6 (by unfold rg; omega) hi.1 (by have := hi.2; omega) (mk_putA (by decide) (by decide) (congrArg (fun f => some (Sum.inr (0, 6, f))) (stA_self vI))) kk
theorem ml_7 {i : Int} (C : CX k RX7 cc nL) (hd : decode cc pc = .ok (.iaload, 1)) (hq : pc + 1 = q) (hi : 0 ≤ i ∧ i < 6) (kk : EV k q lv (vI (v.2 7 i.toNat) :: st) (mk u v g) ct sl) : EV k pc lv (vI i :: vR (some 7) :: st) (mk u v g) ct sl := ev_iald C hd hq ga_7 (by unfold rg; omega) hi.1 (by have := hi.2; omega) kk
theorem ms_7 {i x : Int} (C : CX k RX7 cc nL) (hd : decode cc pc = .ok (.iastore, 1)) (hq : pc + 1 = q) (hi : 0 ≤ i ∧ i < 6) (kk : EV k q lv st (mk u (stA v 7 i.toNat x) g) ct sl) : EV k pc lv (vI x :: vI i :: vR (some 7) :: st) (mk u v g) ct sl := ev_iast C hd hq ga_7 (by unfold rg; omega) hi.1 (by have := hi.2; omega) (mk_putA (by decide) (by decide) (congrArg (fun f => some (Sum.inr (0, 6, f))) (stA_self vI))) kk
theorem ml_8 {i : Int} (C : CX k RX7 cc nL) (hd : decode cc pc = .ok (.laload, 1)) (hq : pc + 1 = q) (hi : 0 ≤ i ∧ i < 6) (kk : EV k q lv (vL (v.2 8 i.toNat) :: st) (mk u v g) ct sl) : EV k pc lv (vI i :: vR (some 8) :: st) (mk u v g) ct sl := ev_lald C hd hq ga_8 (by unfold rg; omega) hi.1 (by have := hi.2; omega) kk
theorem ms_8 {i x : Int} (C : CX k RX7 cc nL) (hd : decode cc pc = .ok (.lastore, 1)) (hq : pc + 1 = q) (hi : 0 ≤ i ∧ i < 6) (kk : EV k q lv st (mk u (stA v 8 i.toNat x) g) ct sl) : EV k pc lv (vL x :: vI i :: vR (some 8) :: st) (mk u v g) ct sl := ev_last C hd hq ga_8 (by unfold rg; omega) hi.1 (by have := hi.2; omega) (mk_putA (by decide) (by decide) (congrArg (fun f => some (Sum.inr (1, 6, f))) (stA_self vL))) kk
theorem ml_9 {i : Int} (C : CX k RX7 cc nL) (hd : decode cc pc = .ok (.iaload, 1)) (hq : pc + 1 = q) (hi : 0 ≤ i ∧ i < 48) (kk : EV k q lv (vI (v.2 9 i.toNat) :: st) (mk u v g) ct sl) : EV k pc lv (vI i :: vR (some 9) :: st) (mk u v g) ct sl := ev_iald C hd hq ga_9 (by unfold rg; omega) hi.1 (by have := hi.2; omega) kk
theorem ms_9 {i x : Int} (C : CX k RX7 cc nL) (hd : decode cc pc = .ok (.iastore, 1)) (hq : pc + 1 = q) (hi : 0 ≤ i ∧ i < 48) (kk : EV k q lv st (mk u (stA v 9 i.toNat x) g) ct sl) : EV k pc lv (vI x :: vI i :: vR (some 9) :: st) (mk u v g) ct sl := ev_iast C hd hq ga_9 (by unfold rg; omega) hi.1 (by have := hi.2; omega) (mk_putA (by decide) (by decide) (congrArg (fun f => some (Sum.inr (0, 48, f))) (stA_self vI))) kk
theorem ml_10 {i : Int} (C : CX k RX7 cc nL) (hd : decode cc pc = .ok (.iaload, 1)) (hq : pc + 1 = q) (hi : 0 ≤ i ∧ i < 48) (kk : EV k q lv (vI (v.2 10 i.toNat) :: st) (mk u v g) ct sl) : EV k pc lv (vI i :: vR (some 10) :: st) (mk u v g) ct sl := ev_iald C hd hq ga_10 (by unfold rg; omega) hi.1 (by have := hi.2; omega) kk
theorem ms_10 {i x : Int} (C : CX k RX7 cc nL) (hd : decode cc pc = .ok (.iastore, 1)) (hq : pc + 1 = q) (hi : 0 ≤ i ∧ i < 48) (kk : EV k q lv st (mk u (stA v 10 i.toNat x) g) ct sl) : EV k pc lv (vI x :: vI i :: vR (some 10) :: st) (mk u v g) ct sl := ev_iast C hd hq ga_10 (by unfold rg; omega) hi.1 (by have := hi.2; omega) (mk_putA (by decide) (by decide) (congrArg (fun f => some (Sum.inr (0, 48, f))) (stA_self vI))) kk
theorem ml_12 {i : Int} (C : CX k RX7 cc nL) (hd : decode cc pc = .ok (.iaload, 1)) (hq : pc + 1 = q) (hi : 0 ≤ i ∧ i < 16) (kk : EV k q lv (vI (v.2 12 i.toNat) :: st) (mk u v g) ct sl) : EV k pc lv (vI i :: vR (some 12) :: st) (mk u v g) ct sl := ev_iald C hd hq ga_12 (by unfold rg; omega) hi.1 (by have := hi.2; omega) kk
theorem ms_12 {i x : Int} (C : CX k RX7 cc nL) (hd : decode cc pc = .ok (.iastore, 1)) (hq : pc + 1 = q) (hi : 0 ≤ i ∧ i < 16) (kk : EV k q lv st (mk u (stA v 12 i.toNat x) g) ct sl) : EV k pc lv (vI x :: vI i :: vR (some 12) :: st) (mk u v g) ct sl := ev_iast C hd hq ga_12 (by unfold rg; omega) hi.1 (by have := hi.2; omega) (mk_putA (by decide) (by decide) (congrArg (fun f => some (Sum.inr (0, 16, f))) (stA_self vI))) kk
theorem ml_13 {i : Int} (C : CX k RX7 cc nL) (hd : decode cc pc = .ok (.baload, 1)) (hq : pc + 1 = q) (hi : 0 ≤ i ∧ i < 16) (kk : EV k q lv (vI (v.2 13 i.toNat) :: st) (mk u v g) ct sl) : EV k pc lv (vI i :: vR (some 13) :: st) (mk u v g) ct sl := ev_zald C hd hq ga_13 (by unfold rg; omega) hi.1 (by have := hi.2; omega) kk
theorem ms_13 {i x : Int} (C : CX k RX7 cc nL) (hd : decode cc pc = .ok (.bastore, 1)) (hq : pc + 1 = q) (hx : x = 0 ∨ x = 1) (hi : 0 ≤ i ∧ i < 16) (kk : EV k q lv st (mk u (stA v 13 i.toNat x) g) ct sl) : EV k pc lv (vI x :: vI i :: vR (some 13) :: st) (mk u v g) ct sl := ev_zast C hd hq hx ga_13 (by unfold rg; omega) hi.1 (by have := hi.2; omega) (mk_putA (by decide) (by decide) (congrArg (fun f => some (Sum.inr (2, 16, f))) (stA_self vI))) kk
theorem ml_17 {i : Int} (C : CX k RX7 cc nL) (hd : decode cc pc = .ok (.iaload, 1)) (hq : pc + 1 = q) (hi : 0 ≤ i ∧ i < 48) (kk : EV k q lv (vI (v.2 17 i.toNat) :: st) (mk u v g) ct sl) : EV k pc lv (vI i :: vR (some 17) :: st) (mk u v g) ct sl := ev_iald C hd hq ga_17 (by unfold rg; omega) hi.1 (by have := hi.2; omega) kk
theorem ms_17 {i x : Int} (C : CX k RX7 cc nL) (hd : decode cc pc = .ok (.iastore, 1)) (hq : pc + 1 = q) (hi : 0 ≤ i ∧ i < 48) (kk : EV k q lv st (mk u (stA v 17 i.toNat x) g) ct sl) : EV k pc lv (vI x :: vI i :: vR (some 17) :: st) (mk u v g) ct sl := ev_iast C hd hq ga_17 (by unfold rg; omega) hi.1 (by have := hi.2; omega) (mk_putA (by decide) (by decide) (congrArg (fun f => some (Sum.inr (0, 48, f))) (stA_self vI))) kk
theorem ml_20 {i : Int} (C : CX k RX7 cc nL) (hd : decode cc pc = .ok (.iaload, 1)) (hq : pc + 1 = q) (hi : 0 ≤ i ∧ i < 4) (kk : EV k q lv (vI (v.2 20 i.toNat) :: st) (mk u v g) ct sl) : EV k pc lv (vI i :: vR (some 20) :: st) (mk u v g) ct sl := ev_iald C hd hq ga_20 (by unfold rg; omega) hi.1 (by have := hi.2; omega) kk
theorem ms_20 {i x : Int} (C : CX k RX7 cc nL) (hd : decode cc pc = .ok (.iastore, 1)) (hq : pc + 1 = q) (hi : 0 ≤ i ∧ i < 4) (kk : EV k q lv st (mk u (stA v 20 i.toNat x) g) ct sl) : EV k pc lv (vI x :: vI i :: vR (some 20) :: st) (mk u v g) ct sl := ev_iast C hd hq ga_20 (by unfold rg; omega) hi.1 (by have := hi.2; omega) (mk_putA (by decide) (by decide) (congrArg (fun f => some (Sum.inr (0, 4, f))) (stA_self vI))) kk
end MR
def bI (b : Bool) : Int := if b then 1 else 0
theorem bI_01 (b : Bool) : bI b = 0 ∨ bI b = 1 := by cases b <;> decide
theorem bI_rg (b : Bool) : rg (bI b) := by unfold rg; have := bI_01 b; omega
theorem bI_t : bI true = 1 := rfl
theorem bI_f : bI false = 0 := rfl
section BB
variable {k : Kx} {own : String} {cc : ByteArray} {nL : Nat} {pc q tgt : Nat} {lv lv' : List (Nat × AV)} {st st' : List AV} {G G' : GH} {ct sl : Nat}
theorem ev_ifB_eq {off : Int} {b : Bool} (C : CX k own cc nL) (hd : decode cc pc = .ok (.ifCond .eq off, 3)) (ht : (pc : Int) + off = (tgt : Int)) (hq : pc + 3 = q) (kt : b = false → EV k tgt lv st G ct sl) (kf : b = true → EV k q lv st G ct sl) : EV k pc lv (vI (bI b) :: st) G ct sl :=
  ev_if_eq C hd ht hq (bI_rg b) (fun h => kt (by cases b; rfl; cases h)) (fun h => kf (by cases b; exact absurd rfl h; rfl))
theorem ev_ifB_ne {off : Int} {b : Bool} (C : CX k own cc nL) (hd : decode cc pc = .ok (.ifCond .ne off, 3)) (ht : (pc : Int) + off = (tgt : Int)) (hq : pc + 3 = q) (kt : b = true → EV k tgt lv st G ct sl) (kf : b = false → EV k q lv st G ct sl) : EV k pc lv (vI (bI b) :: st) G ct sl :=
  ev_if_ne C hd ht hq (bI_rg b) (fun h => kt (by cases b; exact absurd rfl h; rfl)) (fun h => kf (by cases b; rfl; cases h))
theorem po_1 {x y : AV} (hPo : kPo k = PoR (.inl (some x, G))) (hx : x = y) (hG : G = G') : kPo k (some y) G' := by rw [hPo, ← hx, ← hG]; rfl
theorem po_0 (hPo : kPo k = PoR (.inl (none, G))) (hG : G = G') : kPo k none G' := by rw [hPo, ← hG]; rfl
theorem px_1 {E E' : String} (hPx : kPx k = PxR (.inr (E, G))) (hE : E = E') (hG : G = G') : kPx k E' G' := by rw [hPx, ← hE, ← hG]; rfl
end BB
theorem con_j {y : MethodName} {cc : ByteArray} {nL : Nat} {ret : Option FieldType} {lev mc ms : Nat} {av : List AV} {G : GH} {r : Rs} {lv : List (Nat × AV)} (hy : plainName y.cls = true) (hlen : ∀ ad, (lg_sl (av.map (cv ad))).length ≤ nL) (hlv : ∀ ad, lv_args 0 (av.map (cv ad)) = cvl ad lv) (hlo : lv.map Prod.snd = av)
    (body : ∀ k : Kx, CX k y.cls cc nL → (kmeth k).sig.returnType = ret → klev k = lev → kmc k = mc → kms k = ms → kPo k = PoR r → kPx k = PxR r → (∀ x ∈ (kc k).exceptionTable.toList, False) → EV k 0 lv [] G 0 0) : Cn y (wsy y cc nL ret) lev mc ms nn av G r :=
  con_i hy ⟨fun h => h, fun h => h, fun h => h⟩ hlen hlv (fun q hq => by rw [← hlo]; exact List.mem_map_of_mem hq) (fun k C hr _ _ h1 h2 h3 _ h4 h5 h6 => body k C hr h1 h2 h3 h4 h5 h6)
