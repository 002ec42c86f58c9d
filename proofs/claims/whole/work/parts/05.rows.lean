section AR
variable {k : Kx} {own : String} {cc : ByteArray} {nL : Nat} {pc q tgt : Nat} {lv lv' : List (Nat × AV)} {st st' : List AV} {G G' : GH} {ct sl : Nat}
def vset (f : Nat → AV) (i : Nat) (v : AV) : Nat → AV := fun j => if j = i then v else f j
theorem cv_vset (ad : Nat → Nat) (f : Nat → AV) (i : Nat) (v : AV) : (fun j => cv ad (vset f i v j)) = updV (fun j => cv ad (f j)) i (cv ad v) := by
  funext j
  unfold vset updV
  by_cases h : j = i <;> simp [h]
theorem arr_in {i : Int} {n : Nat} {cA : ClassId} {f : Nat → Value} (hr : rg i) (h0 : 0 ≤ i) (h1 : i < n) : ¬ (iI i < 0 ∨ (arrV cA n f).slots.size ≤ (iI i).toNatClampNeg) := by
  rw [arrV_size]
  exact iI_in hr h0 h1
theorem arr_rd {i : Int} {n : Nat} {cA : ClassId} {f : Nat → Value} (hr : rg i) (h0 : 0 ≤ i) (h1 : i < n) : (arrV cA n f).slots[(iI i).toNatClampNeg]? = some (f i.toNat) := by
  rw [iI_nat hr h0, arrV_read _ _ (by omega)]
theorem K_arr (C : CX k own cc nL) {t : Nat} (ht : t < 7) (n : Nat) (f : Nat → Value) : (ks k).isArrayOf (arrV (kdT k t) n f) (arT t) := by
  obtain ⟨hx, hb, hml, hown, hts, hlk, htr, hK, -⟩ := C
  have h : (tyl (kdT k))[t]? = some (kdT k t, arT t) := by
    match t, ht with
    | 0, _ => rfl
    | 1, _ => rfl
    | 2, _ => rfl
    | 3, _ => rfl
    | 4, _ => rfl
    | 5, _ => rfl
    | 6, _ => rfl
  exact (hK.2 t _ h).1 n f
theorem K_ra (C : CX k own cc nL) {t : Nat} (ht : t < 7) : va_RA (ks k) (kdT k t) (arT t) := by
  obtain ⟨hx, hb, hml, hown, hts, hlk, htr, hK, -⟩ := C
  have h : (tyl (kdT k))[t]? = some (kdT k t, arT t) := by
    match t, ht with
    | 0, _ => rfl
    | 1, _ => rfl
    | 2, _ => rfl
    | 3, _ => rfl
    | 4, _ => rfl
    | 5, _ => rfl
    | 6, _ => rfl
  exact (hK.2 t _ h).2
theorem oks_ald {v i : AV} {t n len : Nat} {f : Nat → AV} {j : Int} (hG : G n = some (.inr (t, len, f))) (h0 : 0 ≤ j) (h1 : j < len) (h : OKS G lv (i :: v :: st)) : OKS G lv (f j.toNat :: st) :=
  oks_bin (h.1.1 n _ hG j.toNat ((Int.toNat_lt h0).mpr h1)) h
theorem ev_iald {n len : Nat} {f : Nat → AV} {i : Int} (C : CX k own cc nL) (hd : decode cc pc = .ok (.iaload, 1)) (hq : pc + 1 = q) (hG : G n = some (.inr (0, len, f))) (hr : rg i) (h0 : 0 ≤ i) (h1 : i < len) (kk : EV k q lv (f i.toNat :: st) G ct sl) : EV k pc lv (vI i :: vR (some n) :: st) G ct sl := by
  subst hq
  intro hO ad H locs ls hM hl
  obtain ⟨htl, hc⟩ := hM.1 n _ hG
  exact W.iald (v := cv ad (f i.toNat)) C.1 C.2.1 hc (K_arr C htl len _) (fun z => nomatch z) (arr_in hr h0 h1) (arr_rd hr h0 h1) rfl rfl hd (kk (oks_ald hG h0 h1 hO) ad H locs ls hM hl)
theorem ev_lald {n len : Nat} {f : Nat → AV} {i : Int} (C : CX k own cc nL) (hd : decode cc pc = .ok (.laload, 1)) (hq : pc + 1 = q) (hG : G n = some (.inr (1, len, f))) (hr : rg i) (h0 : 0 ≤ i) (h1 : i < len) (kk : EV k q lv (f i.toNat :: st) G ct sl) : EV k pc lv (vI i :: vR (some n) :: st) G ct sl := by
  subst hq
  intro hO ad H locs ls hM hl
  obtain ⟨htl, hc⟩ := hM.1 n _ hG
  exact W.lald (v := cv ad (f i.toNat)) C.1 C.2.1 hc (K_arr C htl len _) (fun z => nomatch z) (arr_in hr h0 h1) (arr_rd hr h0 h1) rfl rfl hd (kk (oks_ald hG h0 h1 hO) ad H locs ls hM hl)
theorem ev_zald {n len : Nat} {f : Nat → AV} {i : Int} (C : CX k own cc nL) (hd : decode cc pc = .ok (.baload, 1)) (hq : pc + 1 = q) (hG : G n = some (.inr (2, len, f))) (hr : rg i) (h0 : 0 ≤ i) (h1 : i < len) (kk : EV k q lv (f i.toNat :: st) G ct sl) : EV k pc lv (vI i :: vR (some n) :: st) G ct sl := by
  subst hq
  intro hO ad H locs ls hM hl
  obtain ⟨htl, hc⟩ := hM.1 n _ hG
  exact W.zald (v := cv ad (f i.toNat)) C.1 C.2.1 hc (K_arr C htl len _) (fun z => nomatch z) (arr_in hr h0 h1) (arr_rd hr h0 h1) rfl rfl hd (kk (oks_ald hG h0 h1 hO) ad H locs ls hM hl)
theorem ev_cald {n len : Nat} {f : Nat → AV} {i : Int} (C : CX k own cc nL) (hd : decode cc pc = .ok (.caload, 1)) (hq : pc + 1 = q) (hG : G n = some (.inr (3, len, f))) (hr : rg i) (h0 : 0 ≤ i) (h1 : i < len) (kk : EV k q lv (f i.toNat :: st) G ct sl) : EV k pc lv (vI i :: vR (some n) :: st) G ct sl := by
  subst hq
  intro hO ad H locs ls hM hl
  obtain ⟨htl, hc⟩ := hM.1 n _ hG
  exact W.cald (v := cv ad (f i.toNat)) C.1 C.2.1 hc (K_arr C htl len _) (fun z => nomatch z) (arr_in hr h0 h1) (arr_rd hr h0 h1) rfl rfl hd (kk (oks_ald hG h0 h1 hO) ad H locs ls hM hl)
theorem ev_dald {n len : Nat} {f : Nat → AV} {i : Int} (C : CX k own cc nL) (hd : decode cc pc = .ok (.daload, 1)) (hq : pc + 1 = q) (hG : G n = some (.inr (4, len, f))) (hr : rg i) (h0 : 0 ≤ i) (h1 : i < len) (kk : EV k q lv (f i.toNat :: st) G ct sl) : EV k pc lv (vI i :: vR (some n) :: st) G ct sl := by
  subst hq
  intro hO ad H locs ls hM hl
  obtain ⟨htl, hc⟩ := hM.1 n _ hG
  exact W.dald (v := cv ad (f i.toNat)) C.1 C.2.1 hc (K_arr C htl len _) (fun z => nomatch z) (arr_in hr h0 h1) (arr_rd hr h0 h1) rfl rfl hd (kk (oks_ald hG h0 h1 hO) ad H locs ls hM hl)
theorem ev_aald {t n len : Nat} {f : Nat → AV} {i : Int} (C : CX k own cc nL) (hd : decode cc pc = .ok (.aaload, 1)) (hq : pc + 1 = q) (ht : t = 5 ∨ t = 6) (hG : G n = some (.inr (t, len, f))) (hr : rg i) (h0 : 0 ≤ i) (h1 : i < len) (kk : EV k q lv (f i.toNat :: st) G ct sl) : EV k pc lv (vI i :: vR (some n) :: st) G ct sl := by
  subst hq
  intro hO ad H locs ls hM hl
  obtain ⟨htl, hc⟩ := hM.1 n _ hG
  exact W.aald (v := cv ad (f i.toNat)) (ty := arT t) C.1 C.2.1 hc (K_arr C htl len _) (by rcases ht with rfl | rfl <;> rfl) (fun z => nomatch z) (arr_in hr h0 h1) (arr_rd hr h0 h1) rfl rfl hd (kk (oks_ald hG h0 h1 hO) ad H locs ls hM hl)
theorem oks_ast {x i a : AV} {t n len : Nat} {f : Nat → AV} {j : Int} (hG : G n = some (.inr (t, len, f))) (h : OKS G lv (x :: i :: a :: st)) : OKS (gup G n (.inr (t, len, vset f j.toNat x))) lv st := by
  refine oks_gup (oks_pop1 (oks_pop1 (oks_pop1 h))) (fun z => by have := h.1.2 n z; rw [hG] at this; cases this) (fun m hm => ?_)
  show okv G (vset f j.toNat x m)
  unfold vset
  by_cases e : m = j.toNat
  · rw [if_pos e]; exact h.2.2 _ List.mem_cons_self
  · rw [if_neg e]; exact h.1.1 n _ hG m hm
theorem ev_iast {n len : Nat} {f : Nat → AV} {i : Int} {x : Int} (C : CX k own cc nL) (hd : decode cc pc = .ok (.iastore, 1)) (hq : pc + 1 = q) (hG : G n = some (.inr (0, len, f))) (hr : rg i) (h0 : 0 ≤ i) (h1 : i < len) (hG' : gup G n (.inr (0, len, vset f i.toNat (vI x))) = G') (kk : EV k q lv st G' ct sl) : EV k pc lv (vI x :: vI i :: vR (some n) :: st) G ct sl := by
  subst hq
  subst hG'
  intro hO ad H locs ls hM hl
  obtain ⟨htl, hc⟩ := hM.1 n _ hG
  refine W.iast C.1 C.2.1 hc (K_arr C htl len _) (fun z => nomatch z) (arr_in hr h0 h1) rfl rfl hd fun H1 e z oq => ?_
  rw [iI_nat hr h0] at e ⊢
  rw [arrV_store] at e
  exact kk (oks_ast hG hO) ad H1 _ ls (ms_put hM hG ⟨htl, by rw [e]; show some (arrV _ _ _) = some (arrV _ _ _); rw [cv_vset]; rfl⟩ z oq) hl
theorem ev_last {n len : Nat} {f : Nat → AV} {i : Int} {x : Int} (C : CX k own cc nL) (hd : decode cc pc = .ok (.lastore, 1)) (hq : pc + 1 = q) (hG : G n = some (.inr (1, len, f))) (hr : rg i) (h0 : 0 ≤ i) (h1 : i < len) (hG' : gup G n (.inr (1, len, vset f i.toNat (vL x))) = G') (kk : EV k q lv st G' ct sl) : EV k pc lv (vL x :: vI i :: vR (some n) :: st) G ct sl := by
  subst hq
  subst hG'
  intro hO ad H locs ls hM hl
  obtain ⟨htl, hc⟩ := hM.1 n _ hG
  refine W.last C.1 C.2.1 hc (K_arr C htl len _) (fun z => nomatch z) (arr_in hr h0 h1) rfl rfl hd fun H1 e z oq => ?_
  rw [iI_nat hr h0] at e ⊢
  rw [arrV_store] at e
  exact kk (oks_ast hG hO) ad H1 _ ls (ms_put hM hG ⟨htl, by rw [e]; show some (arrV _ _ _) = some (arrV _ _ _); rw [cv_vset]; rfl⟩ z oq) hl
theorem ev_zast {n len : Nat} {f : Nat → AV} {i : Int} {x : Int} (C : CX k own cc nL) (hd : decode cc pc = .ok (.bastore, 1)) (hq : pc + 1 = q) (hx : x = 0 ∨ x = 1) (hG : G n = some (.inr (2, len, f))) (hr : rg i) (h0 : 0 ≤ i) (h1 : i < len) (hG' : gup G n (.inr (2, len, vset f i.toNat (vI x))) = G') (kk : EV k q lv st G' ct sl) : EV k pc lv (vI x :: vI i :: vR (some n) :: st) G ct sl := by
  subst hq
  subst hG'
  intro hO ad H locs ls hM hl
  obtain ⟨htl, hc⟩ := hM.1 n _ hG
  refine W.zast C.1 C.2.1 hc (K_arr C htl len _) (fun z => nomatch z) (arr_in hr h0 h1) rfl rfl hd fun H1 e z oq => ?_
  rw [iI_nat hr h0] at e ⊢
  have hz : narrow .boolean (.int (iI x)) = .int (iI x) := (fit_Z hx (fun _ => 0)).1
  rw [hz] at e
  rw [arrV_store] at e
  exact kk (oks_ast hG hO) ad H1 _ ls (ms_put hM hG ⟨htl, by rw [e]; show some (arrV _ _ _) = some (arrV _ _ _); rw [cv_vset]; rfl⟩ z oq) hl
theorem ev_cast {n len : Nat} {f : Nat → AV} {i : Int} {x : Int} (C : CX k own cc nL) (hd : decode cc pc = .ok (.castore, 1)) (hq : pc + 1 = q) (hx : 0 ≤ x ∧ x < 65536) (hG : G n = some (.inr (3, len, f))) (hr : rg i) (h0 : 0 ≤ i) (h1 : i < len) (hG' : gup G n (.inr (3, len, vset f i.toNat (vI x))) = G') (kk : EV k q lv st G' ct sl) : EV k pc lv (vI x :: vI i :: vR (some n) :: st) G ct sl := by
  subst hq
  subst hG'
  intro hO ad H locs ls hM hl
  obtain ⟨htl, hc⟩ := hM.1 n _ hG
  refine W.cast C.1 C.2.1 hc (K_arr C htl len _) (fun z => nomatch z) (arr_in hr h0 h1) rfl rfl hd fun H1 e z oq => ?_
  rw [iI_nat hr h0] at e ⊢
  rw [nar_C hx] at e
  rw [arrV_store] at e
  exact kk (oks_ast hG hO) ad H1 _ ls (ms_put hM hG ⟨htl, by rw [e]; show some (arrV _ _ _) = some (arrV _ _ _); rw [cv_vset]; rfl⟩ z oq) hl
theorem ev_dast {n len : Nat} {f : Nat → AV} {i : Int} {x : UInt64} (C : CX k own cc nL) (hd : decode cc pc = .ok (.dastore, 1)) (hq : pc + 1 = q) (hG : G n = some (.inr (4, len, f))) (hr : rg i) (h0 : 0 ≤ i) (h1 : i < len) (hG' : gup G n (.inr (4, len, vset f i.toNat (vD x))) = G') (kk : EV k q lv st G' ct sl) : EV k pc lv (vD x :: vI i :: vR (some n) :: st) G ct sl := by
  subst hq
  subst hG'
  intro hO ad H locs ls hM hl
  obtain ⟨htl, hc⟩ := hM.1 n _ hG
  refine W.dast C.1 C.2.1 hc (K_arr C htl len _) (fun z => nomatch z) (arr_in hr h0 h1) rfl rfl hd fun H1 e z oq => ?_
  rw [iI_nat hr h0] at e ⊢
  rw [arrV_store] at e
  exact kk (oks_ast hG hO) ad H1 _ ls (ms_put hM hG ⟨htl, by rw [e]; show some (arrV _ _ _) = some (arrV _ _ _); rw [cv_vset]; rfl⟩ z oq) hl
theorem ev_aastN {t n len : Nat} {f : Nat → AV} {i : Int} (C : CX k own cc nL) (hd : decode cc pc = .ok (.aastore, 1)) (hq : pc + 1 = q) (ht : t = 5 ∨ t = 6) (hG : G n = some (.inr (t, len, f))) (hr : rg i) (h0 : 0 ≤ i) (h1 : i < len) (hG' : gup G n (.inr (t, len, vset f i.toNat (vR none))) = G') (kk : EV k q lv st G' ct sl) : EV k pc lv (vR none :: vI i :: vR (some n) :: st) G ct sl := by
  subst hq
  subst hG'
  intro hO ad H locs ls hM hl
  obtain ⟨htl, hc⟩ := hM.1 n _ hG
  have hC : ∃ Cn, arT t = .object Cn := by rcases ht with rfl | rfl <;> exact ⟨_, rfl⟩
  obtain ⟨Cn, hCn⟩ := hC
  have harr := K_arr C htl len (fun j => cv ad (f j))
  rw [hCn] at harr
  refine va_WaastN (C := Cn) C.1 C.2.1 hc harr (fun z => nomatch z) (arr_in hr h0 h1) rfl rfl hd fun H1 e z oq => ?_
  rw [iI_nat hr h0] at e ⊢
  rw [arrV_store] at e
  exact kk (oks_ast hG hO) ad H1 _ ls (ms_put hM hG ⟨htl, by rw [e]; show some (arrV _ _ _) = some (arrV _ _ _); rw [cv_vset]; rfl⟩ z oq) hl
/-- a reference to an object of class ci into an array whose component class is that class, or Object -/
theorem ev_aast {t n len ci x : Nat} {f : Nat → AV} {fs : List AV} {i : Int} {Cn : String} {T : u_T} {N : Nat} (C : CX k own cc nL) (hd : decode cc pc = .ok (.aastore, 1)) (hq : pc + 1 = q) (ht : t = 5 ∨ t = 6) (hc : vwCl[ci]? = some (Cn, T, N)) (hcast : arT t = .object Cn ∨ ∃ Y, arT t = .object Y ∧ (Cn, Y) ∈ cstl0) (hG : G n = some (.inr (t, len, f))) (hGx : G x = some (.inl (ci, fs))) (hr : rg i) (h0 : 0 ≤ i) (h1 : i < len) (hG' : gup G n (.inr (t, len, vset f i.toNat (vR (some x)))) = G') (kk : EV k q lv st G' ct sl) : EV k pc lv (vR (some x) :: vI i :: vR (some n) :: st) G ct sl := by
  subst hq
  subst hG'
  intro hO ad H locs ls hM hl
  obtain ⟨hx, hb, hml, hown, hts, hlk, htr, hK, hH, hV, -⟩ := id C
  obtain ⟨htl, hc0⟩ := hM.1 n _ hG
  obtain ⟨r', hr', cellV, g1, g2, g3, -⟩ := hM.1 x _ hGx
  have hcls := (hK.1 ci _ hc).2
  have hra := K_ra C htl
  have key : ∃ (Y : String) (kA : Class) (comp : ClassId), arT t = .object Y ∧ (ks k).vm.classes[kdT k t]? = some kA ∧ kA.kind = .array comp (.object Y) ∧ (ks k).vm.findClass Y = some comp ∧ (ks k).vm.assignable cellV.cls comp = true := by
    rcases hcast with hY | ⟨Y, hY, hcs1⟩
    · rw [hY] at hra
      obtain ⟨kA, comp, k1, k2, k3, -⟩ := hra
      have hcomp : comp = (kD k).1 ci := Option.some.inj (k3.symm.trans hcls.1)
      exact ⟨Cn, kA, comp, hY, k1, k2, k3, by rw [hcomp, g2]; exact va_assign hcls⟩
    · rw [hY] at hra
      obtain ⟨kA, comp, k1, k2, k3, -⟩ := hra
      obtain ⟨c0, t0, f1, f2, f3⟩ := Cond.castable_spec (va_Nw.use (A := #[]) rfl (hV.1 _ hcs1))
      have e1 : c0 = (kD k).1 ci := Option.some.inj (f1.symm.trans hcls.1)
      have e2 : t0 = comp := Option.some.inj (f2.symm.trans k3)
      exact ⟨Y, kA, comp, hY, k1, k2, k3, by rw [g2, ← e1, ← e2]; exact f3⟩
  obtain ⟨Y, kA, comp, hY, k1, k2, k3, hass⟩ := key
  obtain ⟨kC, hkC, -⟩ := hcls.2
  obtain ⟨kc9, hkc9, -⟩ := Vm.findClass_spec k3
  refine W.aast hx hb hc0 (fun z h => nomatch h) (fun h => nomatch h) k1 k2 rfl hkc9 ⟨fun z => arr_in (cA := 0) (f := fun _ => .null) hr h0 h1 (Or.inl z), by show _ < (arrV _ _ _).slots.size; rw [arrV_size, iI_nat hr h0]; exact (Int.toNat_lt h0).mpr h1⟩ g1 (fun z h => by rw [g3] at h; cases h) (by rw [g2]; exact hkC) hass rfl rfl hd fun H1 e z oq => ?_
  rw [iI_nat hr h0] at e ⊢
  rw [arrV_store] at e
  exact kk (oks_ast hG hO) ad H1 _ ls (ms_put hM hG ⟨htl, by rw [e]; show some (arrV _ _ _) = some (arrV _ _ _); rw [cv_vset]; rfl⟩ z oq) hl
theorem ev_alen {t n len : Nat} {f : Nat → AV} (C : CX k own cc nL) (hd : decode cc pc = .ok (.arraylength, 1)) (hq : pc + 1 = q) (hG : G n = some (.inr (t, len, f))) (kk : EV k q lv (vI len :: st) G ct sl) : EV k pc lv (vR (some n) :: st) G ct sl := by
  subst hq
  intro hO ad H locs ls hM hl
  obtain ⟨htl, hc⟩ := hM.1 n _ hG
  exact W.alen (n := iI len) C.1 C.2.1 hc (K_arr C htl len _) (by rw [arrV_size]; rfl) rfl rfl hd (kk (oks_push (okv_I _) (oks_pop1 hO)) ad H locs ls hM hl)
/-- the length of the shared empty array -/
theorem ev_alen0 (C : CX k own cc nL) (hd : decode cc pc = .ok (.arraylength, 1)) (hq : pc + 1 = q) (kk : EV k q lv (vI 0 :: st) G ct sl) : EV k pc lv (vR (some 1013) :: st) G ct sl := by
  subst hq
  intro hO ad H locs ls hM hl
  obtain ⟨hx, hb, hml, hown, hts, hlk, htr, hK, hH, hV, hA, hn1, hn2⟩ := id C
  have h13 : ad 1013 = kad k 1013 := hM.2.2.2.1 1013 hn1
  have hT : va_T (.object "java/lang/Object") (kad k 1013) 0 (fun _ => .null) (kA k) (ks k) H := hH.2.2.2.1.kept hM.2.2.2.2.2.2.1
  obtain ⟨cell, g1, g2, g3, g4, g5, -⟩ := hT
  have e : cv ad (vR (some 1013)) = .ref (kad k 1013) := by show Value.ref (ad 1013) = _; rw [h13]
  show WK k H locs ct sl pc ls (cv ad (vR (some 1013)) :: st.map (cv ad))
  rw [e]
  exact W.alen (n := iI 0) hx hb g1 g2 g5 rfl rfl hd (kk (oks_push (okv_I _) (oks_pop1 hO)) ad H locs ls hM hl)
theorem ev_getS {index : Nat} (C : CX k own cc nL) (hd : decode cc pc = .ok (.getstatic index, 3)) (hq : pc + 3 = q) (hlink : Cond.fieldLink own index "java/util/ArrayList" "DEFAULTCAPACITY_EMPTY_ELEMENTDATA" "[Ljava/lang/Object;" ∈ lw_good) (kk : EV k q lv (vR (some 1013) :: st) G ct sl) : EV k pc lv st G ct sl := by
  subst hq
  intro hO ad H locs ls hM hl
  obtain ⟨hx, hb, hml, hown, hts, hlk, htr, hK, hH, hV, hA, hn1, hn2⟩ := id C
  have h13 : ad 1013 = kad k 1013 := hM.2.2.2.1 1013 hn1
  refine va_gets hx hb hH.2.2.1 hM.2.2.2.2.2 hown (hts _ hlink) (fun x h => h) hd ?_
  have := kk (oks_push (fun n h => by cases h; exact Or.inr (Or.inr (Or.inl rfl))) hO) ad H locs ls hM hl
  rw [← h13]
  exact this
end AR
