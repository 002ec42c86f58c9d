/-! THE JDK: copying of references, class objects, written numbers; names given anew -/
section JR
variable {k : Kx} {own : String} {cc : ByteArray} {nL : Nat} {pc q tgt : Nat} {lv lv' : List (Nat × AV)} {st st' : List AV} {G G' : GH} {ct sl : Nat}
theorem ev_ldcI {index : Nat} {v : Int} {w : Int32} (C : CX k own cc nL) (hd : decode cc pc = .ok (.ldc index, 2)) (hq : pc + 2 = q) (hk : Cond.constant own index w ∈ lw_good) (hw : w = iI v) (kk : EV k q lv (vI v :: st) G ct sl) : EV k pc lv st G ct sl := by
  subst hq
  subst hw
  exact ev_mk (oks_push (okv_I _)) kk fun ad H locs ls hl go => lv_ldc C.1 C.2.1 C.2.2.2.1 (C.2.2.2.2.1 _ hk) hd (go ls hl)
theorem ev_ldcwI {index : Nat} {v : Int} {w : Int32} (C : CX k own cc nL) (hd : decode cc pc = .ok (.ldc_w index, 3)) (hq : pc + 3 = q) (hk : Cond.constant own index w ∈ lw_good) (hw : w = iI v) (kk : EV k q lv (vI v :: st) G ct sl) : EV k pc lv st G ct sl := by
  subst hq
  subst hw
  exact ev_mk (oks_push (okv_I _)) kk fun ad H locs ls hl go => lv_ldcw C.1 C.2.1 C.2.2.2.1 (C.2.2.2.2.1 _ hk) hd (go ls hl)
theorem okv_14 : okv G (vR (some 1014)) := fun n h => by cases h; exact Or.inr (Or.inr (Or.inr rfl))
theorem ms_14 {ad : Nat → Nat} {H : Heap} {locs : List Loc} (C : CX k own cc nL) (hM : MS k ad G H locs) : ad 1014 = kad k 1014 := by
  obtain ⟨hx, hb, hml, hown, hts, hlk, htr, hK, hH, hV, hA, hn1, hn2⟩ := id C
  exact hM.2.2.2.1 1014 hn2.2
theorem ev_ldcM {index : Nat} (C : CX k own cc nL) (hd : decode cc pc = .ok (.ldc index, 2)) (hq : pc + 2 = q) (hk : Cond.classLink own index "[Ljava/lang/Object;" ∈ lw_good) (kk : EV k q lv (vR (some 1014) :: st) G ct sl) : EV k pc lv st G ct sl := by
  subst hq
  intro hO ad H locs ls hM hl
  obtain ⟨hx, hb, hml, hown, hts, hlk, htr, hK, hH, hV, hA, hn1, hn2⟩ := id C
  have h := kk (oks_push okv_14 hO) ad H locs ls hM hl
  have e : cv ad (vR (some 1014)) = .ref (kad k 1014) := by show Value.ref (ad 1014) = _; rw [ms_14 C hM]
  rw [List.map_cons, e] at h
  exact va_ldcM hx hb hown (hts _ hk) hH.2.2.2.2 hd h
theorem ev_getC {index n len : Nat} {f : Nat → AV} (C : CX k own cc nL) (hd : decode cc pc = .ok (.invokevirtual index, 3)) (hq : pc + 3 = q) (h1 : Cond.methodLink own index ⟨"java/lang/Object", "getClass", "()Ljava/lang/Class;"⟩ ∈ lw_good) (h2 : Cond.selects "[Ljava/lang/Object;" ⟨"java/lang/Object", "getClass", "()Ljava/lang/Class;"⟩ ⟨"java/lang/Object", "getClass", "()Ljava/lang/Class;"⟩ ∈ lw_good) (h3 : Cond.instanceMethod ⟨"java/lang/Object", "getClass", "()Ljava/lang/Class;"⟩ ∈ lw_good) (h4 : Cond.native ⟨"java/lang/Object", "getClass", "()Ljava/lang/Class;"⟩ ∈ lw_good) (hw : wdt st ≤ 8) (hG : G n = some (.inr (6, len, f))) (kk : EV k q lv (vR (some 1014) :: st) G ct sl) : EV k pc lv (vR (some n) :: st) G ct sl := by
  subst hq
  intro hO ad H locs ls hM hl
  obtain ⟨hx, hb, hml, hown, hts, hlk, htr, hK, hH, hV, hA, hn1, hn2⟩ := id C
  have h := kk (oks_push okv_14 (oks_pop1 hO)) ad H locs ls hM hl
  have e : cv ad (vR (some 1014)) = .ref (kad k 1014) := by show Value.ref (ad 1014) = _; rw [ms_14 C hM]
  rw [List.map_cons, e] at h
  obtain ⟨htl, hc0⟩ := hM.1 n _ hG
  have hra := K_ra C (t := 6) (by decide)
  exact va_getC hx hb hl.1.symm hown (hts _ h1) (va_Dc.use hV.2.2.2.2.2.1) (hts _ h2) (hts _ h3) (hts _ h4) hH.2.2.2.2 ⟨_, hc0, rfl, va_nmO (C := "java/lang/Object") hra (by decide)⟩ (by show 1 ≤ 20 + 2 * _; omega) (by show _ ≤ 300 + 60 * klev k; have := wdt_ok (ad := ad) hw; omega) hd h
theorem ms_putL {ad : Nat → Nat} {H H1 : Heap} {locs L : List Loc} {n : Nat} {c0 c : AC} (hM : MS k ad G H locs) (hG : G n = some c0) (hc : nrp1 (kD k) (kdT k) ad n c H1) (z : H1.size = H.size) (oq : ∀ a, a ≠ ad n → H1[a]? = H[a]?) (hL : ∀ l ∈ L, l.base = ad n) : MS k ad (gup G n c) H1 (locs ++ L) := by
  have h := ms_put (s0 := 0) hM hG hc z oq
  refine ⟨h.1, h.2.1, h.2.2.1, h.2.2.2.1, h.2.2.2.2.1, h.2.2.2.2.2.1, h.2.2.2.2.2.2.1, fun l hl => ?_⟩
  rcases List.mem_append.mp hl with hl | hl
  · exact hM.2.2.2.2.2.2.2 l hl
  · rw [hL l hl]
    exact hM.2.2.1 n (by rw [hG]; exact fun z => nomatch z)
theorem cv_cpy (ad : Nat → Nat) (f g : Nat → AV) (sp dp n : Nat) : (fun j => cv ad (va_cpy f g sp dp n j)) = va_cpy (fun j => cv ad (f j)) (fun j => cv ad (g j)) sp dp n := by
  funext j
  unfold va_cpy
  split <;> rfl
theorem iI_nn {x : Int} (hx : rg x) (h0 : 0 ≤ x) : ¬ iI x < 0 := fun z => by have := (iI_lt0 hx).mp z; omega
theorem ev_acopy {index n0 n1 len0 len1 : Nat} {f g : Nat → AV} {sp dp n : Int} (C : CX k own cc nL) (hd : decode cc pc = .ok (.invokestatic index, 3)) (hq : pc + 3 = q) (h1 : Cond.methodLink own index arraycopyName ∈ lw_good) (hG0 : G n0 = some (.inr (6, len0, f))) (hG1 : G n1 = some (.inr (6, len1, g))) (hl0 : len0 ≤ 65536) (hl1 : len1 ≤ 65536) (hsp : 0 ≤ sp) (hdp : 0 ≤ dp) (hn : 0 ≤ n) (h4 : sp + n ≤ len0) (h5 : dp + n ≤ len1)
    (hel : ∀ i : Nat, i < n.toNat → f (sp.toNat + i) = vR none ∨ ∃ (y ci N : Nat) (fs : List AV) (Cn : String) (T : u_T), f (sp.toNat + i) = vR (some y) ∧ G y = some (.inl (ci, fs)) ∧ vwCl[ci]? = some (Cn, T, N) ∧ (Cn, "java/lang/Object") ∈ cstl0) (hw : wdt st ≤ 8) (hG' : gup G n1 (.inr (6, len1, va_cpy f g sp.toNat dp.toNat n.toNat)) = G') (kk : EV k q lv st G' ct sl) : EV k pc lv (vI n :: vI dp :: vR (some n1) :: vI sp :: vR (some n0) :: st) G ct sl := by
  subst hq
  subst hG'
  intro hO ad H locs ls hM hl
  obtain ⟨hx, hb, hml, hown, hts, hlk, htr, hK, hH, hV, hA, hn1, hn2⟩ := id C
  obtain ⟨htl0, hc0⟩ := hM.1 n0 _ hG0
  obtain ⟨htl1, hc1⟩ := hM.1 n1 _ hG1
  have hra := K_ra C (t := 6) (by decide)
  obtain ⟨kA, comp, k1, k2, k3, -⟩ := id hra
  have rs : rg sp := by unfold rg; omega
  have rd : rg dp := by unfold rg; omega
  have rn : rg n := by unfold rg; omega
  have hok : okc G (.inr (6, len1, va_cpy f g sp.toNat dp.toNat n.toNat)) := fun j hj => by
    show okv G (va_cpy f g sp.toNat dp.toNat n.toNat j)
    unfold va_cpy
    split
    · rename_i hjj
      exact hO.1.1 n0 _ hG0 _ (by show sp.toNat + (j - dp.toNat) < len0; omega)
    · exact hO.1.1 n1 _ hG1 j hj
  have hnf : ¬ fgn n1 := fun z => by have := hO.1.2 n1 z; rw [hG1] at this; cases this
  have ek := kk (oks_gup (oks_pop1 (oks_pop1 (oks_pop1 (oks_pop1 (oks_pop1 hO))))) hnf hok) ad
  intro T hT X
  have hcs0 : T.heap[ad n0]? = some (arrV (kdT k 6) len0 (fun j => cv ad (f j))) := by rw [hT]; exact hc0
  have hcs1 : T.heap[ad n1]? = some (arrV (kdT k 6) len1 (fun j => cv ad (g j))) := by rw [hT]; exact hc1
  obtain ⟨vm', X', step⟩ := X.arraycopy hx hown (hts _ h1) (hts _ (q9 487 (by decide +kernel) (by decide +kernel))) (hts _ (q9 486 (by decide +kernel) (by decide +kernel))) (hts _ (q9 20 (by decide +kernel) (by decide +kernel))) (srcPos := iI sp) (destPos := iI dp) (n := iI n) hcs0 hcs1
    (fun _ h => nomatch h) (fun _ h => nomatch h) (fun h => nomatch h) (fun h => nomatch h) k1 k1 k2 k2 rfl (iI_nn rs hsp) (iI_nn rd hdp) (iI_nn rn hn)
    (by rw [iI_toInt rs, iI_toInt rn, arrV_size]; omega) (by rw [iI_toInt rd, iI_toInt rn, arrV_size]; omega)
    (fun vm₁ hal i hi => by
      rw [iI_nat rn hn] at hi
      rw [iI_nat rs hsp]
      have e : (arrV (kdT k 6) len0 (fun j => cv ad (f j))).slots.getD (sp.toNat + i) .null = cv ad (f (sp.toNat + i)) := by
        rw [Array.getD_eq_getD_getElem?, arrV_read _ _ (by omega)]
        rfl
      rw [e]
      rcases hel i hi with hy | ⟨y, ci, N, fs, Cn, T0, hy, hGy, hci, hcs⟩
      · rw [hy]; exact ⟨rfl, trivial⟩
      · rw [hy]
        obtain ⟨r', hr', cellV, g1, g2, g3, -⟩ := hM.1 y _ hGy
        have hcls := (hK.1 ci _ hci).2
        obtain ⟨kC, hkC, -⟩ := hcls.2
        obtain ⟨kE, hkE, -⟩ := Vm.findClass_spec k3
        obtain ⟨c0, t0, f1, f2, f3⟩ := Cond.castable_spec (va_Nw.use (A := #[]) rfl (hV.1 _ hcs))
        have e1 : c0 = (kD k).1 ci := Option.some.inj (f1.symm.trans hcls.1)
        have e2 : t0 = comp := Option.some.inj (f2.symm.trans k3)
        obtain ⟨kC', hkC', -⟩ := hal.2.2 _ _ hkC
        obtain ⟨kE', hkE', -⟩ := hal.2.2 _ _ hkE
        refine ⟨rfl, cellV, (show T.heap[ad y]? = some cellV by rw [hT]; exact g1), (fun q h => by rw [g3] at h; cases h), ⟨kC', by show vm₁.classes[cellV.cls]? = _; rw [g2]; exact hkC'⟩, ⟨kE', hkE'⟩, ?_⟩
        show vm₁.assignable _ _ = true
        rw [hal.assignable, g2, ← e1, ← e2]
        exact f3)
    (g := F0 (km k) pc ls (.int (iI n) :: .int (iI dp) :: .ref (ad n1) :: .int (iI sp) :: .ref (ad n0) :: st.map (cv ad))) rfl (by show ls.size = _; exact hl.1) (rest := st.map (cv ad)) rfl (by rw [hb]; exact hd) (by show 1 ≤ 20 + 2 * _; omega) (by
      have hnw : nativeFrameWords "java/lang/System" "arraycopy" 5 ≤ 40 := by decide
      have := wdt_ok (ad := ad) hw
      show 2 * 0 + _ + _ ≤ 300 + 60 * klev k
      omega)
  have e1 : copied (arrV (kdT k 6) len0 (fun j => cv ad (f j))) (arrV (kdT k 6) len1 (fun j => cv ad (g j))) (iI sp) (iI dp) (iI n) = arrV (kdT k 6) len1 (fun j => cv ad (va_cpy f g sp.toNat dp.toNat n.toNat j)) := by
    rw [cv_cpy]
    have hc := va_copied (fun z : Value => z) (kdT k 6) (kdT k 6) (n0 := len0) (n1 := len1) (sp := sp.toNat) (dp := dp.toNat) (n := n.toNat) (fun j => cv ad (f j)) (fun j => cv ad (g j)) (by omega)
    rw [← hc]
    show (arrV _ _ _).storeRun _ ((arrV _ _ _).stretch _ _) = _
    rw [iI_nat rs hsp, iI_nat rd hdp, iI_nat rn hn]
  rw [e1] at X' step
  have hlt : ad n1 < H.size := (Array.getElem?_eq_some_iff.mp hc1).1
  have hheap : ((T.setVm vm').setCell (ad n1) (arrV (kdT k 6) len1 (fun j => cv ad (va_cpy f g sp.toNat dp.toNat n.toNat j)))).heap = H.setIfInBounds (ad n1) (arrV (kdT k 6) len1 (fun j => cv ad (va_cpy f g sp.toNat dp.toNat n.toNat j))) := by rw [← hT]; rfl
  have oq : ∀ q : Nat, q ≠ ad n1 → (H.setIfInBounds (ad n1) (arrV (kdT k 6) len1 (fun j => cv ad (va_cpy f g sp.toNat dp.toNat n.toNat j))))[q]? = H[q]? := fun q hq => by simp [Array.getElem?_setIfInBounds, Ne.symm hq]
  have hMS := ms_putL (L := ((arrV (kdT k 6) len0 (fun j => cv ad (f j))).stretch (iI sp).toNatClampNeg (iI n).toNatClampNeg).zipIdx.map fun q => ⟨ad n1, (iI dp).toNatClampNeg + q.2⟩) hM hG1 (c := .inr (6, len1, va_cpy f g sp.toNat dp.toNat n.toNat)) (H1 := H.setIfInBounds (ad n1) (arrV (kdT k 6) len1 (fun j => cv ad (va_cpy f g sp.toNat dp.toNat n.toNat j)))) ⟨by show 6 < 7; decide, by simp [Array.getElem?_setIfInBounds, hlt]⟩ (by simp) oq (fun l hl => by
    obtain ⟨z, -, hz⟩ := List.mem_map.mp hl
    rw [← hz])
  obtain ⟨t, a1, b1⟩ := ek _ _ ls hMS hl _ hheap X'
  exact ⟨t, step t a1, b1⟩
/-- a cell takes another's name, which nobody else speaks of any more -/
def rnv (a b : Nat) (v : AV) : AV := match v with
  | .inr (.inl (some n)) => if n = b then vR (some a) else vR (some n)
  | v => v
def rnc (a b : Nat) (c : AC) : AC := match c with
  | .inl o => .inl (o.1, o.2.map (rnv a b))
  | .inr r => .inr (r.1, r.2.1, fun j => rnv a b (r.2.2 j))
def nos (a : Nat) (c : AC) : Prop := match c with
  | .inl o => ∀ v ∈ o.2, rfo v ≠ some a
  | .inr r => ∀ j, j < r.2.1 → rfo (r.2.2 j) ≠ some a
theorem rnv_cv {a b : Nat} {ad ad' : Nat → Nat} {v : AV} (h1 : ad' a = ad b) (h2 : ∀ n, n ≠ a → ad' n = ad n) (hv : rfo v ≠ some a) : cv ad' (rnv a b v) = cv ad v := by
  rcases v with x | (_ | n) | x | x | x
  · rfl
  · rfl
  · show cv ad' (if n = b then vR (some a) else vR (some n)) = _
    have hn : n ≠ a := fun e => hv (by rw [e]; rfl)
    by_cases e : n = b
    · rw [if_pos e]
      show Value.ref (ad' a) = Value.ref (ad n)
      rw [h1, e]
    · rw [if_neg e]
      show Value.ref (ad' n) = Value.ref (ad n)
      rw [h2 n hn]
  · rfl
  · rfl
  · rfl
theorem rnv_ok {a b : Nat} {v : AV} (hv : okv G v) (hav : rfo v ≠ some a) (hb : ¬ fgn b) (hG : ∀ n, n ≠ a → n ≠ b → G n ≠ none → G' n ≠ none) (ha : G' a ≠ none) : okv G' (rnv a b v) := by
  intro n hn
  rcases v with x | (_ | m) | x | x | x
  · cases hn
  · cases hn
  · have hn' : rfo (if m = b then vR (some a) else vR (some m)) = some n := hn
    by_cases e : m = b
    · rw [if_pos e] at hn'
      cases hn'
      exact Or.inl ha
    · rw [if_neg e] at hn'
      have e9 : m = n := Option.some.inj hn'
      have hma : m ≠ a := fun e => hav (by rw [e]; rfl)
      rw [← e9]
      exact (hv m rfl).elim (fun z => Or.inl (hG m hma e z)) Or.inr
  · cases hn
  · cases hn
  · cases hn
def rnG (a b : Nat) (G : GH) : GH := fun n => if n = a then (G b).map (rnc a b) else if n = b then none else (G n).map (rnc a b)
theorem nrp1_rn {D : va_G} {dT : Nat → ClassId} {a b n m : Nat} {ad ad' : Nat → Nat} {c : AC} {H : Heap} (h1 : ad' a = ad b) (h2 : ∀ n, n ≠ a → ad' n = ad n) (hc : nos a c) (hm : ad' m = ad n) (h : nrp1 D dT ad n c H) : nrp1 D dT ad' m (rnc a b c) H := by
  cases c with
  | inl o =>
    obtain ⟨r, q1, q2⟩ := h
    refine ⟨r, q1, ?_⟩
    have e : (o.2.map (rnv a b)).map (cv ad') = o.2.map (cv ad) := by
      rw [List.map_map]
      exact List.map_congr_left fun v hv => rnv_cv h1 h2 (hc v hv)
    show t_OB (ad' m) _ _ _ H (vp_V ((o.2.map (rnv a b)).map (cv ad')))
    rw [e, hm]
    exact q2
  | inr r =>
    refine ⟨h.1, ?_⟩
    show H[ad' m]? = some (arrV (dT r.1) r.2.1 (fun j => cv ad' (rnv a b (r.2.2 j))))
    rw [hm, h.2]
    exact congrArg some (arrV_congr fun j hj => (rnv_cv h1 h2 (hc j hj)).symm)
theorem rnG_some {a b n : Nat} {c : AC} (h : rnG a b G n = some c) (hab : a ≠ b) : ∃ m c0, G m = some c0 ∧ c = rnc a b c0 ∧ ((n = a ∧ m = b) ∨ (n ≠ a ∧ n ≠ b ∧ m = n)) := by
  unfold rnG at h
  by_cases e : n = a
  · rw [if_pos e] at h
    obtain ⟨c0, h1, h2⟩ := Option.map_eq_some_iff.mp h
    exact ⟨b, c0, h1, h2.symm, Or.inl ⟨e, rfl⟩⟩
  · rw [if_neg e] at h
    by_cases e2 : n = b
    · rw [if_pos e2] at h; cases h
    · rw [if_neg e2] at h
      obtain ⟨c0, h1, h2⟩ := Option.map_eq_some_iff.mp h
      exact ⟨n, c0, h1, h2.symm, Or.inr ⟨e, e2, rfl⟩⟩
theorem ev_ren {a b : Nat} (hab : a ≠ b) (hfa : ¬ fgn a) (hfb : ¬ fgn b) (hGb : G b ≠ none) (hnw : knw k a) (hkb : kG k b = none) (hno : ∀ n c, n ≠ a → G n = some c → nos a c) (hlv : ∀ q ∈ lv, rfo q.2 ≠ some a ∧ rfo q.2 ≠ some b) (hst : ∀ v ∈ st, rfo v ≠ some a) (hG' : rnG a b G = G') (kk : EV k pc lv (st.map (rnv a b)) G' ct sl) : EV k pc lv st G ct sl := by
  subst hG'
  intro hO ad H locs ls hM hl
  obtain ⟨p1, p2, p3, p4, p5, p6⟩ := hM
  obtain ⟨cb, hcb⟩ : ∃ cb, G b = some cb := Option.ne_none_iff_exists'.mp hGb
  have d1 : (fun n => if n = a then ad b else ad n) a = ad b := if_pos rfl
  have d2 : ∀ n, n ≠ a → (fun n => if n = a then ad b else ad n) n = ad n := fun n h => if_neg h
  generalize (fun n => if n = a then ad b else ad n) = ad' at d1 d2
  have gs : ∀ n, n ≠ a → n ≠ b → G n ≠ none → rnG a b G n ≠ none := fun n h1 h2 h3 => by
    unfold rnG
    rw [if_neg h1, if_neg h2]
    exact fun z => h3 (Option.map_eq_none_iff.mp z)
  have ga : rnG a b G a ≠ none := by
    unfold rnG
    rw [if_pos rfl, hcb]
    exact fun z => nomatch z
  have nosb : ∀ n c, G n = some c → n ≠ a → nos a c := fun n c h1 h2 => hno n c h2 h1
  have hok : okG (rnG a b G) := by
    refine ⟨fun n c h => ?_, fun n hf => ?_⟩
    · obtain ⟨m, c0, h1, rfl, h3⟩ := rnG_some h hab
      have hma : m ≠ a := h3.elim (fun z => by rw [z.2]; exact Ne.symm hab) (fun z => by rw [z.2.2]; exact z.1)
      have hc0 := hO.1.1 m c0 h1
      have hn0 := nosb m c0 h1 hma
      cases c0 with
      | inl o =>
        intro v hv
        obtain ⟨w, hw, rfl⟩ := List.mem_map.mp hv
        exact rnv_ok (hc0 w hw) (hn0 w hw) hfb gs ga
      | inr r => exact fun j hj => rnv_ok (hc0 j hj) (hn0 j hj) hfb gs ga
    · unfold rnG
      rw [if_neg (fun (e : n = a) => hfa (by rw [← e]; exact hf)), if_neg (fun (e : n = b) => hfb (by rw [← e]; exact hf)), hO.1.2 n hf]
      rfl
  have hOK : OKS (rnG a b G) lv (st.map (rnv a b)) := by
    refine ⟨hok, fun q hq n hn => ?_, fun v hv => ?_⟩
    · have h1 := hlv q hq
      rcases hO.2.1 q hq n hn with z | z
      · exact Or.inl (gs n (fun e => h1.1 (by rw [hn, e])) (fun e => h1.2 (by rw [hn, e])) z)
      · exact Or.inr z
    · obtain ⟨w, hw, rfl⟩ := List.mem_map.mp hv
      exact rnv_ok (hO.2.2 w hw) (hst w hw) hfb gs ga
  have hM' : MS k ad' (rnG a b G) H locs := by
    refine ⟨fun n c h => ?_, fun x y hx hy hxy => ?_, fun n hn => ?_, fun n hn => ?_, fun n hn => ?_, p6⟩
    · obtain ⟨m, c0, h1, rfl, h3⟩ := rnG_some h hab
      have hma : m ≠ a := h3.elim (fun z => by rw [z.2]; exact Ne.symm hab) (fun z => by rw [z.2.2]; exact z.1)
      refine nrp1_rn d1 d2 (nosb m c0 h1 hma) ?_ (p1 m c0 h1)
      rcases h3 with ⟨rfl, rfl⟩ | ⟨h4, -, rfl⟩
      · exact d1
      · exact d2 _ h4
    · obtain ⟨cx, hcx⟩ := Option.ne_none_iff_exists'.mp hx
      obtain ⟨cy, hcy⟩ := Option.ne_none_iff_exists'.mp hy
      obtain ⟨mx, x0, x1, -, x3⟩ := rnG_some hcx hab
      obtain ⟨my, y0, y1, -, y3⟩ := rnG_some hcy hab
      have ex : ad' x = ad mx := x3.elim (fun z => by rw [z.1, z.2]; exact d1) (fun z => by rw [z.2.2]; exact d2 _ z.1)
      have ey : ad' y = ad my := y3.elim (fun z => by rw [z.1, z.2]; exact d1) (fun z => by rw [z.2.2]; exact d2 _ z.1)
      have e := p2 mx my (by rw [x1]; exact fun z => nomatch z) (by rw [y1]; exact fun z => nomatch z) (by rw [← ex, ← ey]; exact hxy)
      rcases x3 with ⟨rfl, rfl⟩ | ⟨h4, h5, rfl⟩ <;> rcases y3 with ⟨rfl, rfl⟩ | ⟨h6, h7, rfl⟩
      · rfl
      · exact absurd e.symm h7
      · exact absurd e h5
      · exact e
    · obtain ⟨c, hc⟩ := Option.ne_none_iff_exists'.mp hn
      obtain ⟨m, c0, h1, -, h3⟩ := rnG_some hc hab
      have ex : ad' n = ad m := h3.elim (fun z => by rw [z.1, z.2]; exact d1) (fun z => by rw [z.2.2]; exact d2 _ z.1)
      rw [ex]
      exact p3 m (by rw [h1]; exact fun z => nomatch z)
    · rw [d2 n (fun (e : n = a) => hn (by rw [e]; exact hnw))]
      exact p4 n hn
    · by_cases e : n = a
      · rw [e]; exact ga
      · exact gs n e (fun (e2 : n = b) => hn (by rw [e2]; exact hkb)) (p5 n hn)
  have e : (st.map (rnv a b)).map (cv ad') = st.map (cv ad) := by
    rw [List.map_map]
    exact List.map_congr_left fun v hv => rnv_cv d1 d2 (hst v hv)
  have hl' : cvl ad' lv = cvl ad lv := List.map_congr_left fun q hq => by
    have h1 := hlv q hq
    have : cv ad' q.2 = cv ad q.2 := by
      rcases hq2 : q.2 with x | (_ | n) | x | x | x
      · rfl
      · rfl
      · show Value.ref (ad' n) = Value.ref (ad n)
        rw [d2 n (fun e => h1.1 (by rw [hq2, e]; rfl))]
      · rfl
      · rfl
      · rfl
    rw [this]
  have h := kk hOK ad' H locs ls hM' (by rw [hl']; exact hl)
  rw [e] at h
  exact h
end JR
