/-! ROWS OVER THE NAMED HEAP -/
def rg (x : Int) : Prop := -2147483648 ≤ x ∧ x < 2147483648
def rgL (x : Int) : Prop := -9223372036854775808 ≤ x ∧ x < 9223372036854775808
theorem iI_toInt {x : Int} (h : rg x) : (iI x).toInt = x := by
  unfold iI
  rw [Int32.toInt_ofInt]
  have hs : (Int32.size : Int) = 4294967296 := rfl
  have h1 := h.1
  have h2 := h.2
  exact Int.bmod_eq_of_le (by omega) (by omega)
theorem iL_toInt {x : Int} (h : rgL x) : (iL x).toInt = x := by
  unfold iL
  rw [Int64.toInt_ofInt]
  have hs : (Int64.size : Int) = 18446744073709551616 := rfl
  have h1 := h.1
  have h2 := h.2
  exact Int.bmod_eq_of_le (by omega) (by omega)
theorem iI_eq {x y : Int} (hx : rg x) (hy : rg y) : iI x = iI y ↔ x = y := by
  constructor
  · intro h
    have := congrArg Int32.toInt h
    rwa [iI_toInt hx, iI_toInt hy] at this
  · intro h; rw [h]
theorem iI_lt {x y : Int} (hx : rg x) (hy : rg y) : iI x < iI y ↔ x < y := by rw [Int32.lt_iff_toInt_lt, iI_toInt hx, iI_toInt hy]
theorem iI_le {x y : Int} (hx : rg x) (hy : rg y) : iI x ≤ iI y ↔ x ≤ y := by rw [Int32.le_iff_toInt_le, iI_toInt hx, iI_toInt hy]
theorem iI_0 : iI 0 = 0 := by decide
theorem rg_0 : rg 0 := by unfold rg; omega
theorem iI_eq0 {x : Int} (hx : rg x) : iI x = 0 ↔ x = 0 := by rw [← iI_0]; exact iI_eq hx rg_0
theorem iI_lt0 {x : Int} (hx : rg x) : iI x < 0 ↔ x < 0 := by rw [← iI_0]; exact iI_lt hx rg_0
theorem iI_le0 {x : Int} (hx : rg x) : iI x ≤ 0 ↔ x ≤ 0 := by rw [← iI_0]; exact iI_le hx rg_0
theorem iI_0lt {x : Int} (hx : rg x) : 0 < iI x ↔ 0 < x := by rw [← iI_0]; exact iI_lt rg_0 hx
theorem iI_0le {x : Int} (hx : rg x) : 0 ≤ iI x ↔ 0 ≤ x := by rw [← iI_0]; exact iI_le rg_0 hx
theorem iI_add (x y : Int) : iI x + iI y = iI (x + y) := (Int32.ofInt_add x y).symm
theorem iI_sub (x y : Int) : iI x - iI y = iI (x - y) := (Int32.ofInt_sub x y).symm
theorem iI_mul (x y : Int) : iI x * iI y = iI (x * y) := (Int32.ofInt_mul x y).symm
theorem iL_add (x y : Int) : iL x + iL y = iL (x + y) := (Int64.ofInt_add x y).symm
theorem iI_of (x : Int32) : iI x.toInt = x := Int32.ofInt_toInt x
theorem iI_nat {x : Int} (hx : rg x) (h0 : 0 ≤ x) : (iI x).toNatClampNeg = x.toNat := by
  show (iI x).toInt.toNat = _
  rw [iI_toInt hx]
theorem iI_in {x : Int} {n : Nat} (hx : rg x) (h0 : 0 ≤ x) (h1 : x < n) : vp_in (iI x) n := by
  rw [vp_in_iff, iI_toInt hx]
  exact ⟨h0, h1⟩
theorem iI_bi {x : Int} (h : -128 ≤ x ∧ x < 128) : (Int8.ofInt x).toInt32 = iI x := by
  apply Int32.toInt_inj.mp
  have hs : (Int8.size : Int) = 256 := rfl
  rw [Int8.toInt_toInt32, Int8.toInt_ofInt, iI_toInt (by unfold rg; omega)]
  exact Int.bmod_eq_of_le (by omega) (by omega)
theorem iI_si {x : Int} (h : -32768 ≤ x ∧ x < 32768) : (Int16.ofInt x).toInt32 = iI x := by
  apply Int32.toInt_inj.mp
  have hs : (Int16.size : Int) = 65536 := rfl
  rw [Int16.toInt_toInt32, Int16.toInt_ofInt, iI_toInt (by unfold rg; omega)]
  exact Int.bmod_eq_of_le (by omega) (by omega)
-- bits: by the machine's own words
def bAnd (x y : Int) : Int := (iI x &&& iI y).toInt
def bOr (x y : Int) : Int := (iI x ||| iI y).toInt
def bShl (x y : Int) : Int := (iI x <<< (iI y &&& 31)).toInt
def bShr (x y : Int) : Int := (iI x >>> (iI y &&& 31)).toInt
def bUshr (x y : Int) : Int := (((iI x).toUInt32 >>> ((iI y).toUInt32 &&& 31)).toInt32).toInt
-- locals
def lvf (i : Nat) (w : Bool) : List (Nat × AV) → List (Nat × AV)
  | [] => []
  | q :: r => if (Nat.beq q.1 i || (Nat.beq (q.1 + 1) i && c2 q.2) || (w && Nat.beq q.1 (i + 1))) = true then lvf i w r else q :: lvf i w r
def lvg (i : Nat) : List (Nat × AV) → Option AV
  | [] => none
  | q :: r => if Nat.beq q.1 i = true then some q.2 else lvg i r
theorem lvg_mem {i : Nat} {v : AV} : ∀ {lv : List (Nat × AV)}, lvg i lv = some v → (i, v) ∈ lv
  | [], h => by cases h
  | q :: r, h => by
    unfold lvg at h
    by_cases hq : Nat.beq q.1 i = true
    · rw [if_pos hq] at h
      cases h
      rw [← Nat.eq_of_beq_eq_true hq]
      exact List.mem_cons_self
    · rw [if_neg hq] at h
      exact List.mem_cons_of_mem _ (lvg_mem h)
theorem lvf_mem {i : Nat} {w : Bool} {q : Nat × AV} : ∀ {lv : List (Nat × AV)}, q ∈ lvf i w lv → q ∈ lv ∧ q.1 ≠ i ∧ ¬ (q.1 + 1 = i ∧ c2 q.2 = true) ∧ ¬ (w = true ∧ q.1 = i + 1)
  | [], h => by cases h
  | a :: r, h => by
    unfold lvf at h
    by_cases ha : (Nat.beq a.1 i || (Nat.beq (a.1 + 1) i && c2 a.2) || (w && Nat.beq a.1 (i + 1))) = true
    · rw [if_pos ha] at h
      obtain ⟨h1, h2⟩ := lvf_mem h
      exact ⟨List.mem_cons_of_mem _ h1, h2⟩
    · rw [if_neg ha] at h
      rcases List.mem_cons.mp h with rfl | h
      · refine ⟨List.mem_cons_self, ?_, ?_, ?_⟩
        · intro e; apply ha; simp [e]
        · rintro ⟨e1, e2⟩; apply ha; simp [e1, e2]
        · rintro ⟨e1, e2⟩; apply ha; simp [e1, e2]
      · obtain ⟨h1, h2⟩ := lvf_mem h
        exact ⟨List.mem_cons_of_mem _ h1, h2⟩
def lvs (i : Nat) (w : Bool) (v : AV) : List (Nat × AV) → List (Nat × AV)
  | [] => [(i, v)]
  | q :: r => if Nat.beq q.1 i = true then (i, v) :: lvf i w r else if ((Nat.beq (q.1 + 1) i && c2 q.2) || (w && Nat.beq q.1 (i + 1))) = true then lvs i w v r else q :: lvs i w v r
theorem lvs_mem {i : Nat} {w : Bool} {v : AV} {q : Nat × AV} : ∀ {lv : List (Nat × AV)}, q ∈ lvs i w v lv → q ∈ (i, v) :: lvf i w lv
  | [], h => by
    rcases List.mem_cons.mp h with rfl | h
    · exact List.mem_cons_self
    · cases h
  | a :: r, h => by
    unfold lvs at h
    by_cases h1 : Nat.beq a.1 i = true
    · rw [if_pos h1] at h
      have e : lvf i w (a :: r) = lvf i w r := by
        conv => lhs; unfold lvf
        rw [if_pos (by simp [h1])]
      rw [e]
      exact h
    · rw [if_neg h1] at h
      by_cases h2 : ((Nat.beq (a.1 + 1) i && c2 a.2) || (w && Nat.beq a.1 (i + 1))) = true
      · rw [if_pos h2] at h
        have e : lvf i w (a :: r) = lvf i w r := by
          conv => lhs; unfold lvf
          rw [if_pos (by rw [Bool.or_assoc, Bool.or_eq_true]; exact Or.inr h2)]
        rw [e]
        exact lvs_mem h
      · rw [if_neg h2] at h
        have e : lvf i w (a :: r) = a :: lvf i w r := by
          conv => lhs; unfold lvf
          rw [if_neg (by rw [Bool.or_assoc, Bool.or_eq_true]; rintro (z | z); exact h1 z; exact h2 z)]
        rw [e]
        rcases List.mem_cons.mp h with rfl | h
        · exact List.mem_cons_of_mem _ List.mem_cons_self
        · rcases List.mem_cons.mp (lvs_mem h) with rfl | h
          · exact List.mem_cons_self
          · exact List.mem_cons_of_mem _ (List.mem_cons_of_mem _ h)
theorem lv_less {ls : Array Slot} {nL : Nat} {l l' : List (Nat × Value)} (h : lv_has ls nL l) (hs : ∀ q ∈ l', q ∈ l) : lv_has ls nL l' := ⟨h.1, h.2.1, fun q hq => h.2.2 q (hs q hq)⟩
theorem cvl_at {ls : Array Slot} {nL : Nat} {ad : Nat → Nat} {lv : List (Nat × AV)} {i : Nat} {v : AV} (h : lv_has ls nL (cvl ad lv)) (hg : lvg i lv = some v) : ls[i]? = some (.val (cv ad v)) :=
  h.2.2 (i, cv ad v) (List.mem_map.mpr ⟨(i, v), lvg_mem hg, rfl⟩)
theorem cvl_st1 {ad : Nat → Nat} {lv : List (Nat × AV)} {i : Nat} {v : AV} : ∀ q ∈ cvl ad (lvs i false v lv), q ∈ (i, cv ad v) :: (cvl ad lv).filter (fun q => !(q.1 == i) && !(q.1 + 1 == i && q.2.category == 2)) := by
  intro q hq
  obtain ⟨a, ha, rfl⟩ := List.mem_map.mp hq
  rcases List.mem_cons.mp (lvs_mem ha) with rfl | ha
  · exact List.mem_cons_self
  · obtain ⟨h1, h2, h3, -⟩ := lvf_mem ha
    refine List.mem_cons_of_mem _ (List.mem_filter.mpr ⟨List.mem_map.mpr ⟨a, h1, rfl⟩, ?_⟩)
    simp only [cv_cat]
    cases hc : c2 a.2
    · simp [h2]
    · have h4 : a.1 + 1 ≠ i := fun e => h3 ⟨e, hc⟩
      simp [h2, h4]
theorem cvl_st2 {ad : Nat → Nat} {lv : List (Nat × AV)} {i : Nat} {v : AV} : ∀ q ∈ cvl ad (lvs i true v lv), q ∈ (i, cv ad v) :: (cvl ad lv).filter (fun q => !(q.1 == i) && (!(q.1 == i + 1) && !(q.1 + 1 == i && q.2.category == 2))) := by
  intro q hq
  obtain ⟨a, ha, rfl⟩ := List.mem_map.mp hq
  rcases List.mem_cons.mp (lvs_mem ha) with rfl | ha
  · exact List.mem_cons_self
  · obtain ⟨h1, h2, h3, h5⟩ := lvf_mem ha
    refine List.mem_cons_of_mem _ (List.mem_filter.mpr ⟨List.mem_map.mpr ⟨a, h1, rfl⟩, ?_⟩)
    have h6 : a.1 ≠ i + 1 := fun e => h5 ⟨rfl, e⟩
    simp only [cv_cat]
    cases hc : c2 a.2
    · simp [h2, h6]
    · have h4 : a.1 + 1 ≠ i := fun e => h3 ⟨e, hc⟩
      simp [h2, h4, h6]
/-- the instructions that touch locals and stack alone -/
def as1 (nL : Nat) (ins : Instr) (n : Nat) (lv : List (Nat × AV)) (st : List AV) : Option (List (Nat × AV) × List AV) :=
  match ins, n, st with
  | .iconst x, 1, st => some (lv, vI x :: st)
  | .bipush x, 2, st => if -128 ≤ x ∧ x < 128 then some (lv, vI x :: st) else none
  | .sipush x, 3, st => if -32768 ≤ x ∧ x < 32768 then some (lv, vI x :: st) else none
  | .lconst x, 1, st => some (lv, vL x.val :: st)
  | .aconst_null, 1, st => some (lv, vR none :: st)
  | .iload_n i, 1, st => match lvg i.val lv with
    | some (.inl x) => some (lv, vI x :: st)
    | _ => none
  | .iload i, 2, st => match lvg i lv with
    | some (.inl x) => some (lv, vI x :: st)
    | _ => none
  | .aload_n i, 1, st => match lvg i.val lv with
    | some (.inr (.inl x)) => some (lv, vR x :: st)
    | _ => none
  | .aload i, 2, st => match lvg i lv with
    | some (.inr (.inl x)) => some (lv, vR x :: st)
    | _ => none
  | .lload i, 2, st => match lvg i lv with
    | some (.inr (.inr (.inl x))) => some (lv, vL x :: st)
    | _ => none
  | .istore_n i, 1, .inl x :: st => if i.val < nL then some (lvs i.val false (vI x) lv, st) else none
  | .istore i, 2, .inl x :: st => if i < nL then some (lvs i false (vI x) lv, st) else none
  | .astore_n i, 1, .inr (.inl x) :: st => if i.val < nL then some (lvs i.val false (vR x) lv, st) else none
  | .astore i, 2, .inr (.inl x) :: st => if i < nL then some (lvs i false (vR x) lv, st) else none
  | .lstore i, 2, .inr (.inr (.inl x)) :: st => if i + 1 < nL then some (lvs i true (vL x) lv, st) else none
  | .iinc i d, 3, st => match lvg i lv with
    | some (.inl x) => if i < nL then some (lvs i false (vI (x + d)) lv, st) else none
    | _ => none
  | .iadd, 1, .inl y :: .inl x :: st => some (lv, vI (x + y) :: st)
  | .isub, 1, .inl y :: .inl x :: st => some (lv, vI (x - y) :: st)
  | .imul, 1, .inl y :: .inl x :: st => some (lv, vI (x * y) :: st)
  | .iand, 1, .inl y :: .inl x :: st => some (lv, vI (bAnd x y) :: st)
  | .ior, 1, .inl y :: .inl x :: st => some (lv, vI (bOr x y) :: st)
  | .ishl, 1, .inl y :: .inl x :: st => some (lv, vI (bShl x y) :: st)
  | .ishr, 1, .inl y :: .inl x :: st => some (lv, vI (bShr x y) :: st)
  | .iushr, 1, .inl y :: .inl x :: st => some (lv, vI (bUshr x y) :: st)
  | .ladd, 1, .inr (.inr (.inl y)) :: .inr (.inr (.inl x)) :: st => some (lv, vL (x + y) :: st)
  | .dup, 1, v :: st => if c2 v = false then some (lv, v :: v :: st) else none
  | .pop, 1, v :: st => if c2 v = false then some (lv, st) else none
  | .dup_x1, 1, v :: w :: st => if c2 v = false ∧ c2 w = false then some (lv, v :: w :: v :: st) else none
  | .dup2, 1, v :: w :: st => if c2 v = false ∧ c2 w = false then some (lv, v :: w :: v :: w :: st) else none
  | _, _, _ => none
section NH
variable {k : Kx} {own : String} {cc : ByteArray} {nL : Nat} {pc q tgt : Nat} {lv lv' : List (Nat × AV)} {st st' : List AV} {G G' : GH} {ct sl : Nat}
theorem ev_mk (hok : OKS G lv st → OKS G lv' st') (kk : EV k q lv' st' G ct sl)
    (row : ∀ (ad : Nat → Nat) (H : Heap) (locs : List Loc) (ls : Array Slot), lv_has ls (kc k).maxLocals (cvl ad lv) → (∀ ls', lv_has ls' (kc k).maxLocals (cvl ad lv') → WK k H locs ct sl q ls' (st'.map (cv ad))) → WK k H locs ct sl pc ls (st.map (cv ad))) : EV k pc lv st G ct sl :=
  fun hO ad H locs ls hM hl => row ad H locs ls hl fun ls' hl' => kk (hok hO) ad H locs ls' hM hl'
theorem oks_push {v : AV} (hv : okv G v) : OKS G lv st → OKS G lv (v :: st) := fun h => ⟨h.1, h.2.1, fun w hw => (List.mem_cons.mp hw).elim (fun e => e ▸ hv) (h.2.2 w)⟩
theorem okv_I (x : Int) : okv G (vI x) := fun n h => by cases h
theorem okv_L (x : Int) : okv G (vL x) := fun n h => by cases h
theorem okv_F (x : UInt32) : okv G (vF x) := fun n h => by cases h
theorem okv_D (x : UInt64) : okv G (vD x) := fun n h => by cases h
theorem okv_0 : okv G (vR none) := fun n h => by cases h
theorem oks_pop1 {v : AV} : OKS G lv (v :: st) → OKS G lv st := fun h => ⟨h.1, h.2.1, fun w hw => h.2.2 w (List.mem_cons_of_mem _ hw)⟩
theorem oks_load {i : Nat} {v : AV} (hg : lvg i lv = some v) (h : OKS G lv st) : OKS G lv (v :: st) := oks_push (h.2.1 _ (lvg_mem hg)) h
theorem oks_store {i : Nat} {w : Bool} {v : AV} (h : OKS G lv (v :: st)) : OKS G (lvs i w v lv) st :=
  ⟨h.1, fun a ha => (List.mem_cons.mp (lvs_mem ha)).elim (fun e => e ▸ h.2.2 v List.mem_cons_self) (fun ha => h.2.1 a (lvf_mem ha).1), (oks_pop1 h).2.2⟩
theorem oks_bin {v w r : AV} (hr : okv G r) (h : OKS G lv (v :: w :: st)) : OKS G lv (r :: st) := oks_push hr (oks_pop1 (oks_pop1 h))
theorem va_rf_some {ad : Nat → Nat} {r : Nat} : cv ad (vR (some r)) = .ref (ad r) := rfl
theorem va_rf_none {ad : Nat → Nat} : cv ad (vR none) = .null := rfl
theorem ev_s {ins : Instr} {n : Nat} (C : CX k own cc nL) (hd : decode cc pc = .ok (ins, n)) (hq : pc + n = q) (h : as1 nL ins n lv st = some (lv', st')) (kk : EV k q lv' st' G ct sl) : EV k pc lv st G ct sl := by
  subst hq
  obtain ⟨hx, hb, hml, -⟩ := C
  unfold as1 at h
  split at h
  · cases h
    exact ev_mk (oks_push (okv_I _)) kk fun ad H locs ls hl go => lv_iconst hx hb hd rfl (go ls hl)
  · split at h
    · rename_i hx0
      cases h
      exact ev_mk (oks_push (okv_I _)) kk fun ad H locs ls hl go => lv_bipush hx hb hd (iI_bi hx0) (go ls hl)
    · cases h
  · split at h
    · rename_i hx0
      cases h
      exact ev_mk (oks_push (okv_I _)) kk fun ad H locs ls hl go => lv_sipush hx hb hd (iI_si hx0) (go ls hl)
    · cases h
  · cases h
    exact ev_mk (oks_push (okv_L _)) kk fun ad H locs ls hl go => lv_lconst hx hb hd (v := iL _) (by first | rfl | simp [iL]) (go ls hl)
  · cases h
    exact ev_mk (oks_push okv_0) kk fun ad H locs ls hl go => lv_null hx hb hd (go ls hl)
  · split at h
    · rename_i i _ _ x hg
      cases h
      exact ev_mk (oks_load hg) kk fun ad H locs ls hl go => lv_iload_n hx hb hd rfl (cvl_at hl hg) (go ls hl)
    · cases h
  · split at h
    · rename_i i _ _ x hg
      cases h
      exact ev_mk (oks_load hg) kk fun ad H locs ls hl go => lv_iload hx hb hd (cvl_at hl hg) (go ls hl)
    · cases h
  · split at h
    · rename_i i _ _ x hg
      cases h
      refine ev_mk (oks_load hg) kk fun ad H locs ls hl go => ?_
      cases x with
      | none => exact lv_aload_nN hx hb hd rfl (cvl_at hl hg) (go ls hl)
      | some x => exact lv_aload_n hx hb hd rfl (cvl_at hl hg) (go ls hl)
    · cases h
  · split at h
    · rename_i i _ _ x hg
      cases h
      refine ev_mk (oks_load hg) kk fun ad H locs ls hl go => ?_
      cases x with
      | none => exact lv_aloadN hx hb hd (cvl_at hl hg) (go ls hl)
      | some x => exact lv_aload hx hb hd (cvl_at hl hg) (go ls hl)
    · cases h
  · split at h
    · rename_i i _ _ x hg
      cases h
      exact ev_mk (oks_load hg) kk fun ad H locs ls hl go => lv_lload hx hb hd (cvl_at hl hg) (go ls hl)
    · cases h
  · split at h
    · rename_i hi
      cases h
      exact ev_mk oks_store kk fun ad H locs ls hl go => lv_istore_n hx hb hd rfl hl (by rw [hml]; exact hi) rfl (fun ls' hl' => go ls' (lv_less hl' cvl_st1))
    · cases h
  · split at h
    · rename_i hi
      cases h
      exact ev_mk oks_store kk fun ad H locs ls hl go => lv_istore hx hb hd hl (by rw [hml]; exact hi) rfl (fun ls' hl' => go ls' (lv_less hl' cvl_st1))
    · cases h
  · split at h
    · rename_i i x _ hi
      cases h
      refine ev_mk oks_store kk fun ad H locs ls hl go => ?_
      cases x with
      | none => exact lv_astore_nN hx hb hd rfl hl (by rw [hml]; exact hi) rfl (fun ls' hl' => go ls' (lv_less hl' cvl_st1))
      | some x => exact lv_astore_n hx hb hd rfl hl (by rw [hml]; exact hi) rfl (fun ls' hl' => go ls' (lv_less hl' cvl_st1))
    · cases h
  · split at h
    · rename_i i x _ hi
      cases h
      refine ev_mk oks_store kk fun ad H locs ls hl go => ?_
      cases x with
      | none => exact lv_astoreN hx hb hd hl (by rw [hml]; exact hi) rfl (fun ls' hl' => go ls' (lv_less hl' cvl_st1))
      | some x => exact lv_astore hx hb hd hl (by rw [hml]; exact hi) rfl (fun ls' hl' => go ls' (lv_less hl' cvl_st1))
    · cases h
  · split at h
    · rename_i hi
      cases h
      exact ev_mk oks_store kk fun ad H locs ls hl go => lv_lstore hx hb hd hl (by rw [hml]; exact hi) rfl (fun ls' hl' => go ls' (lv_less hl' cvl_st2))
    · cases h
  · split at h
    · rename_i i d st0 x hg
      split at h
      · rename_i hi
        cases h
        refine ev_mk (fun hO => oks_store (oks_push (okv_I _) hO)) kk fun ad H locs ls hl go => ?_
        obtain ⟨j, hj⟩ := List.getElem?_of_mem (List.mem_map.mpr ⟨(i, vI x), lvg_mem hg, rfl⟩ : (i, cv ad (vI x)) ∈ cvl ad lv)
        exact lv_iinc hx hb hd hl hj (v := iI (x + d)) (iI_add x d) (by rw [hml]; exact hi) rfl (fun ls' hl' => go ls' (lv_less hl' cvl_st1))
      · cases h
    · cases h
  · cases h
    exact ev_mk (oks_bin (okv_I _)) kk fun ad H locs ls hl go => lv_iadd hx hb hd (by rw [iI_add]; exact go ls hl)
  · cases h
    exact ev_mk (oks_bin (okv_I _)) kk fun ad H locs ls hl go => lv_isub hx hb hd (by rw [iI_sub]; exact go ls hl)
  · cases h
    exact ev_mk (oks_bin (okv_I _)) kk fun ad H locs ls hl go => lv_imul hx hb hd (by rw [iI_mul]; exact go ls hl)
  · cases h
    exact ev_mk (oks_bin (okv_I _)) kk fun ad H locs ls hl go => lv_iand hx hb hd (by rw [← iI_of (iI _ &&& iI _)]; exact go ls hl)
  · cases h
    exact ev_mk (oks_bin (okv_I _)) kk fun ad H locs ls hl go => lv_ior hx hb hd (by rw [← iI_of (iI _ ||| iI _)]; exact go ls hl)
  · cases h
    exact ev_mk (oks_bin (okv_I _)) kk fun ad H locs ls hl go => lv_ishl hx hb hd (by rw [← iI_of (iI _ <<< _)]; exact go ls hl)
  · cases h
    exact ev_mk (oks_bin (okv_I _)) kk fun ad H locs ls hl go => lv_ishr hx hb hd (by rw [← iI_of (iI _ >>> _)]; exact go ls hl)
  · cases h
    exact ev_mk (oks_bin (okv_I _)) kk fun ad H locs ls hl go => lv_iushr hx hb hd rfl (by rw [← iI_of (UInt32.toInt32 _)]; exact go ls hl)
  · cases h
    exact ev_mk (oks_bin (okv_L _)) kk fun ad H locs ls hl go => lv_ladd hx hb hd (by rw [iL_add]; exact go ls hl)
  · split at h
    · rename_i hv
      cases h
      exact ev_mk (fun hO => oks_push (hO.2.2 _ List.mem_cons_self) hO) kk fun ad H locs ls hl go => lv_dup hx hb hd (cv_cat1 ad hv) (go ls hl)
    · cases h
  · split at h
    · rename_i hv
      cases h
      exact ev_mk oks_pop1 kk fun ad H locs ls hl go => lv_pop hx hb hd (cv_cat1 ad hv) (go ls hl)
    · cases h
  · split at h
    · rename_i hv
      cases h
      exact ev_mk (fun hO => ⟨hO.1, hO.2.1, fun u hu => by
        rcases List.mem_cons.mp hu with rfl | hu
        · exact hO.2.2 _ List.mem_cons_self
        · rcases List.mem_cons.mp hu with rfl | hu
          · exact hO.2.2 _ (List.mem_cons_of_mem _ List.mem_cons_self)
          · rcases List.mem_cons.mp hu with rfl | hu
            · exact hO.2.2 _ List.mem_cons_self
            · exact hO.2.2 _ (List.mem_cons_of_mem _ (List.mem_cons_of_mem _ hu))⟩) kk fun ad H locs ls hl go => lv_dup_x1 hx hb hd (cv_cat1 ad hv.1) (cv_cat1 ad hv.2) (go ls hl)
    · cases h
  · split at h
    · rename_i hv
      cases h
      exact ev_mk (fun hO => oks_push (hO.2.2 _ List.mem_cons_self) (oks_push (hO.2.2 _ (List.mem_cons_of_mem _ List.mem_cons_self)) hO)) kk fun ad H locs ls hl go => lv_dup2_11 hx hb hd (cv_cat1 ad hv.1) (cv_cat1 ad hv.2) (go ls hl)
    · cases h
  · cases h
end NH
