/-! BRANCHES, FIELDS, ARRAYS, MAKING, ENDS, CALLS -/
section BR
variable {k : Kx} {own : String} {cc : ByteArray} {nL : Nat} {pc q tgt : Nat} {lv lv' : List (Nat × AV)} {st st' : List AV} {G G' : GH} {ct sl : Nat}
theorem ev_if_eq {off : Int} {x : Int} (C : CX k own cc nL) (hd : decode cc pc = .ok (.ifCond .eq off, 3)) (ht : (pc : Int) + off = (tgt : Int)) (hq : pc + 3 = q) (hx : rg x) (kt : x = 0 → EV k tgt lv st G ct sl) (kf : ¬ x = 0 → EV k q lv st G ct sl) : EV k pc lv (vI x :: st) G ct sl := by
  subst hq
  obtain ⟨h1, h2, -⟩ := C
  intro hO ad H locs ls hM hl
  have hO' : OKS G lv st := (oks_pop1) hO
  exact lv_if_eq h1 h2 hd ht (fun h => kt ((iI_eq0 hx).mp h) hO' ad H locs ls hM hl) (fun h => kf (fun z => h ((iI_eq0 hx).mpr z)) hO' ad H locs ls hM hl)
theorem ev_icmp_eq {off : Int} {x y : Int} (C : CX k own cc nL) (hd : decode cc pc = .ok (.if_icmp .eq off, 3)) (ht : (pc : Int) + off = (tgt : Int)) (hq : pc + 3 = q) (hx : rg x) (hy : rg y) (kt : x = y → EV k tgt lv st G ct sl) (kf : ¬ x = y → EV k q lv st G ct sl) : EV k pc lv (vI y :: vI x :: st) G ct sl := by
  subst hq
  obtain ⟨h1, h2, -⟩ := C
  intro hO ad H locs ls hM hl
  have hO' : OKS G lv st := (fun h => oks_pop1 (oks_pop1 h)) hO
  exact lv_icmp_eq h1 h2 hd ht (fun h => kt ((iI_eq hx hy).mp h) hO' ad H locs ls hM hl) (fun h => kf (fun z => h ((iI_eq hx hy).mpr z)) hO' ad H locs ls hM hl)
theorem ev_if_ne {off : Int} {x : Int} (C : CX k own cc nL) (hd : decode cc pc = .ok (.ifCond .ne off, 3)) (ht : (pc : Int) + off = (tgt : Int)) (hq : pc + 3 = q) (hx : rg x) (kt : ¬ x = 0 → EV k tgt lv st G ct sl) (kf : x = 0 → EV k q lv st G ct sl) : EV k pc lv (vI x :: st) G ct sl := by
  subst hq
  obtain ⟨h1, h2, -⟩ := C
  intro hO ad H locs ls hM hl
  have hO' : OKS G lv st := (oks_pop1) hO
  exact lv_if_ne h1 h2 hd ht (fun h => kt (fun z => h ((iI_eq0 hx).mpr z)) hO' ad H locs ls hM hl) (fun h => kf ((iI_eq0 hx).mp h) hO' ad H locs ls hM hl)
theorem ev_icmp_ne {off : Int} {x y : Int} (C : CX k own cc nL) (hd : decode cc pc = .ok (.if_icmp .ne off, 3)) (ht : (pc : Int) + off = (tgt : Int)) (hq : pc + 3 = q) (hx : rg x) (hy : rg y) (kt : ¬ x = y → EV k tgt lv st G ct sl) (kf : x = y → EV k q lv st G ct sl) : EV k pc lv (vI y :: vI x :: st) G ct sl := by
  subst hq
  obtain ⟨h1, h2, -⟩ := C
  intro hO ad H locs ls hM hl
  have hO' : OKS G lv st := (fun h => oks_pop1 (oks_pop1 h)) hO
  exact lv_icmp_ne h1 h2 hd ht (fun h => kt (fun z => h ((iI_eq hx hy).mpr z)) hO' ad H locs ls hM hl) (fun h => kf ((iI_eq hx hy).mp h) hO' ad H locs ls hM hl)
theorem ev_if_lt {off : Int} {x : Int} (C : CX k own cc nL) (hd : decode cc pc = .ok (.ifCond .lt off, 3)) (ht : (pc : Int) + off = (tgt : Int)) (hq : pc + 3 = q) (hx : rg x) (kt : x < 0 → EV k tgt lv st G ct sl) (kf : ¬ x < 0 → EV k q lv st G ct sl) : EV k pc lv (vI x :: st) G ct sl := by
  subst hq
  obtain ⟨h1, h2, -⟩ := C
  intro hO ad H locs ls hM hl
  have hO' : OKS G lv st := (oks_pop1) hO
  exact lv_if_lt h1 h2 hd ht (fun h => kt ((iI_lt0 hx).mp h) hO' ad H locs ls hM hl) (fun h => kf (fun z => h ((iI_lt0 hx).mpr z)) hO' ad H locs ls hM hl)
theorem ev_icmp_lt {off : Int} {x y : Int} (C : CX k own cc nL) (hd : decode cc pc = .ok (.if_icmp .lt off, 3)) (ht : (pc : Int) + off = (tgt : Int)) (hq : pc + 3 = q) (hx : rg x) (hy : rg y) (kt : x < y → EV k tgt lv st G ct sl) (kf : ¬ x < y → EV k q lv st G ct sl) : EV k pc lv (vI y :: vI x :: st) G ct sl := by
  subst hq
  obtain ⟨h1, h2, -⟩ := C
  intro hO ad H locs ls hM hl
  have hO' : OKS G lv st := (fun h => oks_pop1 (oks_pop1 h)) hO
  exact lv_icmp_lt h1 h2 hd ht (fun h => kt ((iI_lt hx hy).mp h) hO' ad H locs ls hM hl) (fun h => kf (fun z => h ((iI_lt hx hy).mpr z)) hO' ad H locs ls hM hl)
theorem ev_if_ge {off : Int} {x : Int} (C : CX k own cc nL) (hd : decode cc pc = .ok (.ifCond .ge off, 3)) (ht : (pc : Int) + off = (tgt : Int)) (hq : pc + 3 = q) (hx : rg x) (kt : 0 ≤ x → EV k tgt lv st G ct sl) (kf : ¬ 0 ≤ x → EV k q lv st G ct sl) : EV k pc lv (vI x :: st) G ct sl := by
  subst hq
  obtain ⟨h1, h2, -⟩ := C
  intro hO ad H locs ls hM hl
  have hO' : OKS G lv st := (oks_pop1) hO
  exact lv_if_ge h1 h2 hd ht (fun h => kt ((iI_0le hx).mp h) hO' ad H locs ls hM hl) (fun h => kf (fun z => h ((iI_0le hx).mpr z)) hO' ad H locs ls hM hl)
theorem ev_icmp_ge {off : Int} {x y : Int} (C : CX k own cc nL) (hd : decode cc pc = .ok (.if_icmp .ge off, 3)) (ht : (pc : Int) + off = (tgt : Int)) (hq : pc + 3 = q) (hx : rg x) (hy : rg y) (kt : y ≤ x → EV k tgt lv st G ct sl) (kf : ¬ y ≤ x → EV k q lv st G ct sl) : EV k pc lv (vI y :: vI x :: st) G ct sl := by
  subst hq
  obtain ⟨h1, h2, -⟩ := C
  intro hO ad H locs ls hM hl
  have hO' : OKS G lv st := (fun h => oks_pop1 (oks_pop1 h)) hO
  exact lv_icmp_ge h1 h2 hd ht (fun h => kt ((iI_le hy hx).mp h) hO' ad H locs ls hM hl) (fun h => kf (fun z => h ((iI_le hy hx).mpr z)) hO' ad H locs ls hM hl)
theorem ev_if_gt {off : Int} {x : Int} (C : CX k own cc nL) (hd : decode cc pc = .ok (.ifCond .gt off, 3)) (ht : (pc : Int) + off = (tgt : Int)) (hq : pc + 3 = q) (hx : rg x) (kt : 0 < x → EV k tgt lv st G ct sl) (kf : ¬ 0 < x → EV k q lv st G ct sl) : EV k pc lv (vI x :: st) G ct sl := by
  subst hq
  obtain ⟨h1, h2, -⟩ := C
  intro hO ad H locs ls hM hl
  have hO' : OKS G lv st := (oks_pop1) hO
  exact lv_if_gt h1 h2 hd ht (fun h => kt ((iI_0lt hx).mp h) hO' ad H locs ls hM hl) (fun h => kf (fun z => h ((iI_0lt hx).mpr z)) hO' ad H locs ls hM hl)
theorem ev_icmp_gt {off : Int} {x y : Int} (C : CX k own cc nL) (hd : decode cc pc = .ok (.if_icmp .gt off, 3)) (ht : (pc : Int) + off = (tgt : Int)) (hq : pc + 3 = q) (hx : rg x) (hy : rg y) (kt : y < x → EV k tgt lv st G ct sl) (kf : ¬ y < x → EV k q lv st G ct sl) : EV k pc lv (vI y :: vI x :: st) G ct sl := by
  subst hq
  obtain ⟨h1, h2, -⟩ := C
  intro hO ad H locs ls hM hl
  have hO' : OKS G lv st := (fun h => oks_pop1 (oks_pop1 h)) hO
  exact lv_icmp_gt h1 h2 hd ht (fun h => kt ((iI_lt hy hx).mp h) hO' ad H locs ls hM hl) (fun h => kf (fun z => h ((iI_lt hy hx).mpr z)) hO' ad H locs ls hM hl)
theorem ev_if_le {off : Int} {x : Int} (C : CX k own cc nL) (hd : decode cc pc = .ok (.ifCond .le off, 3)) (ht : (pc : Int) + off = (tgt : Int)) (hq : pc + 3 = q) (hx : rg x) (kt : x ≤ 0 → EV k tgt lv st G ct sl) (kf : ¬ x ≤ 0 → EV k q lv st G ct sl) : EV k pc lv (vI x :: st) G ct sl := by
  subst hq
  obtain ⟨h1, h2, -⟩ := C
  intro hO ad H locs ls hM hl
  have hO' : OKS G lv st := (oks_pop1) hO
  exact lv_if_le h1 h2 hd ht (fun h => kt ((iI_le0 hx).mp h) hO' ad H locs ls hM hl) (fun h => kf (fun z => h ((iI_le0 hx).mpr z)) hO' ad H locs ls hM hl)
theorem ev_icmp_le {off : Int} {x y : Int} (C : CX k own cc nL) (hd : decode cc pc = .ok (.if_icmp .le off, 3)) (ht : (pc : Int) + off = (tgt : Int)) (hq : pc + 3 = q) (hx : rg x) (hy : rg y) (kt : x ≤ y → EV k tgt lv st G ct sl) (kf : ¬ x ≤ y → EV k q lv st G ct sl) : EV k pc lv (vI y :: vI x :: st) G ct sl := by
  subst hq
  obtain ⟨h1, h2, -⟩ := C
  intro hO ad H locs ls hM hl
  have hO' : OKS G lv st := (fun h => oks_pop1 (oks_pop1 h)) hO
  exact lv_icmp_le h1 h2 hd ht (fun h => kt ((iI_le hx hy).mp h) hO' ad H locs ls hM hl) (fun h => kf (fun z => h ((iI_le hx hy).mpr z)) hO' ad H locs ls hM hl)
end BR
section HP
variable {k : Kx} {own : String} {cc : ByteArray} {nL : Nat} {pc q tgt : Nat} {lv lv' : List (Nat × AV)} {st st' : List AV} {G G' : GH} {ct sl : Nat}
theorem ev_eq (h : G' = G) (kk : EV k pc lv st G ct sl) : EV k pc lv st G' ct sl := h ▸ kk
theorem ev_eqS (h : st' = st) (kk : EV k pc lv st G ct sl) : EV k pc lv st' G ct sl := h ▸ kk
theorem ev_eqL (h : lv' = lv) (kk : EV k pc lv st G ct sl) : EV k pc lv' st G ct sl := h ▸ kk
theorem ev_wide {ct' sl' : Nat} (h1 : ct ≤ ct') (h2 : sl ≤ sl') (kk : EV k pc lv st G ct' sl') : EV k pc lv st G ct sl :=
  fun hO ad H locs ls hM hl => W.widen h1 h2 (kk hO ad H locs ls hM hl)
theorem ev_less (hs : ∀ a ∈ lv', a ∈ lv) (kk : EV k pc lv' st G ct sl) : EV k pc lv st G ct sl :=
  fun hO ad H locs ls hM hl => kk ⟨hO.1, fun a ha => hO.2.1 a (hs a ha), hO.2.2⟩ ad H locs ls hM (lv_less hl (fun a ha => by
    obtain ⟨b, hb, rfl⟩ := List.mem_map.mp ha
    exact List.mem_map.mpr ⟨b, hs b hb, rfl⟩))
theorem ev_goto {off : Int} (C : CX k own cc nL) (hd : decode cc pc = .ok (.goto off, 3)) (ht : (pc : Int) + off = (tgt : Int)) (kk : EV k tgt lv st G ct sl) : EV k pc lv st G ct sl :=
  ev_mk (fun h => h) kk fun ad H locs ls hl go => lv_goto C.1 C.2.1 hd ht (go ls hl)
theorem ev_ifnonnull {off : Int} {r : Option Nat} (C : CX k own cc nL) (hd : decode cc pc = .ok (.ifnonnull off, 3)) (ht : (pc : Int) + off = (tgt : Int)) (hq : pc + 3 = q) (kt : (∃ n, r = some n) → EV k tgt lv st G ct sl) (kf : r = none → EV k q lv st G ct sl) : EV k pc lv (vR r :: st) G ct sl := by
  subst hq
  intro hO ad H locs ls hM hl
  cases r with
  | none => exact lv_ifnonnullN C.1 C.2.1 hd (kf rfl (oks_pop1 hO) ad H locs ls hM hl)
  | some n => exact lv_ifnonnull C.1 C.2.1 hd ht (kt ⟨n, rfl⟩ (oks_pop1 hO) ad H locs ls hM hl)
theorem ev_ifnull {off : Int} {r : Option Nat} (C : CX k own cc nL) (hd : decode cc pc = .ok (.ifnull off, 3)) (ht : (pc : Int) + off = (tgt : Int)) (hq : pc + 3 = q) (kt : r = none → EV k tgt lv st G ct sl) (kf : (∃ n, r = some n) → EV k q lv st G ct sl) : EV k pc lv (vR r :: st) G ct sl := by
  subst hq
  intro hO ad H locs ls hM hl
  cases r with
  | none => exact lv_ifnullN C.1 C.2.1 hd ht (kt rfl (oks_pop1 hO) ad H locs ls hM hl)
  | some n => exact lv_ifnull C.1 C.2.1 hd (kf ⟨n, rfl⟩ (oks_pop1 hO) ad H locs ls hM hl)
theorem ms_ad {ad : Nat → Nat} {H : Heap} {locs : List Loc} (C : CX k own cc nL) (hM : MS k ad G H locs) {a b : Nat} (ha : okv G (vR (some a))) (hb : okv G (vR (some b))) (ha5 : a ≠ 500 ∧ a ≠ 1014) (hb5 : b ≠ 500 ∧ b ≠ 1014) (h : ad a = ad b) : a = b := by
  obtain ⟨-, -, -, -, -, -, -, -, hH, -, -, hn, -⟩ := C
  have h13 : ad 1013 = kad k 1013 := hM.2.2.2.1 1013 hn
  have hout : ¬ kA k (ad 1013) := by rw [h13]; exact hH.2.2.2.1.out
  have ca : G a ≠ none ∨ a = 1013 := (ha a rfl).elim Or.inl (fun z => z.elim (fun z => absurd z ha5.1) (fun z => z.elim Or.inr (fun z => absurd z ha5.2)))
  have cb : G b ≠ none ∨ b = 1013 := (hb b rfl).elim Or.inl (fun z => z.elim (fun z => absurd z hb5.1) (fun z => z.elim Or.inr (fun z => absurd z hb5.2)))
  rcases ca with ca | rfl <;> rcases cb with cb | rfl
  · exact hM.2.1 a b ca cb h
  · exact absurd (h ▸ hM.2.2.1 a ca) hout
  · exact absurd (h ▸ hM.2.2.1 b cb) hout
  · rfl
theorem ev_acmp_eq {off : Int} {rx ry : Option Nat} (C : CX k own cc nL) (hd : decode cc pc = .ok (.if_acmp .eq off, 3)) (ht : (pc : Int) + off = (tgt : Int)) (hq : pc + 3 = q) (hx5 : ∀ n, rx = some n → n ≠ 500 ∧ n ≠ 1014) (hy5 : ∀ n, ry = some n → n ≠ 500 ∧ n ≠ 1014) (kt : rx = ry → EV k tgt lv st G ct sl) (kf : ¬ rx = ry → EV k q lv st G ct sl) : EV k pc lv (vR ry :: vR rx :: st) G ct sl := by
  subst hq
  intro hO ad H locs ls hM hl
  have hO' : OKS G lv st := oks_pop1 (oks_pop1 hO)
  have hi : rx.map ad = ry.map ad → rx = ry := by
    intro h
    cases rx with
    | none => cases ry with
      | none => rfl
      | some b => cases h
    | some a => cases ry with
      | none => cases h
      | some b => rw [ms_ad C hM (hO.2.2 _ (List.mem_cons_of_mem _ List.mem_cons_self)) (hO.2.2 _ List.mem_cons_self) (hx5 a rfl) (hy5 b rfl) (Option.some.inj h)]
  exact lv_acmp_eq C.1 C.2.1 hd ht (fun h => kt (hi h) hO' ad H locs ls hM hl) (fun h => kf (fun z => h (by rw [z])) hO' ad H locs ls hM hl)
theorem ev_acmp_ne {off : Int} {rx ry : Option Nat} (C : CX k own cc nL) (hd : decode cc pc = .ok (.if_acmp .ne off, 3)) (ht : (pc : Int) + off = (tgt : Int)) (hq : pc + 3 = q) (hx5 : ∀ n, rx = some n → n ≠ 500 ∧ n ≠ 1014) (hy5 : ∀ n, ry = some n → n ≠ 500 ∧ n ≠ 1014) (kt : ¬ rx = ry → EV k tgt lv st G ct sl) (kf : rx = ry → EV k q lv st G ct sl) : EV k pc lv (vR ry :: vR rx :: st) G ct sl := by
  subst hq
  intro hO ad H locs ls hM hl
  have hO' : OKS G lv st := oks_pop1 (oks_pop1 hO)
  have hi : rx.map ad = ry.map ad → rx = ry := by
    intro h
    cases rx with
    | none => cases ry with
      | none => rfl
      | some b => cases h
    | some a => cases ry with
      | none => cases h
      | some b => rw [ms_ad C hM (hO.2.2 _ (List.mem_cons_of_mem _ List.mem_cons_self)) (hO.2.2 _ List.mem_cons_self) (hx5 a rfl) (hy5 b rfl) (Option.some.inj h)]
  exact lv_acmp_ne C.1 C.2.1 hd ht (fun h => kt (fun z => h (by rw [z])) hO' ad H locs ls hM hl) (fun h => kf (hi h) hO' ad H locs ls hM hl)
-- fields
theorem ev_get {index ci j n fin : Nat} {ty : FieldType} {fs : List AV} {v : AV} (C : CX k own cc nL) (hd : decode cc pc = .ok (.getfield index, 3)) (F : FLk own index ci j fin ty) (hq : pc + 3 = q) (hG : G n = some (.inl (ci, fs))) (hv : fs[j]? = some v) (kk : EV k q lv (v :: st) G ct sl) : EV k pc lv (vR (some n) :: st) G ct sl := by
  subst hq
  obtain ⟨Cn, T, N, tyf, ref, f1, f2, f3, f4, f5, f6, f7, f8, f9, f10⟩ := F
  obtain ⟨hx, hb, hml, hown, hts, hlk, htr, hK, hH, hV, hA, hn1, hn2⟩ := id C
  intro hO ad H locs ls hM hl
  have hP : va_P (kD k) vwCl [(ad n, .inr (ci, fs.map (cv ad)))] H := by
    intro i a hi
    cases i with
    | zero => cases hi; exact hM.1 n _ hG
    | succ i => cases hi
  have hov : okv G v := hO.1.1 n _ hG v (List.mem_of_getElem? hv)
  refine va_get (D := kD k) (ci := ci) (v := cv ad v) (C := Cn) (T := T) (N := N) hx hb hts f2 hown hK hP 0 rfl f1 j f3 (hts _ f6) (fun x h => ?_) (by rw [List.getElem?_map, hv]; rfl) hd (kk (oks_push hov (oks_pop1 hO)) ad H locs ls hM hl)
  rcases f7 with e | f7
  · rw [e]; exact h
  · exact u_same (hts _ f7) x h
def fitA (ty : FieldType) (v : AV) : Prop := ∀ ad, narrow ty (cv ad v) = cv ad v ∧ fits ty (cv ad v) = true
theorem fit_I (x : Int) : fitA .int (vI x) := fun ad => ⟨rfl, rfl⟩
theorem fit_L (x : Int) : fitA .long (vL x) := fun ad => ⟨rfl, rfl⟩
theorem fit_O (C : String) (r : Option Nat) : fitA (.object C) (vR r) := fun ad => by cases r <;> exact ⟨rfl, rfl⟩
theorem fit_A (t : FieldType) (r : Option Nat) : fitA (.array t) (vR r) := fun ad => by cases r <;> exact ⟨rfl, rfl⟩
theorem fit_Z {x : Int} (h : x = 0 ∨ x = 1) : fitA .boolean (vI x) := fun ad => by
  rcases h with rfl | rfl
  · exact ⟨(show narrow .boolean (.int (iI 0)) = .int (iI 0) by decide), (show fits .boolean (.int (iI 0)) = true by decide)⟩
  · exact ⟨(show narrow .boolean (.int (iI 1)) = .int (iI 1) by decide), (show fits .boolean (.int (iI 1)) = true by decide)⟩
theorem nar_C {x : Int} (h : 0 ≤ x ∧ x < 65536) : narrow .char (.int (iI x)) = .int (iI x) := by
  have h1 : ((iI x).toUInt32 % 65536).toInt32 = iI x := by
    apply Int32.toInt_inj.mp
    rw [iI_toInt (by unfold rg; omega)]
    have h2 : iI x = Int32.ofNat x.toNat := by
      have : x = (x.toNat : Int) := by omega
      unfold iI
      rw [this]
      rfl
    have h3 : (iI x).toUInt32 = UInt32.ofNat x.toNat := by rw [h2]; rfl
    rw [h3]
    have h4 : UInt32.ofNat x.toNat % 65536 = UInt32.ofNat x.toNat := by
      apply UInt32.toNat_inj.mp
      simp
      omega
    rw [h4]
    have h5 : (UInt32.ofNat x.toNat).toInt32 = iI x := by rw [h2]; rfl
    rw [h5, iI_toInt (by unfold rg; omega)]
  show Value.int _ = _
  first
    | exact congrArg Value.int h1
    | (have h6 : (iI x).toUInt32.toUInt16.toUInt32.toInt32 = iI x := by
         rw [← h1]; apply Int32.toInt_inj.mp; simp
       exact congrArg Value.int h6)
theorem fit_C {x : Int} (h : 0 ≤ x ∧ x < 65536) : fitA .char (vI x) := fun ad => ⟨nar_C h, by
  have := nar_C h
  have hr : rg x := by unfold rg; omega
  have h1 : 0 ≤ iI x := (iI_0le hr).mpr h.1
  have h2 : iI x ≤ 65535 := (iI_le (y := 65535) hr (by unfold rg; omega)).mpr (by omega)
  simp [fits, cv, this, h1, h2]⟩
theorem gup_self {n : Nat} {c : AC} : gup G n c n = some c := by simp [gup]
theorem gup_ne {n m : Nat} {c : AC} (h : m ≠ n) : gup G n c m = G m := by simp [gup, h]
theorem gup_dom {n m : Nat} {c : AC} (h : G m ≠ none) : gup G n c m ≠ none := by
  by_cases e : m = n
  · rw [e, gup_self]; exact fun z => nomatch z
  · rw [gup_ne e]; exact h
theorem okv_gup {n : Nat} {c : AC} {v : AV} (h : okv G v) : okv (gup G n c) v := fun m hm => (h m hm).imp gup_dom id
theorem okc_gup {n : Nat} {c d : AC} (h : okc G d) : okc (gup G n c) d := by
  cases d with
  | inl o => exact fun v hv => okv_gup (h v hv)
  | inr a => exact fun j hj => okv_gup (h j hj)
theorem okG_gup {n : Nat} {c : AC} (h : okG G) (hn : ¬ fgn n) (hc : okc G c) : okG (gup G n c) := by
  refine ⟨fun m d hm => ?_, fun m hm => ?_⟩
  · by_cases e : m = n
    · rw [e, gup_self] at hm
      cases hm
      exact okc_gup hc
    · rw [gup_ne e] at hm
      exact okc_gup (h.1 m d hm)
  · rw [gup_ne (fun e => hn (by rw [← e]; exact hm))]
    exact h.2 m hm
theorem oks_gup {n : Nat} {c : AC} (h : OKS G lv st) (hn : ¬ fgn n) (hc : okc G c) : OKS (gup G n c) lv st := ⟨okG_gup h.1 hn hc, fun a ha => okv_gup (h.2.1 a ha), fun v hv => okv_gup (h.2.2 v hv)⟩
theorem nrp1_kept {D : va_G} {dT : Nat → ClassId} {ad : Nat → Nat} {n : Nat} {c : AC} {H H1 : Heap} (h : nrp1 D dT ad n c H) (hq : H1[ad n]? = H[ad n]?) : nrp1 D dT ad n c H1 := by
  cases c with
  | inl o =>
    obtain ⟨r, h1, h2⟩ := h
    exact ⟨r, h1, h2.kept hq⟩
  | inr a => exact ⟨h.1, hq.trans h.2⟩
theorem ms_put {ad : Nat → Nat} {H H1 : Heap} {locs : List Loc} {n s0 : Nat} {c0 c : AC} (hM : MS k ad G H locs) (hG : G n = some c0) (hc : nrp1 (kD k) (kdT k) ad n c H1) (z : H1.size = H.size) (oq : ∀ a, a ≠ ad n → H1[a]? = H[a]?) : MS k ad (gup G n c) H1 (locs ++ [⟨ad n, s0⟩]) := by
  obtain ⟨h1, h2, h3, h4, h5, h6⟩ := hM
  have hdom : ∀ m, gup G n c m ≠ none → G m ≠ none := fun m hm => by
    by_cases e : m = n
    · rw [e, hG]; exact fun z => nomatch z
    · rwa [gup_ne e] at hm
  have hGn : G n ≠ none := by rw [hG]; exact fun z => nomatch z
  refine ⟨fun m d hm => ?_, fun a b ha hb => h2 a b (hdom a ha) (hdom b hb), fun m hm => h3 m (hdom m hm), h4, fun m hm => gup_dom (h5 m hm), h6.put z oq (h3 n hGn)⟩
  by_cases e : m = n
  · subst e
    rw [gup_self] at hm
    cases hm
    exact hc
  · rw [gup_ne e] at hm
    exact nrp1_kept (h1 m d hm) (oq _ (fun z => e (h2 m n (by rw [hm]; exact fun z => nomatch z) hGn z)))
theorem ev_put {index ci j n : Nat} {ty : FieldType} {fs : List AV} {v : AV} (C : CX k own cc nL) (hd : decode cc pc = .ok (.putfield index, 3)) (F : FLk own index ci j 0 ty) (hq : pc + 3 = q) (hf : fitA ty v) (hG : G n = some (.inl (ci, fs))) (hj : j < fs.length) (hG' : gup G n (.inl (ci, fs.set j v)) = G') (kk : EV k q lv st G' ct sl) : EV k pc lv (v :: vR (some n) :: st) G ct sl := by
  subst hq
  subst hG'
  obtain ⟨Cn, T, N, tyf, ref, f1, f2, f3, f4, f5, f6, f7, f8, f9, f10⟩ := F
  obtain ⟨hx, hb, hml, hown, hts, hlk, htr, hK, hH, hV, hA, hn1, hn2⟩ := id C
  intro hO ad H locs ls hM hl
  have hnf : ¬ fgn n := fun z => by have := hO.1.2 n z; rw [hG] at this; cases this
  have hokc : okc G (.inl (ci, fs.set j v)) := fun w hw => by
    rcases List.mem_or_eq_of_mem_set hw with hw | rfl
    · exact hO.1.1 n _ hG w hw
    · exact hO.2.2 _ List.mem_cons_self
  have hsame : ∀ x, (ks k).fieldFound? (T j).1 (T j).2.1 (T j).2.2.1 = some x → (ks k).fieldFound? ref (T j).2.1 (T j).2.2.1 = some x := fun x h => by
    rcases f7 with e | f7
    · rw [e]; exact h
    · exact u_same (hts _ f7) x h
  have hap := va_apart (own := own) hts f2 tyf f4 f5 hK f1
  obtain ⟨r, e1, cell, q1, q2, q3, q4⟩ := hM.1 n _ hG
  have hr : r = (Cn, T, N) := Option.some.inj (e1.symm.trans f1)
  subst hr
  obtain ⟨hS, hfc, kC, hkC, hkind⟩ := hK.1 ci _ f1
  obtain ⟨cf, kf, fi, f, hi, hsl⟩ := hS j f3
  have hlay := hts _ (f2 _ (u_in_lay f3))
  unfold u_lay at hlay
  rw [if_neg (by rw [f8]; decide)] at hlay
  have hst := (u_facts hfc hkC (u_lays hts f2 f3) hi).1
  have h6 := u_store hfc hkC hkind hlay hi f10 (hf ad).1 (hf ad).2
  refine W.putK hx hb (f := f) ⟨hown, hts _ f6, ⟨_, _, _, hsame _ hi⟩, hst⟩ (v := cv ad v) (by rw [q2]; exact h6) q1 q3 (by rw [hsl]; exact k2_hasslot (q4 j f3)) rfl rfl hd fun H' e1 e2 e3 => ?_
  rw [hsl] at e1 ⊢
  refine kk (oks_gup (oks_pop1 (oks_pop1 hO)) hnf hokc) ad H' _ ls (ms_put hM hG ⟨_, f1, ?_⟩ e2 e3) hl
  refine t_OB.to (V := updV (vp_V (fs.map (cv ad))) j (cv ad v)) ⟨_, e1, q2, q3, t_set q4 hap f3 (cv ad v)⟩ (fun i _ => ?_)
  rw [vp_updV_set (by rw [List.length_map]; exact hj), List.map_set]
theorem ev_putF {index ci j n : Nat} {ty : FieldType} {fs : List AV} {v : AV} (C : CX k own cc nL) (hin : (kmeth k).name = "<init>") (hd : decode cc pc = .ok (.putfield index, 3)) (F : FLk own index ci j 1 ty) (hq : pc + 3 = q) (hf : fitA ty v) (hG : G n = some (.inl (ci, fs))) (hj : j < fs.length) (hG' : gup G n (.inl (ci, fs.set j v)) = G') (kk : EV k q lv st G' ct sl) : EV k pc lv (v :: vR (some n) :: st) G ct sl := by
  subst hq
  subst hG'
  obtain ⟨Cn, T, N, tyf, ref, f1, f2, f3, f4, f5, f6, f7, f8, f9, f10⟩ := F
  obtain ⟨hx, hb, hml, hown, hts, hlk, htr, hK, hH, hV, hA, hn1, hn2⟩ := id C
  intro hO ad H locs ls hM hl
  have hnf : ¬ fgn n := fun z => by have := hO.1.2 n z; rw [hG] at this; cases this
  have hokc : okc G (.inl (ci, fs.set j v)) := fun w hw => by
    rcases List.mem_or_eq_of_mem_set hw with hw | rfl
    · exact hO.1.1 n _ hG w hw
    · exact hO.2.2 _ List.mem_cons_self
  have hsame : ∀ x, (ks k).fieldFound? (T j).1 (T j).2.1 (T j).2.2.1 = some x → (ks k).fieldFound? ref (T j).2.1 (T j).2.2.1 = some x := fun x h => by
    rcases f7 with e | f7
    · rw [e]; exact h
    · exact u_same (hts _ f7) x h
  have hap := va_apart (own := own) hts f2 tyf f4 f5 hK f1
  obtain ⟨r, e1, cell, q1, q2, q3, q4⟩ := hM.1 n _ hG
  have hr : r = (Cn, T, N) := Option.some.inj (e1.symm.trans f1)
  subst hr
  obtain ⟨hS, hfc, kC, hkC, hkind⟩ := hK.1 ci _ f1
  obtain ⟨cf, kf, fi, f, hi, hsl⟩ := hS j f3
  have hlay := hts _ (f2 _ (u_in_lay f3))
  unfold u_lay at hlay
  rw [if_pos (by rw [f8]; decide)] at hlay
  have hst := (u_facts hfc hkC (u_lays hts f2 f3) hi).1
  have hcf : (km k).cls = cf := by
    obtain ⟨_, _, c', _, _, _, -, -, hf', -, -, -, hown2, -⟩ := Cond.laysFinal_spec hlay
    have e1 : c' = cf := by have := hi.symm.trans hf'; simp at this; exact this.1.symm
    rw [f9 rfl] at hown2
    rw [← e1]; exact Option.some.inj (hown.symm.trans hown2)
  have h6 := u_fits hfc hkC hkind (Or.inr hlay) hi f10 (hf ad).1 (hf ad).2
  refine W.putFinK hx hb hown (hts _ f6) (hsame _ hi) hst hcf hin (v := cv ad v) (by rw [q2]; exact h6) q1 q3 (by rw [hsl]; exact k2_hasslot (q4 j f3)) rfl rfl hd fun H' e1 e2 e3 => ?_
  rw [hsl] at e1 ⊢
  refine kk (oks_gup (oks_pop1 (oks_pop1 hO)) hnf hokc) ad H' _ ls (ms_put hM hG ⟨_, f1, ?_⟩ e2 e3) hl
  refine t_OB.to (V := updV (vp_V (fs.map (cv ad))) j (cv ad v)) ⟨_, e1, q2, q3, t_set q4 hap f3 (cv ad v)⟩ (fun i _ => ?_)
  rw [vp_updV_set (by rw [List.length_map]; exact hj), List.map_set]
end HP
