/-! CONVERSIONS, MAKING, ENDS, CALLS, THROWS, HANDLERS -/
section MK
variable {k : Kx} {own : String} {cc : ByteArray} {nL : Nat} {pc q tgt : Nat} {lv lv' : List (Nat × AV)} {st st' : List AV} {G G' : GH} {ct sl : Nat}
theorem i2l_iI {x : Int} (hx : rg x) : (iI x).toInt64 = iL x := by
  apply Int64.toInt_inj.mp
  have h1 := hx.1
  have h2 := hx.2
  rw [Int32.toInt_toInt64, iI_toInt hx, iL_toInt (by unfold rgL; omega)]
theorem ev_i2l {x : Int} (C : CX k own cc nL) (hd : decode cc pc = .ok (.i2l, 1)) (hq : pc + 1 = q) (hx : rg x) (kk : EV k q lv (vL x :: st) G ct sl) : EV k pc lv (vI x :: st) G ct sl := by
  subst hq
  exact ev_mk (fun hO => oks_push (okv_L _) (oks_pop1 hO)) kk fun ad H locs ls hl go => lv_i2l C.1 C.2.1 hd (i2l_iI hx) (go ls hl)
theorem i2c_iI (x : Int) : ((iI x).toUInt32 % 65536).toInt32 = iI (x % 65536) := by
  apply Int32.toInt_inj.mp
  have h0 : 0 ≤ x % 65536 := Int.emod_nonneg _ (by decide)
  have h1 : x % 65536 < 65536 := Int.emod_lt_of_pos _ (by decide)
  rw [iI_toInt (x := x % 65536) (by unfold rg; omega)]
  have h2 : ((iI x).toUInt32 % 65536).toNat = ((iI x).toUInt32.toNat % 65536) := by rw [UInt32.toNat_mod]; rfl
  have h3 : ((iI x).toUInt32.toNat : Int) = x % 4294967296 := by
    show (((iI x).toBitVec).toNat : Int) = _
    unfold iI
    rw [Int32.toBitVec_ofInt, BitVec.toNat_ofInt]
    omega
  have h4 : (((iI x).toUInt32 % 65536).toNat : Int) = x % 65536 := by
    rw [h2]
    omega
  have h5 : ((iI x).toUInt32 % 65536).toInt32.toInt = (((iI x).toUInt32 % 65536).toNat : Int) := by
    show (((iI x).toUInt32 % 65536).toBitVec).toInt = _
    rw [BitVec.toInt_eq_toNat_of_lt]
    · rfl
    · show 2 * ((iI x).toUInt32 % 65536).toNat < 2 ^ 32
      omega
  rw [h5, h4]
theorem ev_i2c {x : Int} (C : CX k own cc nL) (hd : decode cc pc = .ok (.i2c, 1)) (hq : pc + 1 = q) (kk : EV k q lv (vI (x % 65536) :: st) G ct sl) : EV k pc lv (vI x :: st) G ct sl := by
  subst hq
  exact ev_mk (fun hO => oks_push (okv_I _) (oks_pop1 hO)) kk fun ad H locs ls hl go => lv_i2c C.1 C.2.1 hd (i2c_iI x) (go ls hl)
def cmpI (x y : Int) : Int := if y < x then 1 else if x = y then 0 else -1
theorem ev_lcmp {x y : Int} (C : CX k own cc nL) (hd : decode cc pc = .ok (.lcmp, 1)) (hq : pc + 1 = q) (hx : rgL x) (hy : rgL y) (kk : EV k q lv (vI (cmpI x y) :: st) G ct sl) : EV k pc lv (vL y :: vL x :: st) G ct sl := by
  subst hq
  refine ev_mk (oks_bin (okv_I _)) kk fun ad H locs ls hl go => W.lcmp C.1 C.2.1 hd ?_
  have e : lg_cmp (iL x) (iL y) = iI (cmpI x y) := by
    unfold lg_cmp cmpI
    have e1 : iL x > iL y ↔ y < x := by rw [gt_iff_lt, Int64.lt_iff_toInt_lt, iL_toInt hx, iL_toInt hy]
    have e2 : iL x = iL y ↔ x = y := by rw [← Int64.toInt_inj, iL_toInt hx, iL_toInt hy]
    by_cases h1 : y < x
    · rw [if_pos (e1.mpr h1), if_pos h1]; decide
    · rw [if_neg (fun z => h1 (e1.mp z)), if_neg h1]
      by_cases h2 : x = y
      · rw [if_pos (e2.mpr h2), if_pos h2]; decide
      · rw [if_neg (fun z => h2 (e2.mp z)), if_neg h2]; decide
  rw [e]
  exact go ls hl
theorem iI_div {x y : Int} (hx : rg x) (hy : rg y) (h0 : 0 ≤ x) (h1 : 0 < y) : iI x / iI y = iI (x / y) := by
  have hd0 : 0 ≤ x / y := Int.ediv_nonneg h0 (by omega)
  have hd1 : x / y ≤ x := Int.ediv_le_self _ h0
  have hx2 := hx.2
  apply Int32.toInt_inj.mp
  rw [iI_toInt (x := x / y) (by unfold rg; omega), Int32.toInt_div, iI_toInt hx, iI_toInt hy, Int.tdiv_eq_ediv_of_nonneg h0]
  exact Int.bmod_eq_of_le (by omega) (by omega)
theorem ev_idiv {x y : Int} (C : CX k own cc nL) (hd : decode cc pc = .ok (.idiv, 1)) (hq : pc + 1 = q) (hx : rg x) (hy : rg y) (h0 : 0 ≤ x) (h1 : 0 < y) (kk : EV k q lv (vI (x / y) :: st) G ct sl) : EV k pc lv (vI y :: vI x :: st) G ct sl := by
  subst hq
  refine ev_mk (oks_bin (okv_I _)) kk fun ad H locs ls hl go => lv_idiv C.1 C.2.1 hd (fun z => by have := (iI_eq0 hy).mp z; omega) ?_
  rw [iI_div hx hy h0 h1]
  exact go ls hl
theorem ev_irem {x y : Int} (C : CX k own cc nL) (hd : decode cc pc = .ok (.irem, 1)) (hq : pc + 1 = q) (hx : rg x) (hy : rg y) (h0 : 0 ≤ x) (h1 : 0 < y) (kk : EV k q lv (vI (x % y) :: st) G ct sl) : EV k pc lv (vI y :: vI x :: st) G ct sl := by
  subst hq
  refine ev_mk (oks_bin (okv_I _)) kk fun ad H locs ls hl go => lv_irem C.1 C.2.1 hd (fun z => by have := (iI_eq0 hy).mp z; omega) ?_
  rw [iI_div hx hy h0 h1, iI_mul, iI_sub]
  have e : x - x / y * y = x % y := by have := Int.mul_ediv_add_emod x y; rw [Int.mul_comm] at this; omega
  rw [e]
  exact go ls hl
-- making
def adn (ad : Nat → Nat) (n a : Nat) : Nat → Nat := fun j => if j = n then a else ad j
theorem cv_adn {ad : Nat → Nat} {n a : Nat} {v : AV} (h : rfo v ≠ some n) : cv (adn ad n a) v = cv ad v := by
  rcases v with x | (_ | r) | x | x | x
  · rfl
  · rfl
  · show Value.ref (adn ad n a r) = Value.ref (ad r)
    unfold adn
    rw [if_neg (fun e => h (by rw [e]; rfl))]
  · rfl
  · rfl
  · rfl
theorem okv_ne {v : AV} {n : Nat} (h : okv G v) (hn : G n = none) (hf : ¬ fgn n) : rfo v ≠ some n := fun e => (h n e).elim (fun z => z hn) hf
theorem cvl_adn {ad : Nat → Nat} {n a : Nat} (h : ∀ q ∈ lv, rfo q.2 ≠ some n) : cvl (adn ad n a) lv = cvl ad lv :=
  List.map_congr_left fun q hq => by rw [cv_adn (h q hq)]
theorem cvs_adn {ad : Nat → Nat} {n a : Nat} (h : ∀ v ∈ st, rfo v ≠ some n) : st.map (cv (adn ad n a)) = st.map (cv ad) :=
  List.map_congr_left fun q hq => cv_adn (h q hq)
theorem arrV_congr {cA : ClassId} {N : Nat} {f g : Nat → Value} (h : ∀ j, j < N → f j = g j) : arrV cA N f = arrV cA N g := by
  unfold arrV
  congr 1
  congr 1
  funext j
  exact h j.val j.isLt
theorem ms_new {ad : Nat → Nat} {H H1 : Heap} {locs : List Loc} {n : Nat} {c : AC} (C : CX k own cc nL) (hO : okG G) (hM : MS k ad G H locs) (hn : G n = none) (hf : ¬ fgn n) (hnw : knw k n) (hc : nrp1 (kD k) (kdT k) (adn ad n H.size) n c H1) (z : H1.size = H.size + 1) (oq : ∀ a, a < H.size → H1[a]? = H[a]?) : MS k (adn ad n H.size) (gup G n c) H1 locs := by
  obtain ⟨h1, h2, h3, h4, h5, h6⟩ := hM
  have hA : ∀ q, (ks k).heap.size ≤ q → kA k q := C.2.2.2.2.2.2.2.2.2.2.1
  have hlt : ∀ m, G m ≠ none → ad m < H.size := fun m hm => by
    obtain ⟨d, hd⟩ := Option.ne_none_iff_exists'.mp hm
    have := h1 m d hd
    cases d with
    | inl o =>
      obtain ⟨r, -, cell, q1, -⟩ := this
      exact (Array.getElem?_eq_some_iff.mp q1).1
    | inr a => exact (Array.getElem?_eq_some_iff.mp this.2).1
  have hne : ∀ m, G m ≠ none → m ≠ n := fun m hm e => hm (by rw [e]; exact hn)
  have had : ∀ m, m ≠ n → adn ad n H.size m = ad m := fun m hm => by unfold adn; rw [if_neg hm]
  have hself : adn ad n H.size n = H.size := by unfold adn; rw [if_pos rfl]
  have hdom : ∀ m, gup G n c m ≠ none → m = n ∨ (m ≠ n ∧ G m ≠ none) := fun m hm => by
    by_cases e : m = n
    · exact Or.inl e
    · exact Or.inr ⟨e, by rwa [gup_ne e] at hm⟩
  refine ⟨fun m d hm => ?_, fun a b ha hb hab => ?_, fun m hm => ?_, fun m hm => ?_, fun m hm => gup_dom (h5 m hm), ⟨Nat.le_trans h6.1 (by omega), fun a g1 g2 => (oq a (Nat.lt_of_lt_of_le g1 h6.1)).trans (h6.2.1 a g1 g2), h6.2.2⟩⟩
  · by_cases e : m = n
    · subst e
      rw [gup_self] at hm
      cases hm
      exact hc
    · rw [gup_ne e] at hm
      have hmn : G m ≠ none := by rw [hm]; exact fun z => nomatch z
      have hq : H1[ad m]? = H[ad m]? := oq _ (hlt m hmn)
      have h7 := nrp1_kept (h1 m d hm) hq
      have hok := hO.1 m d hm
      cases d with
      | inl o =>
        obtain ⟨r, g1, g2⟩ := h7
        refine ⟨r, g1, ?_⟩
        rw [had m e, cvs_adn (fun v hv => okv_ne (hok v hv) hn hf)]
        exact g2
      | inr a =>
        refine ⟨h7.1, ?_⟩
        rw [had m e, h7.2]
        exact congrArg some (arrV_congr fun j hj => (cv_adn (okv_ne (hok j hj) hn hf)).symm)
  · rcases hdom a ha with rfl | ⟨e1, g1⟩ <;> rcases hdom b hb with rfl | ⟨e2, g2⟩
    · rfl
    · rw [hself, had b e2] at hab
      exact absurd (hab ▸ hlt b g2) (Nat.lt_irrefl _)
    · rw [hself, had a e1] at hab
      exact absurd (hab ▸ hlt a g1) (Nat.lt_irrefl _)
    · rw [had a e1, had b e2] at hab
      exact h2 a b g1 g2 hab
  · rcases hdom m hm with rfl | ⟨e1, g1⟩
    · rw [hself]; exact hA _ h6.1
    · rw [had m e1]; exact h3 m g1
  · rw [had m (fun e => hm (e ▸ hnw))]
    exact h4 m hm
theorem oks_new {n : Nat} {c : AC} (h : OKS G lv st) (hf : ¬ fgn n) (hc : okc G c) : OKS (gup G n c) lv (vR (some n) :: st) :=
  oks_push (fun m hm => by cases hm; exact Or.inl (by rw [gup_self]; exact fun z => nomatch z)) (oks_gup h hf hc)
theorem ev_new {index ci N n : Nat} {fs : List AV} (C : CX k own cc nL) (hd : decode cc pc = .ok (.new index, 3)) (F : NWk own index ci N fs) (hq : pc + 3 = q) (hn : G n = none) (hf : ¬ fgn n) (hnw : knw k n) (hct : ct + 1 ≤ kmc k) (hsl : sl + N ≤ kms k) (hG' : gup G n (.inl (ci, fs)) = G') (kk : EV k q lv (vR (some n) :: st) G' (ct + 1) (sl + N)) : EV k pc lv st G ct sl := by
  subst hq
  subst hG'
  obtain ⟨Cn, T, tyf, f1, f2, f3, f4, f5, f6, f7, f8⟩ := F
  obtain ⟨hx, hb, hml, hown, hts, hlk, htr, hK, hH, hV, hA, hn1, hn2⟩ := id C
  intro hO ad H locs ls hM hl
  have hKn := hK.1 ci _ f1
  have hokc : okc G (.inl (ci, fs)) := fun v hv m hm => by rw [f8 v hv] at hm; cases hm
  refine W.newcK hx hb hown (hts _ f4) (hts _ f5) (hts _ f6) rfl hd hct hsl hKn.2.1 rfl fun H1 kC hkC e1 z1 o1 => ?_
  have hself : adn ad n H.size n = H.size := by unfold adn; rw [if_pos rfl]
  have hM' : MS k (adn ad n H.size) (gup G n (.inl (ci, fs))) H1 locs := ms_new C hO.1 hM hn hf hnw ⟨_, f1, by rw [hself]; exact (u_born tyf hts f2 hKn hkC e1 f3).to (f7 _)⟩ z1 o1
  have h := kk (oks_new hO hf hokc) (adn ad n H.size) H1 locs ls hM' (by rw [cvl_adn (fun a ha => okv_ne (hO.2.1 a ha) hn hf)]; exact hl)
  have e : (vR (some n) :: st).map (cv (adn ad n H.size)) = .ref H.size :: st.map (cv ad) := by
    rw [List.map_cons, cvs_adn (fun v hv => okv_ne (hO.2.2 v hv) hn hf)]
    show Value.ref (adn ad n H.size n) :: _ = _
    rw [hself]
  rw [e] at h
  exact h
theorem ev_newa {atype : ArrayType} {t N n : Nat} {dv : AV} {x : Int} (C : CX k own cc nL) (hd : decode cc pc = .ok (.newarray atype, 2)) (hq : pc + 2 = q) (ht : t < 5) (hty : newarray.typeOf atype = arT t) (hcls : Cond.arrayClass (newarray.typeOf atype) ∈ lw_good) (hdv : ∀ ad, cv ad dv = defaultValue (arT t)) (hdr : rfo dv = none) (hxN : x = (N : Int)) (hN : N ≤ 65536) (hn : G n = none) (hf : ¬ fgn n) (hnw : knw k n) (hct : ct + 1 ≤ kmc k) (hsl : sl + N ≤ kms k) (hG' : gup G n (.inr (t, N, fun _ => dv)) = G') (kk : EV k q lv (vR (some n) :: st) G' (ct + 1) (sl + N)) : EV k pc lv (vI x :: st) G ct sl := by
  subst hq
  subst hG'
  subst hxN
  obtain ⟨hx, hb, hml, hown, hts, hlk, htr, hK, hH, hV, hA, hn1, hn2⟩ := id C
  intro hO ad H locs ls hM hl
  have hr : rg (N : Int) := by unfold rg; omega
  have hra := K_ra C (t := t) (by omega)
  have hokc : okc G (.inr (t, N, fun _ => dv)) := fun j hj m hm => by rw [hdr] at hm; cases hm
  refine va_newaK hx hb (hts _ hcls) rfl hd rfl (n := iI N) (N := N) (fun z => by have := (iI_lt0 hr).mp z; omega) (by rw [iI_nat hr (by omega)]; omega) (by rw [hty]; have : componentBytes (arT t) ≤ 8 := (by match t, ht with | 0, _ => decide | 1, _ => decide | 2, _ => decide | 3, _ => decide | 4, _ => decide); exact Nat.le_trans (Nat.mul_le_mul hN this) (by decide)) hct hsl rfl fun H1 cA e1 z1 o1 hAr hNm => ?_
  rw [hty] at e1 hAr hNm
  have hcA : cA = kdT k t := by
    have h9 : (ks k).vm.findClass ("[" ++ (arT t).toString) = some (kdT k t) := by
      match t, ht with
      | 0, _ => exact hra
      | 1, _ => exact hra
      | 2, _ => exact hra
      | 3, _ => exact hra
      | 4, _ => exact hra
    exact Option.some.inj (hNm.symm.trans h9)
  have hself : adn ad n H.size n = H.size := by unfold adn; rw [if_pos rfl]
  have hM' : MS k (adn ad n H.size) (gup G n (.inr (t, N, fun _ => dv))) H1 locs := ms_new C hO.1 hM hn hf hnw ⟨by show t < 7; omega, by rw [hself, e1, hcA]; exact congrArg some (arrV_congr fun j hj => (hdv _).symm)⟩ z1 o1
  have h := kk (oks_new (oks_pop1 hO) hf hokc) (adn ad n H.size) H1 locs ls hM' (by rw [cvl_adn (fun a ha => okv_ne (hO.2.1 a ha) hn hf)]; exact hl)
  have e : (vR (some n) :: st).map (cv (adn ad n H.size)) = .ref H.size :: st.map (cv ad) := by
    rw [List.map_cons, cvs_adn (fun v hv => okv_ne (hO.2.2 v (List.mem_cons_of_mem _ hv)) hn hf)]
    show Value.ref (adn ad n H.size n) :: _ = _
    rw [hself]
  rw [e] at h
  exact h
theorem ev_anewa {index t N n : Nat} {Cn : String} {x : Int} (C : CX k own cc nL) (hd : decode cc pc = .ok (.anewarray index, 3)) (hq : pc + 3 = q) (ht : t = 5 ∨ t = 6) (hty : arT t = .object Cn) (hlink : Cond.classLink own index Cn ∈ lw_good) (hxN : x = (N : Int)) (hN : N ≤ 65536) (hn : G n = none) (hf : ¬ fgn n) (hnw : knw k n) (hct : ct + 1 ≤ kmc k) (hsl : sl + N ≤ kms k) (hG' : gup G n (.inr (t, N, fun _ => vR none)) = G') (kk : EV k q lv (vR (some n) :: st) G' (ct + 1) (sl + N)) : EV k pc lv (vI x :: st) G ct sl := by
  subst hq
  subst hG'
  subst hxN
  obtain ⟨hx, hb, hml, hown, hts, hlk, htr, hK, hH, hV, hA, hn1, hn2⟩ := id C
  intro hO ad H locs ls hM hl
  have hr : rg (N : Int) := by unfold rg; omega
  have hra := K_ra C (t := t) (by omega)
  rw [hty] at hra
  have hao : va_AO Cn (ks k) := by
    rcases ht with rfl | rfl
    · cases hty; exact hV.2.2.1
    · cases hty; exact hV.2.2.2.1
  have hokc : okc G (.inr (t, N, fun _ => vR none)) := fun j hj m hm => nomatch hm
  have hNN : (iI (N : Int)).toNatClampNeg = N := by rw [iI_nat hr (by omega)]; omega
  refine W.anew hx hb hown (hts _ hlink) (va_AO.use hao) rfl hd rfl (n := iI N) (fun z => by have := (iI_lt0 hr).mp z; omega) (by rw [hNN]; omega) hct (by rw [hNN]; exact hsl) fun cA kA comp f1 f2 f3 f4 => ?_
  rw [hNN]
  generalize hH1 : H.push ({ cls := cA, slots := Array.replicate N .null, vm := .none } : Cell) = H1
  have z1 : H1.size = H.size + 1 := by rw [← hH1, Array.size_push]
  have e1 : H1[H.size]? = some (arrV cA N (fun _ => .null)) := by rw [← hH1, Array.getElem?_push_size, ← arrV_new]
  have o1 : ∀ q : Nat, q < H.size → H1[q]? = H[q]? := fun q hq => by rw [← hH1, Array.getElem?_push, if_neg (Nat.ne_of_lt hq)]
  have hcA : cA = kdT k t := by
    obtain ⟨_, _, _, _, _, h9⟩ := hra
    exact Option.some.inj (f1.symm.trans h9)
  have hself : adn ad n H.size n = H.size := by unfold adn; rw [if_pos rfl]
  have hM' : MS k (adn ad n H.size) (gup G n (.inr (t, N, fun _ => vR none))) H1 locs := ms_new C hO.1 hM hn hf hnw ⟨by show t < 7; omega, by rw [hself, e1, hcA]; rfl⟩ z1 o1
  have h := kk (oks_new (oks_pop1 hO) hf hokc) (adn ad n H.size) H1 locs ls hM' (by rw [cvl_adn (fun a ha => okv_ne (hO.2.1 a ha) hn hf)]; exact hl)
  have e : (vR (some n) :: st).map (cv (adn ad n H.size)) = .ref H.size :: st.map (cv ad) := by
    rw [List.map_cons, cvs_adn (fun v hv => okv_ne (hO.2.2 v (List.mem_cons_of_mem _ hv)) hn hf)]
    show Value.ref (adn ad n H.size n) :: _ = _
    rw [hself]
  rw [e] at h
  exact h
theorem ev_chk {index ci : Nat} {r : Option Nat} {nm : String} {T : u_T} {N : Nat} (C : CX k own cc nL) (hd : decode cc pc = .ok (.checkcast index, 3)) (hq : pc + 3 = q) (hc : vwCl[ci]? = some (nm, T, N)) (hlink : Cond.classLink own index nm ∈ lw_good) (hG : ∀ n, r = some n → ∃ fs, G n = some (.inl (ci, fs))) (kk : EV k q lv (vR r :: st) G ct sl) : EV k pc lv (vR r :: st) G ct sl := by
  subst hq
  obtain ⟨hx, hb, hml, hown, hts, hlk, htr, hK, hH, hV, hA, hn1, hn2⟩ := id C
  intro hO ad H locs ls hM hl
  cases r with
  | none => exact lv_castN hx hb hd (kk hO ad H locs ls hM hl)
  | some n =>
    obtain ⟨fs, hGn⟩ := hG n rfl
    obtain ⟨r', hr', cell, g1, g2, g3, -⟩ := hM.1 n _ hGn
    have hcls := (hK.1 ci _ hc).2
    exact va_castS hx hb hown (hts _ hlink) hcls ⟨cell, g1, by rw [g3]; rfl, by rw [g2]; exact hcls.1⟩ hd (kk hO ad H locs ls hM hl)
theorem ev_objInit {index n : Nat} (C : CX k own cc nL) (hd : decode cc pc = .ok (.invokespecial index, 3)) (hq : pc + 3 = q) (h1 : Cond.methodLink own index Lib.objectInit ∈ lw_good) (h2 : Cond.instanceMethod Lib.objectInit ∈ lw_good) (h3 : Cond.code Lib.objectInit ⟨#[0xb1]⟩ 1 none ∈ lw_good) (hst : st = []) (kk : EV k q lv st G ct sl) : EV k pc lv (vR (some n) :: st) G ct sl := by
  subst hq
  subst hst
  obtain ⟨hx, hb, hml, hown, hts, hlk, htr, hK, hH, hV, hA, hn1, hn2⟩ := id C
  intro hO ad H locs ls hM hl
  refine W.objInit hx hb hown (hts _ h1) (hts _ h2) (hts _ h3) rfl hl.1 rfl hd (by show 1 ≤ 20 + 2 * _; omega) ?_ (kk (oks_pop1 hO) ad H locs ls hM hl)
  show 2 * 0 + 0 + 12 ≤ 300 + 60 * klev k
  omega
-- ends
theorem fn_of {ad : Nat → Nat} {H : Heap} {locs : List Loc} {t : State} (hO : okG G) (hM : MS k ad G H locs) (ht : t.heap = H) : FN (kD k) (kdT k) (kad k) (knw k) (kG k) (kA k) G ad (ks k) t :=
  ⟨hO, by rw [ht]; exact hM.1, hM.2.1, hM.2.2.1, hM.2.2.2.1, hM.2.2.2.2.1, hM.2.2.2.2.2.F ht⟩
theorem ev_iret {x : Int} (C : CX k own cc nL) (hr : (kmeth k).sig.returnType = some .int) (hd : decode cc pc = .ok (.ireturn, 1)) (hct : ct ≤ kmc k) (hsl : sl ≤ kms k) (hP : kPo k (some (vI x)) G) : EV k pc lv [vI x] G ct sl := by
  intro hO ad H locs ls hM hl
  have hlk := C.2.2.2.2.2.1
  refine W.widen hct hsl (vx_ret ?_)
  exact W.iret (v := iI x) C.1 C.2.1 hr (fun t ht hW => ⟨some (vI x), G, ad, rfl, hP, fun v hv => by cases hv; exact okv_I _, fn_of hO.1 hM ht⟩) hM.2.2.2.2.2.2.2 hd
theorem ev_zret {x : Int} {ty : FieldType} (C : CX k own cc nL) (hr : (kmeth k).sig.returnType = some ty) (hf : fitA ty (vI x)) (hd : decode cc pc = .ok (.ireturn, 1)) (hct : ct ≤ kmc k) (hsl : sl ≤ kms k) (hP : kPo k (some (vI x)) G) : EV k pc lv [vI x] G ct sl := by
  intro hO ad H locs ls hM hl
  have hlk := C.2.2.2.2.2.1
  refine W.widen hct hsl (vx_ret ?_)
  exact W.zret (v := iI x) C.1 C.2.1 hr (hf ad).1 (fun t ht hW => ⟨some (vI x), G, ad, rfl, hP, fun v hv => by cases hv; exact okv_I _, fn_of hO.1 hM ht⟩) hM.2.2.2.2.2.2.2 hd
theorem ev_lret {x : Int} (C : CX k own cc nL) (hr : (kmeth k).sig.returnType = some .long) (hd : decode cc pc = .ok (.lreturn, 1)) (hct : ct ≤ kmc k) (hsl : sl ≤ kms k) (hP : kPo k (some (vL x)) G) : EV k pc lv [vL x] G ct sl := by
  intro hO ad H locs ls hM hl
  have hlk := C.2.2.2.2.2.1
  refine W.widen hct hsl (vx_ret ?_)
  exact W.lret (v := iL x) C.1 C.2.1 hr (fun t ht hW => ⟨some (vL x), G, ad, rfl, hP, fun v hv => by cases hv; exact okv_L _, fn_of hO.1 hM ht⟩) hM.2.2.2.2.2.2.2 hd
theorem ev_fret {x : UInt32} (C : CX k own cc nL) (hr : (kmeth k).sig.returnType = some .float) (hd : decode cc pc = .ok (.freturn, 1)) (hct : ct ≤ kmc k) (hsl : sl ≤ kms k) (hP : kPo k (some (vF x)) G) : EV k pc lv [vF x] G ct sl := by
  intro hO ad H locs ls hM hl
  have hlk := C.2.2.2.2.2.1
  refine W.widen hct hsl (vx_ret ?_)
  exact W.fret (v := x) C.1 C.2.1 hr (fun t ht hW => ⟨some (vF x), G, ad, rfl, hP, fun v hv => by cases hv; exact okv_F _, fn_of hO.1 hM ht⟩) hM.2.2.2.2.2.2.2 hd
theorem ev_dret {x : UInt64} (C : CX k own cc nL) (hr : (kmeth k).sig.returnType = some .double) (hd : decode cc pc = .ok (.dreturn, 1)) (hct : ct ≤ kmc k) (hsl : sl ≤ kms k) (hP : kPo k (some (vD x)) G) : EV k pc lv [vD x] G ct sl := by
  intro hO ad H locs ls hM hl
  have hlk := C.2.2.2.2.2.1
  refine W.widen hct hsl (vx_ret ?_)
  exact W.dret (v := x) C.1 C.2.1 hr (fun t ht hW => ⟨some (vD x), G, ad, rfl, hP, fun v hv => by cases hv; exact okv_D _, fn_of hO.1 hM ht⟩) hM.2.2.2.2.2.2.2 hd
theorem ev_aret {r : Option Nat} {rt : FieldType} (C : CX k own cc nL) (hr : (kmeth k).sig.returnType = some rt) (hrt : (∃ n, rt = .object n) ∨ ∃ t, rt = .array t) (hd : decode cc pc = .ok (.areturn, 1)) (hct : ct ≤ kmc k) (hsl : sl ≤ kms k) (hP : kPo k (some (vR r)) G) : EV k pc lv [vR r] G ct sl := by
  intro hO ad H locs ls hM hl
  have hlk := C.2.2.2.2.2.1
  refine W.widen hct hsl (vx_ret ?_)
  exact W.aret (v := cv ad (vR r)) C.1 C.2.1 hr hrt (by cases r with | none => exact Or.inl rfl | some a => exact Or.inr ⟨_, rfl⟩) (fun t ht hW => ⟨some (vR r), G, ad, rfl, hP, fun v hv => by cases hv; exact hO.2.2 _ List.mem_cons_self, fn_of hO.1 hM ht⟩) hM.2.2.2.2.2.2.2 hd
theorem ev_vret (C : CX k own cc nL) (hr : (kmeth k).sig.returnType = none) (hd : decode cc pc = .ok (.return_, 1)) (hct : ct ≤ kmc k) (hsl : sl ≤ kms k) (hP : kPo k none G) : EV k pc lv [] G ct sl := by
  intro hO ad H locs ls hM hl
  have hlk := C.2.2.2.2.2.1
  refine W.widen hct hsl (vx_ret ?_)
  exact W.vret C.1 C.2.1 hr (fun t ht hW => ⟨none, G, ad, rfl, hP, (fun v hv => by cases hv), fn_of hO.1 hM ht⟩) hM.2.2.2.2.2.2.2 hd
end MK
