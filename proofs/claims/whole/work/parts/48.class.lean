/-! THE CLASS: NoSuchElementException, whose constructor calls its superclass's by an index of its own (13) -/
def nsE : String := "java/util/NoSuchElementException"
def nsY : String := "java/lang/RuntimeException"
def nsB : ByteArray := ⟨#[0x2a, 0x2b, 0xb7, 0x00, 0x0d, 0xb1]⟩
theorem nsB_0 : decode nsB 0 = .ok (.aload_n 0, 1) := by decide +kernel
theorem nsB_1 : decode nsB 1 = .ok (.aload_n 1, 1) := by decide +kernel
theorem nsB_2 : decode nsB 2 = .ok (.invokespecial 13, 3) := by decide +kernel
theorem nsB_5 : decode nsB 5 = .ok (.return_, 1) := by decide +kernel
/-- the words of the shared throw, but the two that speak of index 7 in this class -/
def nsK (w : Cond) : Bool := decide (w ≠ .code (Bundle.initS nsE) Bundle.six 2 none) && decide (w ≠ .methodLink nsE 7 (Bundle.initS Bundle.tN))
def nsL : List Cond := (Bundle.ownAtoms "Swapyard" 182 nsE []).filter nsK ++ (Bundle.passSAtoms nsE nsY 13 nsB ++ Bundle.chainSAtoms nsY ["java/lang/Exception"])
theorem nsK_T : ∀ w ∈ Bundle.throwableAtoms, nsK w = true := by decide +kernel
theorem nsK_S : ∀ w ∈ Bundle.throwableSAtoms, nsK w = true := by decide +kernel
def nsLv : List Cond := nsL.filter vx_no
theorem nsL_g : ∀ w ∈ nsLv.filter goodWord, w ∈ lw_good := by decide +kernel
theorem nsL_n : ∀ w ∈ nsLv.filter (fun w => !goodWord w), w ∈ Cond.castable nsE nsE :: dcl0.map Cond.declares := by decide +kernel
theorem nsL_o : ∀ w ∈ Cond.classLink "Swapyard" 178 nsE :: Cond.initialized nsE :: nsLv, vx_ot w = true := by decide +kernel
section NS
variable {p : Program} {l : Launch} {e : Env} {R : Room} {s : State} {m : MethodId} {args : Array Value} {below : List Frame} {meth : Method} {c : Code}
set_option maxHeartbeats 2000000 in
theorem ns_ctor {W0 : State} {cells slots : Nat} (X : Stand p l e R s m args below meth c W0 [] cells slots) (hexec : p.tables.exec = Jvm.exec) (htr : e.platform.stackTraces = false)
    (hown : s.vm.findClass "Swapyard" = some m.cls) (h : ∀ w ∈ nsL, w.before args s = true)
    {a : Addr} {cX : ClassId} {kX : Class} (hfoundX : s.vm.findClass nsE = some cX) (hkX : s.vm.classes[cX]? = some kX) (hcell : W0.heap[a]? = some (freshCell cX kX)) (hnew : s.heap.size ≤ a)
    {msg : Value} (hmsg : msg.isRef = true) {g : JFrame} (hg : g.method = m) (hsize : g.locals.size = c.maxLocals) (hlocked : g.locked = none) (hentered : g.entered = []) {rest : List Value} (hstack : g.stack = msg :: .ref a :: .ref a :: rest)
    (hd6 : decode c.code g.pc = .ok (.invokespecial 182, 3)) (hd9 : decode c.code (g.pc + 3) = .ok (.athrow, 1)) (hout : ∀ x ∈ c.exceptionTable.toList, covers x (g.pc + 3) = false)
    (hRf : 5 < R.frames) (hRl : 2 * g.monitorRoom + ((Value.ref a :: rest).map fun v => v.category).sum + (13 * (2 + 1) + 42) ≤ R.locals) (hlocks : meth.locks = false) :
    ∃ U : State, Steps p.tables e below (W0.setTop g) U ∧ U.status = .running ∧ Ended U below (.threw a) ∧ s.WarmedH U.vm ∧ s.sameButNew ({ U with vm := s.vm } : State) [] cells slots ∧ ∃ ce, U.heap[a]? = some ce ∧ s.vm.findClass nsE = some ce.cls ∧ ce.vm = .none := by
  have howns : e.platform.frameOwnsMonitors = true := by rw [X.admits.platform]
  have hfin : e.platform.finalization = false := by rw [X.admits.platform]
  have hpl : e.platform.magicAccessors = ({} : Platform).magicAccessors := by rw [X.admits.platform]
  have ha : ∀ w ∈ Bundle.ownAtoms "Swapyard" 182 nsE [], nsK w = true → w.before args s = true := fun w hw hk => h w (List.mem_append_left _ (List.mem_filter.mpr ⟨hw, hk⟩))
  have hd : ∀ w ∈ Bundle.ownAtoms "Swapyard" 182 nsE [], nsK w = true → w.holds args s none s [] = true := fun w hw hk => ha w hw hk
  obtain ⟨T, Z0, L, -, Y⟩ := ThrowableC.of_atoms (args := args) howns hfin hpl (fun w hw => ha w (by simp [Bundle.ownAtoms, hw]) (nsK_T w hw))
  obtain ⟨Z, M, LZ, LM, hnZ⟩ := Init0T.ofS_atoms (args := args) hpl L Y (fun w hw => ha w (by simp [Bundle.ownAtoms, hw]) (nsK_S w hw))
  obtain ⟨P1, L1, hP1m, hP1s⟩ := PassC.ofS_atoms (args := args) (s := s) hpl (X := nsE) (Y := nsY) (Bundle.fit_spec (by decide)).1 (Bundle.fit_spec (by decide)).2 nsB_0 nsB_1 nsB_2 nsB_5 (fun w hw => h w (List.mem_append_right _ (List.mem_append_left _ hw)))
  obtain ⟨P2, Ps, hlen, L2, hL, hP2m, hlink1, hlink⟩ := Bundle.chainS (args := args) hpl hnZ ["java/lang/Exception"] nsY (by decide) (by decide) (fun w hw => h w (List.mem_append_right _ (List.mem_append_right _ hw)))
  have hfound : s.vm.findClass nsE = some P1.m.cls := findClass_of_methodNamed hP1m
  cases Option.some.inj (hfoundX.symm.trans hfound)
  obtain ⟨c1, kX', hc1, hk, hord, -, -, hn6⟩ := Cond.instantiable_spec (hd (.instantiable nsE 6) (by simp [Bundle.ownAtoms]) (by decide +kernel))
  cases Option.some.inj (hc1.symm.trans hfound)
  cases Option.some.inj (hkX.symm.trans hk)
  have hsel0 : selectMethod e.platform s.vm P1.m.cls T.fill0 = .method T.fill0 := by
    obtain ⟨c2, r2, m2, q1, q2, q3, q4, -⟩ := Cond.selects_spec (hd (.selects nsE Bundle.tFill0 Bundle.tFill0) (by simp [Bundle.ownAtoms]) (by decide +kernel))
    cases Option.some.inj (q1.symm.trans hfound)
    cases Option.some.inj (q2.symm.trans (State.methodFound?_of_named Y.fill0 (by decide)))
    cases Option.some.inj (q3.symm.trans Y.fill0)
    rw [Launch.admits_selectMethod X.admits]; exact q4
  have hselF : selectMethod e.platform s.vm P1.m.cls T.fill = .method T.fill := by
    obtain ⟨c2, r2, m2, q1, q2, q3, q4, -⟩ := Cond.selects_spec (hd (.selects nsE Bundle.tFill Bundle.tFill) (by simp [Bundle.ownAtoms]) (by decide +kernel))
    cases Option.some.inj (q1.symm.trans hfound)
    cases Option.some.inj (q2.symm.trans (State.methodFound?_of_named Y.fill (by decide)))
    cases Option.some.inj (q3.symm.trans Y.fill)
    rw [Launch.admits_selectMethod X.admits]; exact q4
  obtain ⟨cellS0, hcS0, hiss⟩ := Y.statics
  obtain ⟨u0, hu0⟩ := Cond.staticRefV Y.unassigned L.unassignedStatic L.statics hcS0 hiss (hd (.isRef (.static Bundle.tN "UNASSIGNED_STACK" Bundle.steD)) (by simp [Bundle.ownAtoms]) (by decide +kernel))
  obtain ⟨sen, hsen⟩ := Cond.staticRefV Y.sentinel L.sentinelStatic L.statics hcS0 hiss (hd (.isRef (.static Bundle.tN "SUPPRESSED_SENTINEL" Bundle.listD)) (by simp [Bundle.ownAtoms]) (by decide +kernel))
  obtain ⟨ci198, i198, fB, hk198, hg198, ha198, hsB, -, hnB, htB, hffB⟩ := Cond.ownField (t := .object "java/lang/Object") Y.found L.cls (by decide +kernel) (hd (.fieldLink Bundle.tN 198 Bundle.tN "backtrace" "Ljava/lang/Object;") (by simp [Bundle.ownAtoms]) (by decide +kernel)) (hd (.lays Bundle.tN Bundle.tN "backtrace" "Ljava/lang/Object;") (by simp [Bundle.ownAtoms]) (by decide +kernel)) e.platform hpl
  obtain ⟨cellS, hcS', heS, -, hkeep⟩ := X.same.2.2.2.2.2 T.aS cellS0 hcS0
  have hcellS : W0.heap[T.aS]? = some cellS := hcS'
  have hout' : ∀ i, (⟨T.aS, i⟩ : Loc) ∉ ([] : List Loc) := fun i hm => nomatch hm
  have hknownS : cellS.vm ≠ .unknown := by
    rw [heS]; intro hu
    rw [show cellS0.vm = .unknown from hu] at hiss
    cases hiss
  have hneS : T.aS ≠ a := Nat.ne_of_lt (Nat.lt_of_lt_of_le (Array.getElem?_eq_some_iff.mp hcS0).1 hnew)
  obtain ⟨iM, hffM⟩ := Y.msg
  obtain ⟨tyC, dC, hdC, hdnC⟩ := Cond.laysAt hfound hk Y.cause (hd (.lays nsE Bundle.tN "cause" "Ljava/lang/Throwable;") (by simp [Bundle.ownAtoms]) (by decide +kernel))
  obtain ⟨tyS, dS, hdS, hdnS⟩ := Cond.laysAt hfound hk Y.stack (hd (.lays nsE Bundle.tN "stackTrace" Bundle.steD) (by simp [Bundle.ownAtoms]) (by decide +kernel))
  obtain ⟨tyP, dP, hdP, hdnP⟩ := Cond.laysAt hfound hk Y.supp (hd (.lays nsE Bundle.tN "suppressedExceptions" Bundle.listD) (by simp [Bundle.ownAtoms]) (by decide +kernel))
  obtain ⟨tyM, dM, hdM, hdnM⟩ := Cond.laysAt hfound hk hffM (hd (.lays nsE Bundle.tN "detailMessage" "Ljava/lang/String;") (by simp [Bundle.ownAtoms]) (by decide +kernel))
  obtain ⟨tyB, dB, hdB, hdnB⟩ := Cond.laysAt hfound hk hffB (hd (.lays nsE Bundle.tN "backtrace" "Ljava/lang/Object;") (by simp [Bundle.ownAtoms]) (by decide +kernel))
  have bC := Cond.laysApart hdB hdC hdnB hdnC (by rw [hnB, Y.causeName]; decide)
  have bS := Cond.laysApart hdB hdS hdnB hdnS (by rw [hnB, Y.stackName]; decide)
  have bP := Cond.laysApart hdB hdP hdnB hdnP (by rw [hnB, Y.suppName]; decide)
  have hskip : SkipFacts T e.platform s (fun u => u) u0 ((preparedCellV T.toThrowableT (freshCell P1.m.cls kX) a u0 sen).withEntry W0.cur) :=
    ⟨{ ci198 := ci198, i198 := i198, fBack := fB }, ⟨hk198, hg198, ha198, hsB⟩, by
      have := fresh_default (c := P1.m.cls) tyB
      rw [htB] at this
      simpa [preparedCellV, Cell.setSlot, Cell.withEntry, Array.getElem?_setIfInBounds, bC, bS, bP, bC.symm, bS.symm, bP.symm, defaultValue] using this, fun _ _ => rfl⟩
  obtain ⟨tm, methC, cdC, kC, vm₁, hnC, -, -, -, -, -, -, -, hW₁, st1⟩ := Steps.initColdS (tb := p.tables) (e := e) (below := below) (s := s) (U := W0) X.here hexec X.warmed hpl hown (t := Bundle.initS nsE) rfl rfl (Bundle.fit_spec (by decide)).2
    (hd (.methodLink "Swapyard" 182 (Bundle.initS nsE)) (by simp [Bundle.ownAtoms]) (by decide +kernel)) (h (.instanceMethod (Bundle.initS nsE)) (List.mem_append_right _ (List.mem_append_left _ (by simp [Bundle.passSAtoms])))) (bytes := nsB) (maxL := 2) (h (.code (Bundle.initS nsE) nsB 2 none) (List.mem_append_right _ (List.mem_append_left _ (by simp [Bundle.passSAtoms]))))
    (f := g) hg (a := a) (msg := msg) (rest := .ref a :: rest) hstack hd6
  cases Option.some.inj (hnC.symm.trans hP1m)
  have X₁ := X.noted hW₁
  have hlen1 : Ps.length = 1 := hlen
  obtain ⟨vm₂, X₂, st2⟩ := X₁.ctorMessageOffV hexec (g := { g with stack := .ref a :: rest }) hg hsize T L Z LZ M LM (P1 :: P2 :: Ps)
    (fun P hP => by
      rcases List.mem_cons.mp hP with rfl | hP
      · exact L1
      · rcases List.mem_cons.mp hP with rfl | hP
        · exact L2
        · exact hL P hP) ⟨Option.some.inj (hP1s.symm.trans hP2m), hlink1, hlink⟩ (u0 := u0) (sen := sen) (self := a) hmsg (cell := freshCell P1.m.cls kX) (cellS := cellS)
    hcell (fun _ => by simp) (by simp) rfl rfl hsel0 hselF hcellS hneS hknownS (by rw [hkeep _ (hout' _)]; exact hu0) (by rw [hkeep _ (hout' _)]; exact hsen)
    (Takes.of_laid hk hord tyC (by rw [Y.causeType]; rfl)) (Takes.of_laid hk hord tyS (by rw [Y.stackType]; exact fits_refV_array _ u0)) (Takes.of_laid hk hord tyP (by rw [Y.suppType]; exact fits_refV_object _ sen))
    (Takes.of_laid hk hord tyM (by rw [Y.msgType]; exact fits_refV_object _ ⟨msg, hmsg⟩)) Y.objLocals hskip htr [] hd6
    (by simp only [List.length_cons, hlen1]; omega) (by simp only [List.length_cons, hlen1]; exact hRl)
  obtain ⟨hwalk, hrun, hended, hWU, hsame⟩ := X₂.athrowLeaves hexec (g := { g with stack := .ref a :: rest, pc := g.pc + 3 }) hg hlocked hentered hout (a := a) (rest := rest) rfl hd9
  have hlt : a < ((W0.setVm vm₁).setVm vm₂).heap.size := (Array.getElem?_eq_some_iff.mp hcell).1
  have hU := heapAt_setCell_self (s := (W0.setVm vm₁).setVm vm₂) (plainBareV T.toThrowableT (freshCell P1.m.cls kX) a u0 sen msg) hlt
  refine ⟨_, st1 _ (fun acts => ?_), hrun, hended, hWU, hsame.weaken (fun y hy hlt' => ?_) (Nat.le_refl _) (Nat.le_refl _), _, hU, hfound, rfl⟩
  · rw [doInvoke_state]
    exact st2 _ hwalk
  · rcases List.mem_append.mp hy with h1 | h1
    · exact h1
    · exfalso
      have hb : y.base = a := by
        simp only [List.mem_cons, List.not_mem_nil, or_false] at h1
        rcases h1 with rfl | rfl | rfl | rfl | rfl <;> rfl
      rw [hb] at hlt'
      exact Nat.not_lt.mpr hnew hlt'
variable {H : Heap} {locs : List Loc} {cells slots : Nat} {free : Addr → Prop} {ls : Array Slot} {rest : List Value}
variable {Qc : Array Value → State → Outcome → State → Prop} {XC : String → State → State → Prop}
/-- 'throw new NoSuchElementException("text")', after the kit's vx_throwS -/
theorem ns_throw {cc : ByteArray} {pc : Nat} (hexec : p.tables.exec = Jvm.exec) (hb : c.code = cc) (hl : l.stackTraces = false) {text : String} {is mc ms sa : Nat} {A : Nat → Prop}
    (hown : s.vm.findClass "Swapyard" = some m.cls) (hk : (Cond.classLink "Swapyard" 178 nsE).before args s = true) (hini : (Cond.initialized nsE).before args s = true) (hstr : vk_R "Swapyard" is text sa s) (hat : ∀ w ∈ nsLv, w.before args s = true)
    (hU : vx_Zq Bundle.tN "UNASSIGNED_STACK" Bundle.steD A s s.heap) (hN : vx_Zq Bundle.tN "SUPPRESSED_SENTINEL" Bundle.listD A s s.heap) (hS : va_S A s.heap H locs) (hsize : ls.size = c.maxLocals)
    (d0 : decode cc pc = .ok (.new 178, 3)) (d3 : decode cc (pc + 3) = .ok (.dup, 1)) (d4 : decode cc (pc + 4) = .ok (.ldc is, 2)) (d6 : decode cc (pc + 6) = .ok (.invokespecial 182, 3)) (d9 : decode cc (pc + 9) = .ok (.athrow, 1))
    (hout : ∀ x ∈ c.exceptionTable.toList, covers x (pc + 9) = false)
    (hRf : 5 < R.frames) (hRl : (rest.map fun v => v.category).sum + (13 * (2 + 1) + 43) ≤ R.locals) (hRcells : cells + 1 ≤ R.cells) (hRslots : slots + 6 ≤ R.slots) (hlocks : meth.locks = false)
    (hx : ∀ t : State, s.vm.Alike t.vm → H.size ≤ t.heap.size → (∀ q : Nat, q < H.size → t.heap[q]? = H[q]?) → XC nsE s t)
    (hf : ∀ z ∈ locs, free z.base) (hc : cells + 1 ≤ mc) (hs : slots + 6 ≤ ms) :
    W p l e R s m args below meth c H locs cells slots (vx_MQ below Qc XC args s mc ms free) (F0 m pc ls rest) := by
  intro T hT X
  have htr : e.platform.stackTraces = false := (show e.platform.stackTraces = l.stackTraces by rw [X.admits.platform]).trans hl
  have Y := vx_rebase X (R' := { frames := R.frames, locals := R.locals, cells := 1, slots := 6 }) (Nat.le_refl _) (Nat.le_refl _) hRcells hRslots
  obtain ⟨s', hA⟩ : ∃ z, z = (T.setVm s.vm).setFrames (.invoking m args :: below) := ⟨_, rfl⟩
  rw [← hA] at Y
  have hvm : s'.vm = s.vm := by rw [hA]; rfl
  have hhp : s'.heap = H := by rw [hA]; exact hT
  have hW0 : s.WarmedH s'.vm := by rw [hvm]; exact State.WarmedH.refl s
  have hat' : ∀ w ∈ nsLv, w.before args s' = true := fun w hw => vx_ot_at hW0 hvm.symm (nsL_o w (List.mem_cons_of_mem _ (List.mem_cons_of_mem _ hw))) (hat w hw)
  have hk' : (Cond.classLink "Swapyard" 178 nsE).before args s' = true := vx_ot_at hW0 hvm.symm (nsL_o _ List.mem_cons_self) hk
  have hini' : (Cond.initialized nsE).before args s' = true := vx_ot_at hW0 hvm.symm (nsL_o _ (List.mem_cons_of_mem _ List.mem_cons_self)) hini
  have hU' : vx_Zq Bundle.tN "UNASSIGNED_STACK" Bundle.steD A s' s'.heap := by rw [hhp]; exact vx_Zq.moved hW0.alike (hU.kept hS.2.1)
  have hN' : vx_Zq Bundle.tN "SUPPRESSED_SENTINEL" Bundle.listD A s' s'.heap := by rw [hhp]; exact vx_Zq.moved hW0.alike (hN.kept hS.2.1)
  have h : ∀ w ∈ nsL, w.before args s' = true := vx_own hat' (vx_isRefq hU'.1) (vx_isRefq hN'.1) hU'.2.word hN'.2.word
  have hown' : s'.vm.findClass "Swapyard" = some m.cls := by rw [hvm]; exact hown
  have hins : (Cond.instantiable nsE 6).before args s' = true := h _ (List.mem_append_left _ (List.mem_filter.mpr ⟨by simp [Bundle.ownAtoms], by decide +kernel⟩))
  obtain ⟨vm₁, cX, kX, hfX, hkX, -, -, X₁, st1⟩ := Y.newCold hexec (own := "Swapyard") (C := nsE) (index := 178) (n := 6) hown' hk' hins hini'
    (g := F0 m pc ls rest) rfl (by rw [hb]; exact d0) (Nat.le_refl _) (Nat.le_refl _)
  generalize hT1 : (T.setVm vm₁).pushCell { cls := cX, slots := kX.instanceTypes.map defaultValue, vm := .none } = T1 at X₁ st1
  have hcat : (Value.ref T.heap.size).category = 1 := rfl
  have hcellA : T1.heap[T.heap.size]? = some (freshCell cX kX) := by rw [← hT1]; exact State.heap_pushCell_size _ _
  have d3' : decode c.code (pc + 3) = .ok (.dup, 1) := by rw [hb]; exact d3
  have d4' : decode c.code (pc + 4) = .ok (.ldc is, 2) := by rw [hb]; exact d4
  have hstr' : vk_R "Swapyard" is text sa s' := vk_R.warm hW0 hstr
  obtain ⟨U, hsteps, hrun, hend, hW, hsame, ce, hce, hOc, hOv⟩ := ns_ctor X₁ hexec htr hown' h hfX hkX hcellA (by rw [hhp, hT]; exact Nat.le_refl _) (msg := .ref sa) rfl
    (g := { method := m, pc := pc + 6, locals := ls, stack := .ref sa :: .ref T.heap.size :: .ref T.heap.size :: rest, locked := none }) rfl hsize rfl rfl (rest := rest) rfl
    (by rw [hb]; exact d6) (by rw [hb]; exact d9) hout hRf (by simp only [List.map_cons, List.sum_cons, hcat]; omega) hlocks
  obtain ⟨f1, f2⟩ := vx_frame hsame
  rw [hhp] at f1 f2
  have hWs : s.WarmedH U.vm := State.WarmedH.trans hW0 hW
  have hcl : s.vm.findClass nsE = some ce.cls := by rw [hvm] at hOc; exact hOc
  have hall : s.sameButNew ({ U with vm := s.vm } : State) locs mc ms := by
    subst hA
    obtain ⟨e1, e2⟩ := hsame
    rw [State.setFrames_setFrames] at e1
    have h2 : (T.setVm s.vm).sameButNew ({ U with vm := s.vm } : State) [] (0 + 1) (0 + 6) := ⟨e1, e2⟩
    have h3 := X.same.trans h2
    rw [List.append_nil] at h3
    exact h3.mono hc hs
  refine ⟨U, ?_, .threw T.heap.size, hrun, hend, Or.inr ⟨T.heap.size, rfl, nsE, ce, locs, hx U hWs.alike f1 (fun q hq => f2 q hq (fun z hz => nomatch hz)), hce, hOv, hcl, hWs, hall, hf⟩⟩
  refine st1 _ ?_
  show Steps p.tables e below (T1.setTop { method := m, pc := pc + 3, locals := ls, stack := .ref T.heap.size :: rest, locked := none }) _
  jvm_step X₁.here [X₁.here.top, hexec, d3', Value.category]
  exact X₁.ldcString hexec (own := "Swapyard") (text := text) (index := is) (a := sa) hown' hstr'.1 hstr'.2
    (g := { method := m, pc := pc + 4, locals := ls, stack := .ref T.heap.size :: .ref T.heap.size :: rest, locked := none }) rfl d4' _ hsteps
end NS
section NV
variable {k : Kx} {own : String} {cc : ByteArray} {nL : Nat} {pc q tgt : Nat} {lv lv' : List (Nat × AV)} {st st' : List AV} {G G' : GH} {ct sl : Nat}
theorem ns_castl : (nsE, nsE) ∈ cstl0 := by decide
theorem ev_throwN {is : Nat} {text : String} (C : CX k "Swapyard" cc nL) (htab : ∀ x ∈ (kc k).exceptionTable.toList, False) (hstr : (is, text) ∈ strl0) (d0 : decode cc pc = .ok (.new 178, 3)) (d3 : decode cc (pc + 3) = .ok (.dup, 1)) (d4 : decode cc (pc + 4) = .ok (.ldc is, 2)) (d6 : decode cc (pc + 6) = .ok (.invokespecial 182, 3)) (d9 : decode cc (pc + 9) = .ok (.athrow, 1))
    (hw : wdt st ≤ 8) (hct : ct + 1 ≤ kmc k) (hsl : sl + 6 ≤ kms k) (hP : kPx k "java/util/NoSuchElementException" G) : EV k pc lv st G ct sl := by
  obtain ⟨hx, hb, hml, hown, hts, hlk, htr, hK, hH, hV, hA, hn1, hn2⟩ := id C
  intro hO ad H locs ls hM hl
  obtain ⟨sa, hsa⟩ := hV.2.2.2.2.2.2.1 _ hstr
  exact ns_throw hx hb htr hown (hts _ kl_X6_178) (hts _ (q9 28 (by decide +kernel) (by decide +kernel))) hsa (vx_hat (fun w hw => hts _ (nsL_g w hw)) nsL_n (vx_c (va_Nw.use rfl (hV.1 _ ns_castl)) (fun w hw => by obtain ⟨y, hy, rfl⟩ := List.mem_map.mp hw; exact va_Nw.use rfl (hV.2.2.2.2.2.2.2.2 y hy)))) hH.1 hH.2.1 hM.2.2.2.2.2 hl.1 d0 d3 d4 d6 d9 (fun x hx => (htab x hx).elim)
    (by show 5 < 20 + 2 * klev k; omega) (by rw [wdt_cat]; show wdt st + (13 * (2 + 1) + 43) ≤ 300 + 60 * klev k; omega) hct hsl hlk (fun t _ h1 h2 => xn_of hO.1 hM hP h1 h2) hM.2.2.2.2.2.2.2 hct hsl
end NV
set_option maxHeartbeats 4000000 in
set_option maxRecDepth 100000 in
theorem c_X6_frameOf_x3 {u v : SS} {g : GH} (I : CI u) {s : Nat} (hs : (s : Int) < u.1 14) {p : Nat} (hp : p < 8) (h : u.2 23 (8 * s + p) ≠ 102) : Cn yX6_frameOf (wsy yX6_frameOf cX6_frameOf 4 (some .int)) 5 1 6 nn [vR (some 1000), vI (s : Int), vI (p : Int)] (mk u v g) (.inr ("java/util/NoSuchElementException", mk u v g)) := by
  refine con_j (lv := [(0, vR (some 1000)), (1, vI (s : Int)), (2, vI (p : Int))]) (by decide) (fun ad => Nat.le_of_ble_eq_true rfl) (fun ad => rfl) rfl ?_
  intro k C hr hlv hmc hms hPo hPx htab
  have i14 := I.s14
  have ic := I.a23 (8 * s + p)
  have ir := I.a25 (8 * s + p)
  have ir2 : u.2 25 (8 * s + p) = 0 ∨ u.2 25 (8 * s + p) = 1 := by omega
  have ic2 : 0 ≤ u.2 23 (8 * s + p) ∧ u.2 23 (8 * s + p) < 65536 := by omega
  have h48 : 8 * s + p < 48 := by omega
  refine ev_s C dX6_frameOf_0 (q := 1) rfl rfl ?_
  refine ev_s C dX6_frameOf_1 (q := 2) rfl rfl ?_
  refine ev_s C dX6_frameOf_2 (q := 3) rfl rfl ?_
  refine ev_cV C dX6_frameOf_3 (q := 6) rfl km_X6_108 kv_X6_pageAt kc_X6_pageAt (c_X6_pageAt I hs hp) rfl rfl vcX6 rfl (by rw [hlv]; first | decide | omega) (by decide) (Nat.le_of_ble_eq_true rfl) (by first | exact Nat.zero_le _ | (rw [hmc]; decide) | (rw [hmc]; omega)) (by first | exact Nat.zero_le _ | (rw [hms]; decide) | (rw [hms]; omega)) ?_
  refine ev_s C dX6_frameOf_6 (q := 7) rfl rfl ?_
  refine ev_s C dX6_frameOf_7 (q := 8) rfl rfl ?_
  refine cgp_3 C dX6_frameOf_8 kf_X6_112 (q := 11) rfl (by show (_ : Int) < 8 * u.1 14; omega) ?_
  refine ev_s C dX6_frameOf_11 (q := 13) rfl rfl ?_
  refine ev_icmp_eq C dX6_frameOf_13 (tgt := 26) (q := 16) (by decide) rfl (by first | decide | (unfold rg; omega) | assumption | exact bAnd_rg _ _) (by first | decide | (unfold rg; omega) | assumption | exact bAnd_rg _ _) (fun b0 => ?_) (fun b0 => ?_)
  · exact absurd b0 h
  · exact ev_throwN C htab (is := 180) (text := "the page is in no frame") (by decide) dX6_frameOf_16 dX6_frameOf_19 dX6_frameOf_20 dX6_frameOf_22 dX6_frameOf_25 (Nat.le_of_ble_eq_true rfl) (by rw [hmc]; decide) (by rw [hms]; decide) (px_1 hPx rfl rfl)
set_option maxHeartbeats 4000000 in
set_option maxRecDepth 100000 in
theorem c_X6_storedAt_x {u v : SS} {g : GH} (I : CI u) {s : Int} (hs : rg s) (h : ¬ (0 ≤ s ∧ s < u.1 11)) : Cn yX6_storedAt (wsy yX6_storedAt cX6_storedAt 2 (some .int)) 3 1 6 nn [vR (some 1000), vI s] (mk u v g) (.inr ("java/util/NoSuchElementException", mk u v g)) := by
  refine con_j (lv := [(0, vR (some 1000)), (1, vI s)]) (by decide) (fun ad => Nat.le_of_ble_eq_true rfl) (fun ad => rfl) rfl ?_
  intro k C hr hlv hmc hms hPo hPx htab
  have i11 := I.s11
  refine ev_s C dX6_storedAt_0 (q := 1) rfl rfl ?_
  refine ev_if_lt C dX6_storedAt_1 (tgt := 18) (q := 4) (by decide) rfl (by first | decide | (unfold rg; omega) | assumption | exact bAnd_rg _ _) (fun b0 => ?_) (fun b0 => ?_)
  · exact ev_throwN C htab (is := 198) (text := "no such page in the store") (by decide) dX6_storedAt_18 dX6_storedAt_21 dX6_storedAt_22 dX6_storedAt_24 dX6_storedAt_27 (Nat.le_of_ble_eq_true rfl) (by rw [hmc]; decide) (by rw [hms]; decide) (px_1 hPx rfl rfl)
  · refine ev_s C dX6_storedAt_4 (q := 5) rfl rfl ?_
    refine ev_s C dX6_storedAt_5 (q := 6) rfl rfl ?_
    refine cg_1000_2 C dX6_storedAt_6 kf_X6_26 (q := 9) rfl ?_
    refine cg_1006_0 C dX6_storedAt_9 kf_X6_195 (q := 12) rfl ?_
    refine ev_cV C dX6_storedAt_12 (q := 15) rfl km_X6_59 kv_Jx4a65c_size_8abf5 kc_Jx4a65c_size_8abf5 (c_size_o) rfl rfl vcJx4a65c rfl (by rw [hlv]; first | decide | omega) (by decide) (Nat.le_of_ble_eq_true rfl) (by first | exact Nat.zero_le _ | (rw [hmc]; decide) | (rw [hmc]; omega)) (by first | exact Nat.zero_le _ | (rw [hms]; decide) | (rw [hms]; omega)) ?_
    refine ev_icmp_lt C dX6_storedAt_15 (tgt := 28) (q := 18) (by decide) rfl (by first | decide | (unfold rg; omega) | assumption | exact bAnd_rg _ _) (by first | decide | (unfold rg; omega) | assumption | exact bAnd_rg _ _) (fun b1 => ?_) (fun b1 => ?_)
    · exfalso; omega
    · exact ev_throwN C htab (is := 198) (text := "no such page in the store") (by decide) dX6_storedAt_18 dX6_storedAt_21 dX6_storedAt_22 dX6_storedAt_24 dX6_storedAt_27 (Nat.le_of_ble_eq_true rfl) (by rw [hmc]; decide) (by rw [hms]; decide) (px_1 hPx rfl rfl)
set_option maxHeartbeats 4000000 in
set_option maxRecDepth 100000 in
theorem c_X6_waitsFor_x2 {u v : SS} {g : GH} (I : CI u) {s : Nat} (hs : (s : Int) < u.1 14) (h : fnd (wfC u s) (u.1 14).toNat < 0) : Cn yX6_waitsFor (wsy yX6_waitsFor cX6_waitsFor 4 (some .int)) 6 1 6 nn [vR (some 1000), vI (s : Int)] (mk u v g) (.inr ("java/util/NoSuchElementException", mk u v g)) := by
  refine con_j (lv := [(0, vR (some 1000)), (1, vI (s : Int))]) (by decide) (fun ad => Nat.le_of_ble_eq_true rfl) (fun ad => rfl) rfl ?_
  intro k C hr hlv hmc hms hPo hPx htab
  have i14 := I.s14
  have h48 : s < 6 := by omega
  refine ev_s C dX6_waitsFor_0 (q := 1) rfl rfl ?_
  refine ev_s C dX6_waitsFor_1 (q := 2) rfl rfl ?_
  refine ev_cV C dX6_waitsFor_2 (q := 5) rfl km_X6_77 kv_X6_serviceAt kc_X6_serviceAt (c_X6_serviceAt I hs) rfl rfl vcX6 rfl (by rw [hlv]; first | decide | omega) (by decide) (Nat.le_of_ble_eq_true rfl) (by first | exact Nat.zero_le _ | (rw [hmc]; decide) | (rw [hmc]; omega)) (by first | exact Nat.zero_le _ | (rw [hms]; decide) | (rw [hms]; omega)) ?_
  refine ev_s C dX6_waitsFor_5 (q := 6) rfl rfl ?_
  refine ev_s C dX6_waitsFor_6 (q := 7) rfl rfl ?_
  refine ev_s C dX6_waitsFor_7 (q := 8) rfl rfl ?_
  refine l_X6_waitsFor C hlv I hs (N := (u.1 14).toNat) (by omega) (G1 := True) (fun hn => ?_) hr hPo (fun h9 => by omega) ((u.1 14).toNat + 1) 0 (Nat.zero_le _) (by omega) (fun j hj => absurd hj (Nat.not_lt_zero _))
  exact ev_throwN C htab (is := 220) (text := "all services that it needs run") (by decide) dX6_waitsFor_46 dX6_waitsFor_49 dX6_waitsFor_50 dX6_waitsFor_52 dX6_waitsFor_55 (Nat.le_of_ble_eq_true rfl) (by rw [hmc]; decide) (by rw [hms]; decide) (px_1 hPx rfl rfl)
set_option maxHeartbeats 4000000 in
set_option maxRecDepth 100000 in
theorem c_X6_victim_x {u v : SS} {g : GH} (I : CI u) (h : cwst u (u.1 14).toNat < 0) : Cn yX6_victim (wsy yX6_victim cX6_victim 2 (some .int)) 4 1 6 nn [vR (some 1000)] (mk u v g) (.inr ("java/util/NoSuchElementException", mk u v g)) := by
  refine con_j (lv := [(0, vR (some 1000))]) (by decide) (fun ad => Nat.le_of_ble_eq_true rfl) (fun ad => rfl) rfl ?_
  intro k C hr hlv hmc hms hPo hPx htab
  have i14 := I.s14
  have hcb := cwst_b u (u.1 14).toNat
  refine ev_s C dX6_victim_0 (q := 1) rfl rfl ?_
  refine ev_cV C dX6_victim_1 (q := 4) rfl km_X6_242 kv_X6_nextVictim kc_X6_nextVictim (c_X6_nextVictim I) rfl rfl vcX6 rfl (by rw [hlv]; first | decide | omega) (by decide) (Nat.le_of_ble_eq_true rfl) (by first | exact Nat.zero_le _ | (rw [hmc]; decide) | (rw [hmc]; omega)) (by first | exact Nat.zero_le _ | (rw [hms]; decide) | (rw [hms]; omega)) ?_
  rw [svo_n h]
  show EV k 4 _ (vR none :: []) _ _ _
  refine ev_s C dX6_victim_4 (q := 5) rfl rfl ?_
  refine ev_s C dX6_victim_5 (q := 6) rfl rfl ?_
  refine ev_ifnonnull C dX6_victim_6 (tgt := 19) (q := 9) (by decide) rfl (fun b0 => ?_) (fun b0 => ?_)
  · (obtain ⟨_, h9⟩ := b0; cases h9)
  · exact ev_throwN C htab (is := 246) (text := "no service is alive") (by decide) dX6_victim_9 dX6_victim_12 dX6_victim_13 dX6_victim_15 dX6_victim_18 (Nat.le_of_ble_eq_true rfl) (by rw [hmc]; decide) (by rw [hms]; decide) (px_1 hPx rfl rfl)
