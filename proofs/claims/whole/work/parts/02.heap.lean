/-! THE NAMED HEAP: a world is a function from names to cells; a cell's references are names; 'ad' says where a name lies. -/
-- abstract values: an int (by a whole number), a reference (by a name), a long, a float, a double
abbrev AV : Type := Int ⊕ (Option Nat ⊕ (Int ⊕ (UInt32 ⊕ UInt64)))
abbrev vI (x : Int) : AV := .inl x
abbrev vR (r : Option Nat) : AV := .inr (.inl r)
abbrev vL (x : Int) : AV := .inr (.inr (.inl x))
abbrev vF (x : UInt32) : AV := .inr (.inr (.inr (.inl x)))
abbrev vD (x : UInt64) : AV := .inr (.inr (.inr (.inr x)))
def iI (x : Int) : Int32 := Int32.ofInt x
def iL (x : Int) : Int64 := Int64.ofInt x
def cv (ad : Nat → Nat) (v : AV) : Value := match v with
  | .inl x => .int (iI x)
  | .inr (.inl r) => va_rf (r.map ad)
  | .inr (.inr (.inl x)) => .long (iL x)
  | .inr (.inr (.inr (.inl x))) => .float x
  | .inr (.inr (.inr (.inr x))) => .double x
def c2 (v : AV) : Bool := match v with
  | .inr (.inr (.inl _)) => true
  | .inr (.inr (.inr (.inr _))) => true
  | _ => false
theorem cv_cat (ad : Nat → Nat) (v : AV) : (cv ad v).category = if c2 v then 2 else 1 := by
  rcases v with x | (_ | r) | x | x | x <;> rfl
theorem cv_cat1 (ad : Nat → Nat) {v : AV} (h : c2 v = false) : (cv ad v).category = 1 := by rw [cv_cat, h]; rfl
abbrev AC : Type := (Nat × List AV) ⊕ (Nat × Nat × (Nat → AV))
abbrev GH : Type := Nat → Option AC
def arT (t : Nat) : FieldType := match t with
  | 0 => .int
  | 1 => .long
  | 2 => .boolean
  | 3 => .char
  | 4 => .double
  | 5 => .object "Swapyard$Page"
  | _ => .object "java/lang/Object"
def tyl (dT : Nat → ClassId) : List (ClassId × FieldType) := [(dT 0, arT 0), (dT 1, arT 1), (dT 2, arT 2), (dT 3, arT 3), (dT 4, arT 4), (dT 5, arT 5), (dT 6, arT 6)]
def nrp1 (D : va_G) (dT : Nat → ClassId) (ad : Nat → Nat) (n : Nat) (c : AC) (H : Heap) : Prop := match c with
  | .inl o => ∃ r : vw_C, vwCl[o.1]? = some r ∧ t_OB (ad n) (D.1 o.1) r.2.2 (D.2 o.1) H (vp_V (o.2.map (cv ad)))
  | .inr a => a.1 < 7 ∧ H[ad n]? = some (arrV (dT a.1) a.2.1 (fun j => cv ad (a.2.2 j)))
def nrp (D : va_G) (dT : Nat → ClassId) (ad : Nat → Nat) (G : GH) (H : Heap) : Prop := ∀ n c, G n = some c → nrp1 D dT ad n c H
def gup (G : GH) (n : Nat) (c : AC) : GH := fun j => if j = n then some c else G j
def fgn (n : Nat) : Prop := n = 500 ∨ n = 1013 ∨ n = 1014
def rfo (v : AV) : Option Nat := match v with
  | .inr (.inl r) => r
  | _ => none
def okv (G : GH) (v : AV) : Prop := ∀ n, rfo v = some n → G n ≠ none ∨ fgn n
def okc (G : GH) (c : AC) : Prop := match c with
  | .inl o => ∀ v ∈ o.2, okv G v
  | .inr a => ∀ j, j < a.2.1 → okv G (a.2.2 j)
def okG (G : GH) : Prop := (∀ n c, G n = some c → okc G c) ∧ ∀ n, fgn n → G n = none
def inj (ad : Nat → Nat) (G : GH) : Prop := ∀ a b, G a ≠ none → G b ≠ none → ad a = ad b → a = b
def ow (A : Nat → Prop) (ad : Nat → Nat) (G : GH) : Prop := ∀ n, G n ≠ none → A (ad n)
def gA (ad : Nat → Nat) (G : GH) (sz : Nat) : Nat → Prop := fun q => (∃ n, G n ≠ none ∧ ad n = q) ∨ sz ≤ q
def dcl0 : List MethodName := [⟨"java/lang/RuntimeException", "<init>", "(Ljava/lang/String;)V"⟩, ⟨"java/lang/Exception", "<init>", "(Ljava/lang/String;)V"⟩, ⟨"java/lang/Throwable", "<init>", "(Ljava/lang/String;)V"⟩]
def exl : List String := ["java/lang/IllegalArgumentException", "java/lang/IllegalStateException", "java/lang/IndexOutOfBoundsException", "java/lang/UnsupportedOperationException", "java/util/NoSuchElementException", "java/lang/ArithmeticException"]
def cstl0 : List (String × String) := [("Swapyard$Page", "java/lang/Object"), ("Swapyard$Service", "java/lang/Object"), ("java/lang/IllegalArgumentException", "java/lang/IllegalArgumentException"), ("java/lang/IllegalStateException", "java/lang/IllegalStateException"), ("java/lang/IndexOutOfBoundsException", "java/lang/IndexOutOfBoundsException"), ("java/lang/UnsupportedOperationException", "java/lang/UnsupportedOperationException"), ("java/util/NoSuchElementException", "java/util/NoSuchElementException"), ("java/lang/ArithmeticException", "java/lang/ArithmeticException")]
/-- what the tables and the constants give, and stays under every warming -/
def VF (strl : List (Nat × String)) (nst : List (Nat × MethodName × String)) (U : State) : Prop :=
  (∀ q ∈ cstl0, va_Nw (.castable q.1 q.2) U) ∧ (∀ E ∈ exl, ∀ F ∈ exl, E ≠ F → va_Nc E F U) ∧ va_AO "Swapyard$Page" U ∧ va_AO "java/lang/Object" U ∧ (∃ mi, va_Mi "[Ljava/lang/Object;" mi U) ∧ va_Dc U ∧
  (∀ q ∈ strl, ∃ a, vk_R "Swapyard" q.1 q.2 a U) ∧ (∀ q ∈ nst, va_Nw (.methodLinkNest "Swapyard" q.1 q.2.1 q.2.2) U) ∧ ∀ y ∈ dcl0, va_Nw (.declares y) U
theorem VF.warm {strl : List (Nat × String)} {nst : List (Nat × MethodName × String)} {s U : State} (hW : s.WarmedH U.vm) (h : VF strl nst s) : VF strl nst U := by
  obtain ⟨h1, h2, h3, h4, ⟨mi, h5⟩, h6, h7, h8, h9⟩ := h
  refine ⟨fun q hq => (h1 q hq).warmC hW, fun E hE F hF hn => (h2 E hE F hF hn).moved hW.alike, h3.moved hW.alike, h4.moved hW.alike, ⟨mi, h5.moved hW.alike⟩, h6.moved hW.alike, fun q hq => ?_, fun q hq => (h8 q hq).warmM hW, fun y hy => (h9 y hy).warmD hW⟩
  obtain ⟨a, ha⟩ := h7 q hq
  exact ⟨a, vk_R.warm hW ha⟩
/-- what lies in the heap and nobody writes -/
def HF (ad : Nat → Nat) (A : Nat → Prop) (U : State) (H : Heap) : Prop :=
  vx_Zq Bundle.tN "UNASSIGNED_STACK" Bundle.steD A U H ∧ vx_Zq Bundle.tN "SUPPRESSED_SENTINEL" Bundle.listD A U H ∧
  va_Z "java/util/ArrayList" "DEFAULTCAPACITY_EMPTY_ELEMENTDATA" "[Ljava/lang/Object;" (.ref (ad 1013)) A U H ∧ va_T (.object "java/lang/Object") (ad 1013) 0 (fun _ => .null) A U H ∧ va_Mi "[Ljava/lang/Object;" (ad 1014) U
theorem HF.moved {ad : Nat → Nat} {A : Nat → Prop} {u U : State} {H : Heap} (hvm : u.vm.Alike U.vm) (h : HF ad A u H) : HF ad A U H := ⟨h.1.moved hvm, h.2.1.moved hvm, h.2.2.1.moved hvm, h.2.2.2.1.moved hvm, h.2.2.2.2.moved hvm⟩
theorem HF.kept {ad : Nat → Nat} {A : Nat → Prop} {U : State} {H H1 : Heap} (h : HF ad A U H) (hq : ∀ a : Nat, a < H.size → ¬ A a → H1[a]? = H[a]?) : HF ad A U H1 := ⟨h.1.kept hq, h.2.1.kept hq, h.2.2.1.kept hq, h.2.2.2.1.kept hq, h.2.2.2.2⟩
theorem HF.narrow {ad : Nat → Nat} {A B : Nat → Prop} {U : State} {H : Heap} (h : HF ad A U H) (hAB : ∀ q, B q → A q) : HF ad B U H := ⟨h.1.narrow hAB, h.2.1.narrow hAB, h.2.2.1.narrow hAB, h.2.2.2.1.narrow hAB, h.2.2.2.2⟩
theorem HF.ad {ad ad' : Nat → Nat} {A : Nat → Prop} {U : State} {H : Heap} (h : HF ad A U H) (e : ad' 1013 = ad 1013) (e2 : ad' 1014 = ad 1014) : HF ad' A U H := by
  unfold HF at h ⊢
  rw [e, e2]
  exact h
-- the words: one list for every method
def lw_good : List Cond := lw_tbl.filter goodWord
theorem lw_goodIn : GoodIn lw_good lw_good := fun w h => ⟨h, good_of_word (List.mem_filter.mp h).2⟩
theorem q9 {w : Cond} (i : Nat) (h : tables_1[i]? = some w) (hg : goodWord w = true) : w ∈ lw_good := List.mem_filter.mpr ⟨List.mem_append_right _ (List.mem_of_getElem? h), hg⟩
theorem q8 {w : Cond} (i : Nat) (h : (k2_sels lw_privs)[i]? = some w) (hg : goodWord w = true) : w ∈ lw_good := List.mem_filter.mpr ⟨List.mem_append_left _ (List.mem_of_getElem? h), hg⟩
def strl0 : List (Nat × String) := [(54, "no such policy"), (65, "no more services"), (85, "a service does not need itself"), (97, "the other one needs this one"), (118, "the page is in the store"), (146, "the service does not run"), (180, "the page is in no frame"), (198, "no such page in the store"), (208, "no such place"), (220, "all services that it needs run"), (225, "the service is not dead"), (246, "no service is alive"), (256, "no touches"), (272, "out of range"), (276, "no such service"), (283, "no such page")]
def nst0 : List (Nat × MethodName × String) := [(11, ⟨"Swapyard$History", "<init>", "()V"⟩, "Swapyard"), (18, ⟨"Swapyard$Frames", "<init>", "()V"⟩, "Swapyard"), (25, ⟨"Swapyard$Store", "<init>", "()V"⟩, "Swapyard"), (32, ⟨"Swapyard$RecentStalls", "<init>", "()V"⟩, "Swapyard")]
def rmk (lev mc ms : Nat) : Room := { frames := 20 + 2 * lev, cells := mc, slots := ms, locals := 300 + 60 * lev }
/-- the end of a method: the heap holds G', at ad' -/
def FN (D : va_G) (dT : Nat → ClassId) (ad : Nat → Nat) (nw : Nat → Prop) (G : GH) (A : Nat → Prop) (G' : GH) (ad' : Nat → Nat) (st t : State) : Prop :=
  okG G' ∧ nrp D dT ad' G' t.heap ∧ inj ad' G' ∧ ow A ad' G' ∧ (∀ n, ¬ nw n → ad' n = ad n) ∧ (∀ n, G n ≠ none → G' n ≠ none) ∧ va_F A st t
def QN (D : va_G) (dT : Nat → ClassId) (ad : Nat → Nat) (nw : Nat → Prop) (G : GH) (A : Nat → Prop) (Po : Option AV → GH → Prop) : Array Value → State → Outcome → State → Prop := fun _ st o t =>
  ∃ (r : Option AV) (G' : GH) (ad' : Nat → Nat), o = .returned (r.map (cv ad')) ∧ Po r G' ∧ (∀ v, r = some v → okv G' v) ∧ FN D dT ad nw G A G' ad' st t
def XN (D : va_G) (dT : Nat → ClassId) (ad : Nat → Nat) (nw : Nat → Prop) (G : GH) (A : Nat → Prop) (Px : String → GH → Prop) : String → State → State → Prop := fun E st t =>
  ∃ (G' : GH) (ad' : Nat → Nat), Px E G' ∧ FN D dT ad nw G A G' ad' st t
def PN (D : va_G) (dT : Nat → ClassId) (ad : Nat → Nat) (G : GH) (av : List AV) (sz : Nat) : Array Value → State → Prop :=
  va_Pc (av.map (cv ad)) (fun U => U.heap.size = sz ∧ okG G ∧ (∀ v ∈ av, okv G v) ∧ nrp D dT ad G U.heap ∧ inj ad G ∧ va_K D vwCl (tyl dT) U ∧ HF ad (gA ad G sz) U U.heap ∧ VF strl0 nst0 U)
theorem PN.blind {D : va_G} {dT : Nat → ClassId} {ad : Nat → Nat} {G : GH} {av : List AV} {sz : Nat} : FrameBlind (PN D dT ad G av sz) := by
  intro a U g mk h
  obtain ⟨h0, h1, h2, h3, h4, h5, h6, h7, h8⟩ := h
  exact ⟨h0, h1, h2, h3, h4, h5, va_K.moved (u := U) (U := U.calling g mk a) (Vm.Alike.refl U.vm) h6, HF.moved (u := U) (U := U.calling g mk a) (Vm.Alike.refl U.vm) h7, VF.warm (s := U) (U := U.calling g mk a) (State.WarmedH.refl U) h8⟩
def wsy (y : MethodName) (bytes : ByteArray) (maxL : Nat) (ret : Option FieldType) : List Cond := .code y bytes maxL ret :: lw_good
def wsh (y : MethodName) (bytes : ByteArray) (maxL : Nat) (ret : Option FieldType) (hh : List (Nat × Nat × Nat × Nat)) : List Cond := .codeWith y bytes maxL ret hh :: lw_good
/-- A METHOD'S CONTRACT: from every heap that holds G, with the arguments av: it returns with Po, or throws E with Px E -/
def Con (y : MethodName) (ws : List Cond) (lev mc ms : Nat) (nw : Nat → Prop) (av : List AV) (G : GH) (Po : Option AV → GH → Prop) (Px : String → GH → Prop) : Prop :=
  ∀ (l : Launch) (D : va_G) (dT : Nat → ClassId) (ad : Nat → Nat) (sz : Nat), l.stackTraces = false →
    vx_Met l y ws (rmk lev mc ms) (PN D dT ad G av sz) (QN D dT ad nw G (gA ad G sz) Po) (XN D dT ad nw G (gA ad G sz) Px) mc ms (gA ad G sz)
/-! THE JUDGEMENT IN A METHOD'S BODY -/
/-- the method's entry: machine, launch .., class ids, the names' places, the heap at the start, room, ends -/
abbrev Kx : Type := (Program × Launch × Env × State × MethodId × Array Value × List Frame × Method × Code) × (va_G × (Nat → ClassId) × (Nat → Nat) × GH × (Nat → Prop)) × (Nat × Nat × Nat × (Nat → Prop)) × ((Option AV → GH → Prop) × (String → GH → Prop))
def kp (k : Kx) : Program := k.1.1
def kl (k : Kx) : Launch := k.1.2.1
def ke (k : Kx) : Env := k.1.2.2.1
def ks (k : Kx) : State := k.1.2.2.2.1
def km (k : Kx) : MethodId := k.1.2.2.2.2.1
def ka (k : Kx) : Array Value := k.1.2.2.2.2.2.1
def kb (k : Kx) : List Frame := k.1.2.2.2.2.2.2.1
def kmeth (k : Kx) : Method := k.1.2.2.2.2.2.2.2.1
def kc (k : Kx) : Code := k.1.2.2.2.2.2.2.2.2
def kD (k : Kx) : va_G := k.2.1.1
def kdT (k : Kx) : Nat → ClassId := k.2.1.2.1
def kad (k : Kx) : Nat → Nat := k.2.1.2.2.1
def kG (k : Kx) : GH := k.2.1.2.2.2.1
def kA (k : Kx) : Nat → Prop := k.2.1.2.2.2.2
def klev (k : Kx) : Nat := k.2.2.1.1
def kmc (k : Kx) : Nat := k.2.2.1.2.1
def kms (k : Kx) : Nat := k.2.2.1.2.2.1
def knw (k : Kx) : Nat → Prop := k.2.2.1.2.2.2
def kPo (k : Kx) : Option AV → GH → Prop := k.2.2.2.1
def kPx (k : Kx) : String → GH → Prop := k.2.2.2.2
def kR (k : Kx) : Room := rmk (klev k) (kmc k) (kms k)
def kQ (k : Kx) : State → Prop := vx_MQ (kb k) (QN (kD k) (kdT k) (kad k) (knw k) (kG k) (kA k) (kPo k)) (XN (kD k) (kdT k) (kad k) (knw k) (kG k) (kA k) (kPx k)) (ka k) (ks k) (kmc k) (kms k) (kA k)
/-- what holds throughout the body -/
def CX (k : Kx) (own : String) (cc : ByteArray) (nL : Nat) : Prop :=
  (kp k).tables.exec = Jvm.exec ∧ (kc k).code = cc ∧ (kc k).maxLocals = nL ∧ (ks k).vm.findClass own = some (km k).cls ∧ (∀ w ∈ lw_good, w.before (ka k) (ks k) = true) ∧ (kmeth k).locks = false ∧
  (kl k).stackTraces = false ∧ va_K (kD k) vwCl (tyl (kdT k)) (ks k) ∧ HF (kad k) (kA k) (ks k) (ks k).heap ∧ VF strl0 nst0 (ks k) ∧ (∀ q, (ks k).heap.size ≤ q → kA k q) ∧ ¬ knw k 1013 ∧ ¬ knw k 500 ∧ ¬ knw k 1014
/-- the heap at a point of the body -/
def MS (k : Kx) (ad : Nat → Nat) (G : GH) (H : Heap) (locs : List Loc) : Prop :=
  nrp (kD k) (kdT k) ad G H ∧ inj ad G ∧ ow (kA k) ad G ∧ (∀ n, ¬ knw k n → ad n = kad k n) ∧ (∀ n, kG k n ≠ none → G n ≠ none) ∧ va_S (kA k) (ks k).heap H locs
def WK (k : Kx) (H : Heap) (locs : List Loc) (ct sl pc : Nat) (ls : Array Slot) (st : List Value) : Prop :=
  W (kp k) (kl k) (ke k) (kR k) (ks k) (km k) (ka k) (kb k) (kmeth k) (kc k) H locs ct sl (kQ k) (F0 (km k) pc ls st)
def cvl (ad : Nat → Nat) (lv : List (Nat × AV)) : List (Nat × Value) := lv.map (fun q => (q.1, cv ad q.2))
def OKS (G : GH) (lv : List (Nat × AV)) (st : List AV) : Prop := okG G ∧ (∀ q ∈ lv, okv G q.2) ∧ ∀ v ∈ st, okv G v
def EV (k : Kx) (pc : Nat) (lv : List (Nat × AV)) (st : List AV) (G : GH) (ct sl : Nat) : Prop :=
  OKS G lv st → ∀ (ad : Nat → Nat) (H : Heap) (locs : List Loc) (ls : Array Slot), MS k ad G H locs → lv_has ls (kc k).maxLocals (cvl ad lv) → WK k H locs ct sl pc ls (st.map (cv ad))
/-- an exception of class E is on its way, thrown by the instruction at pc -/
def EX (k : Kx) (E : String) (pc : Nat) (lv : List (Nat × AV)) (G : GH) (ct sl : Nat) : Prop :=
  OKS G lv [] → ∀ (ad : Nat → Nat) (H : Heap) (locs : List Loc) (ls : Array Slot) (rest : List Value) (q : Addr) (ce : Cell), MS k ad G H locs → lv_has ls (kc k).maxLocals (cvl ad lv) → H[q]? = some ce → ce.vm = .none → (ks k).vm.findClass E = some ce.cls →
    vx_W (kp k) (kl k) (ke k) (kR k) (ks k) (km k) (ka k) (kb k) (kmeth k) (kc k) H locs ct sl (kQ k) (F0 (km k) pc ls rest) q
theorem con_i {y : MethodName} {cc : ByteArray} {nL : Nat} {ret : Option FieldType} {lev mc ms : Nat} {nw : Nat → Prop} {av : List AV} {G : GH} {Po : Option AV → GH → Prop} {Px : String → GH → Prop} (hy : plainName y.cls = true) (hnw : ¬ nw 1013 ∧ ¬ nw 500 ∧ ¬ nw 1014) (hlen : ∀ ad, (lg_sl (av.map (cv ad))).length ≤ nL)
    {lv : List (Nat × AV)} (hlv : ∀ ad, lv_args 0 (av.map (cv ad)) = cvl ad lv) (hlo : ∀ q ∈ lv, q.2 ∈ av)
    (body : ∀ k : Kx, CX k y.cls cc nL → (kmeth k).sig.returnType = ret → (kmeth k).name = y.name → kG k = G → klev k = lev → kmc k = mc → kms k = ms → knw k = nw → kPo k = Po → kPx k = Px → (∀ x ∈ (kc k).exceptionTable.toList, False) → EV k 0 lv [] G 0 0) : Con y (wsy y cc nL ret) lev mc ms nw av G Po Px := by
  intro l D dT ad sz hl
  refine vx_ofW (cc := cc) (maxL := nL) (ret := ret) hy rfl ?_
  intro p e s m args below meth c s₁ B hml htab hv
  obtain ⟨rfl, hsz, hok, hav, hrp, hinj, hK, hH, hV⟩ := hv
  subst hsz
  have hts := atoms_spec (ws := wsy y cc nL ret) B.pre
  have hC : CX ((p, l, e, s, m, (av.map (cv ad)).toArray, below, meth, c), (D, dT, ad, G, gA ad G s.heap.size), (lev, mc, ms, nw), (Po, Px)) y.cls cc nL :=
    ⟨B.exec, B.bytes, hml, findClass_of_methodNamed B.named, fun w h => hts w (List.mem_cons_of_mem _ h), B.notSynchronized, hl, hK, hH, hV, fun q h => Or.inr h, hnw.1, hnw.2⟩
  have hl1 := lv_entry (av.map (cv ad)) (n := nL) (hlen ad)
  rw [hlv ad] at hl1
  rw [lg_entry_eq]
  have hE := body _ hC B.returns (name_of_methodNamed B.named B.method).1 rfl rfl rfl rfl rfl rfl rfl htab ⟨hok, fun q hq => hav _ (hlo q hq), fun v hv => nomatch hv⟩ ad s.heap []
    ((lg_sl (av.map (cv ad)) ++ List.replicate (nL - (lg_sl (av.map (cv ad))).length) Slot.unset).toArray)
    ⟨hrp, hinj, fun n hn => Or.inl ⟨n, hn, rfl⟩, fun _ _ => rfl, fun _ h => h, va_S.rf⟩ (by show lv_has _ c.maxLocals _; rw [hml]; exact hl1)
  exact hE
theorem con_h {y : MethodName} {cc : ByteArray} {nL : Nat} {ret : Option FieldType} {hh : List (Nat × Nat × Nat × Nat)} {lev mc ms : Nat} {nw : Nat → Prop} {av : List AV} {G : GH} {Po : Option AV → GH → Prop} {Px : String → GH → Prop} (hy : plainName y.cls = true) (hcw : Cond.codeWith y cc nL ret hh ∈ lw_good) (hnw : ¬ nw 1013 ∧ ¬ nw 500 ∧ ¬ nw 1014) (hlen : ∀ ad, (lg_sl (av.map (cv ad))).length ≤ nL)
    {lv : List (Nat × AV)} (hlv : ∀ ad, lv_args 0 (av.map (cv ad)) = cvl ad lv) (hlo : ∀ q ∈ lv, q.2 ∈ av)
    (body : ∀ k : Kx, CX k y.cls cc nL → (kmeth k).sig.returnType = ret → (kmeth k).name = y.name → kG k = G → klev k = lev → kmc k = mc → kms k = ms → knw k = nw → kPo k = Po → kPx k = Px → (kc k).exceptionTable.toList = tableOf hh → EV k 0 lv [] G 0 0) : Con y (wsh y cc nL ret hh) lev mc ms nw av G Po Px := by
  intro l D dT ad sz hl
  refine vx_ofWH (cc := cc) (maxL := nL) (ret := ret) (hh := hh) hy rfl ?_
  intro p e s m args below meth c s₁ B hml hv
  obtain ⟨rfl, hsz, hok, hav, hrp, hinj, hK, hH, hV⟩ := hv
  subst hsz
  have hts := atoms_spec (ws := wsh y cc nL ret hh) B.pre
  have htab := vx_table (x := y) B (hts _ List.mem_cons_self)
  have hC : CX ((p, l, e, s, m, (av.map (cv ad)).toArray, below, meth, c), (D, dT, ad, G, gA ad G s.heap.size), (lev, mc, ms, nw), (Po, Px)) y.cls cc nL :=
    ⟨B.exec, B.bytes, hml, findClass_of_methodNamed B.named, fun w h => hts w (List.mem_cons_of_mem _ h), B.notSynchronized, hl, hK, hH, hV, fun q h => Or.inr h, hnw.1, hnw.2⟩
  have hl1 := lv_entry (av.map (cv ad)) (n := nL) (hlen ad)
  rw [hlv ad] at hl1
  rw [lg_entry_eq]
  have hE := body _ hC B.returns (name_of_methodNamed B.named B.method).1 rfl rfl rfl rfl rfl rfl rfl htab ⟨hok, fun q hq => hav _ (hlo q hq), fun v hv => nomatch hv⟩ ad s.heap []
    ((lg_sl (av.map (cv ad)) ++ List.replicate (nL - (lg_sl (av.map (cv ad))).length) Slot.unset).toArray)
    ⟨hrp, hinj, fun n hn => Or.inl ⟨n, hn, rfl⟩, fun _ _ => rfl, fun _ h => h, va_S.rf⟩ (by show lv_has _ c.maxLocals _; rw [hml]; exact hl1)
  exact hE
-- what a site of the code needs of the words
def FLk (own : String) (index ci j : Nat) (fin : Nat) (ty : FieldType) : Prop :=
  ∃ (C : String) (T : u_T) (N : Nat) (tyf : Nat → FieldType) (ref : String), vwCl[ci]? = some (C, T, N) ∧ (∀ w ∈ u_ws C T N, w ∈ lw_good) ∧ j < N ∧ (∀ i, i < N → parseFieldDescriptor (T i).2.2.1 = some (tyf i)) ∧ (∀ a, a < N → ∀ b, b < N → a ≠ b → (T a).2.1 ≠ (T b).2.1) ∧
    Cond.fieldLink own index ref (T j).2.1 (T j).2.2.1 ∈ lw_good ∧ (ref = (T j).1 ∨ Cond.sameField ref (T j).1 (T j).2.1 (T j).2.2.1 ∈ lw_good) ∧ (T j).2.2.2 = (fin != 0) ∧ (fin = 1 → (T j).1 = own) ∧ parseFieldDescriptor (T j).2.2.1 = some ty
def NWk (own : String) (index ci N : Nat) (fs : List AV) : Prop :=
  ∃ (C : String) (T : u_T) (tyf : Nat → FieldType), vwCl[ci]? = some (C, T, N) ∧ (∀ w ∈ u_ws C T N, w ∈ lw_good) ∧ (∀ i, i < N → parseFieldDescriptor (T i).2.2.1 = some (tyf i)) ∧ Cond.classLink own index C ∈ lw_good ∧ Cond.instantiable C N ∈ lw_good ∧ Cond.initialized C ∈ lw_good ∧
    (∀ ad j, j < N → defaultValue (tyf j) = vp_V (fs.map (cv ad)) j) ∧ ∀ v ∈ fs, rfo v = none
def MLk (own : String) (index : Nat) (y : MethodName) (na : Nat) : Prop :=
  Cond.methodLink own index y ∈ lw_good ∧ Cond.initialized y.cls ∈ lw_good ∧ (y.cls ≠ "java/lang/invoke/MethodHandle" ∧ y.cls ≠ "java/lang/invoke/VarHandle" ∧ (parseMethodDescriptor y.desc).map (fun d => d.parameters.length) = some na)
def MLv (y : MethodName) : Prop := Cond.instanceMethod y ∈ lw_good ∧ Cond.selects y.cls y y ∈ lw_good
def rtx : List String := ["java/lang/RuntimeException", "java/lang/Exception"]
def TLk (ik ic : Nat) (cls : String) : Prop :=
  Bundle.fit cls = true ∧ Cond.classLink "Swapyard" ik cls ∈ lw_good ∧ Cond.initialized cls ∈ lw_good ∧ (cls, cls) ∈ cstl0 ∧ (∀ w ∈ (vx_atS "Swapyard" ic cls rtx).filter goodWord, w ∈ lw_good) ∧ (∀ w ∈ (vx_atS "Swapyard" ic cls rtx).filter (fun w => !goodWord w), w ∈ Cond.castable cls cls :: dcl0.map Cond.declares) ∧ ∀ w ∈ Cond.classLink "Swapyard" ik cls :: Cond.initialized cls :: vx_atS "Swapyard" ic cls rtx, vx_ot w = true
