/-! THE LAW'S ENTRY: the walk, from the entry to the end -/
section LF
variable {p : Program} {l : Launch} {e : Env} {R R' : Room} {s : State} {m : MethodId} {args : Array Value} {below : List Frame} {meth : Method} {c : Code} {H : Heap} {locs : List Loc} {cells slots : Nat} {Q Q' : State → Prop} {g : JFrame}
theorem w_end (h : ∀ t, Q t → Q' t) (k : W p l e R s m args below meth c H locs cells slots Q g) : W p l e R s m args below meth c H locs cells slots Q' g := by
  intro T hT X
  obtain ⟨t, a, q⟩ := k T hT X
  exact ⟨t, a, h t q⟩
theorem room_less {pl : Platform} (h1 : R'.frames ≤ R.frames) (h2 : R'.cells ≤ R.cells) (h3 : R'.slots ≤ R.slots) (h4 : R'.locals ≤ R.locals) (h : s.hasRoom pl R = true) : s.hasRoom pl R' = true := by
  simp only [State.hasRoom, Bool.and_eq_true, decide_eq_true_eq] at h ⊢
  obtain ⟨⟨⟨⟨a1, a2, a3, a4, a5, a6⟩, b1⟩, b2⟩, b3⟩ := h
  refine ⟨⟨⟨⟨?_, ?_, ?_, ?_, ?_, a6⟩, ?_⟩, ?_⟩, b3⟩ <;> omega
theorem w_room (h1 : R'.frames ≤ R.frames) (h2 : R'.cells ≤ R.cells) (h3 : R'.slots ≤ R.slots) (h4 : R'.locals ≤ R.locals) (k : W p l e R' s m args below meth c H locs cells slots Q g) : W p l e R s m args below meth c H locs cells slots Q g := by
  intro T hT X
  exact k T hT ⟨X.admits, X.cas, X.clock, X.frames, room_less h1 h2 h3 h4 X.room, X.hears, X.method, X.code, X.here, X.tail, X.warmed, X.limits, X.bytes, X.same⟩
end LF
set_option maxHeartbeats 4000000 in
set_option maxRecDepth 100000 in
theorem lw_W {p : Program} {l : Launch} {e : Env} {s : State} {m : MethodId} {below : List Frame} {meth : Method} {c : Code} {b L : Nat} {xs : Nat → Int32} (hl : l.stackTraces = false) (hL : L ≤ 2048) (hx : p.tables.exec = Jvm.exec) (hb : c.code = code) (hr : meth.sig.returnType = some .boolean) (hml : c.maxLocals = 9) (hown : s.vm.findClass RL = some m.cls) (hts : ∀ w ∈ lw_tbl, w.before #[Value.ref b] s = true) (hX : va_X b L xs s s.heap) (hbl : b < s.heap.size) (hlk : meth.locks = false) (hg : (Jvm.Cond.and given_1 narrow_1).before #[Value.ref b] s = true) :
    ∃ (D : va_G) (dT : Nat → ClassId) (ad : Nat → Nat), W p l e (rmk 20 603072 7202922) s m #[Value.ref b] below meth c s.heap [] 0 0 (vx_MQ below (QN D dT ad nwW g00 (fun q => s.heap.size ≤ q) (fun r _ => r = some (vI 1))) (XN D dT ad nwW g00 (fun q => s.heap.size ≤ q) (fun _ _ => False)) #[Value.ref b] s 603072 7202922 (fun q => s.heap.size ≤ q)) (entryFrame m ([Value.ref b] : List Value).toArray 9) := by
  obtain ⟨D, dT, hK⟩ := le_K hts
  obtain ⟨t0, mi, hH⟩ := le_HF (A := fun q => s.heap.size ≤ q) hts hg (fun a ha h => Nat.not_le.mpr ha h)
  have hV := le_VF hts hg
  have e1 : (fun n => if n = 500 then b else if n = 1013 then t0 else mi : Nat → Nat) 500 = b := rfl
  refine ⟨D, dT, fun n => if n = 500 then b else if n = 1013 then t0 else mi, ?_⟩
  have X : LX ((p, l, e, s, m, #[Value.ref b], below, meth, c), (D, dT, (fun n => if n = 500 then b else if n = 1013 then t0 else mi : Nat → Nat), g00, fun q => s.heap.size ≤ q), (20, 603072, 7202922, nwW), (fun r _ => r = some (vI 1), fun _ _ => False)) b L xs :=
    ⟨⟨hx, hb, hml, hown, fun w hw => hts w (List.mem_filter.mp hw).1, hlk, hl, hK, hH _ rfl rfl, hV, fun q h => h, fun h => h.2.1 rfl, fun h => h.1 rfl, fun h => h.2.2 rfl⟩, hr, rfl, rfl, rfl, rfl, fun _ => rfl, hX, hbl, fun h => Nat.not_le.mpr hbl h, rfl, hL⟩
  have hl1 := lv_entry [Value.ref b] (n := 9) (Nat.le_of_ble_eq_true rfl)
  rw [lg_entry_eq]
  have hO : OKS g00 [(0, vR (some 500))] [] := by
    refine ⟨⟨fun n c h => (nomatch (show g00 n = some c from h)), fun n _ => rfl⟩, fun q hq => ?_, fun v hv => (nomatch hv)⟩
    cases List.mem_singleton.mp hq
    intro n h
    cases h
    exact Or.inr (Or.inl rfl)
  have hE := lw_body X SIM_0 hO (fun n => if n = 500 then b else if n = 1013 then t0 else mi : Nat → Nat) s.heap []
    ((lg_sl [Value.ref b] ++ List.replicate (9 - (lg_sl [Value.ref b]).length) Slot.unset).toArray)
    ⟨fun n c h => (nomatch (show g00 n = some c from h)), fun a b h => absurd rfl h, fun n h => absurd rfl h, fun _ _ => rfl, fun _ h => h, va_S.rf⟩ (by show lv_has _ c.maxLocals _; rw [hml]; exact hl1)
  exact hE
