/-! TOGETHER: both sides after some calls -/
def BD (v : SS) (t : Int) : Prop := v.1 19 ≤ 50 * t ∧ v.1 25 ≤ 50 * t ∧ (∀ j, v.2 6 j ≤ 50 * t) ∧ v.1 22 ≤ t ∧ v.1 23 ≤ t ∧ v.1 24 ≤ 310 * t ∧ (∀ j, v.2 8 j ≤ 310 * t) ∧ (∀ j, v.2 20 j ≤ 310 * t) ∧ v.1 21 ≤ 6000 * t
def SIM (t : Int) (u v : SS) : Prop := 0 ≤ t ∧ SM u v (4 * v.1 22) ∧ BD v t ∧ (u.1 15 = 0 ∨ u.1 15 = 10)
section SI
variable {t : Int} {u v : SS}
theorem SIM.sm (S : SIM t u v) : SM u v (4 * v.1 22) := S.2.1
theorem SIM.bd (S : SIM t u v) : BD v t := S.2.2.1
theorem SIM.cap (S : SIM t u v) : u.1 15 = 0 ∨ u.1 15 = 10 := S.2.2.2
theorem SIM.ci (S : SIM t u v) : CI u := S.sm.ci
theorem SIM.mi (S : SIM t u v) : MI v := S.sm.mi
theorem SIM.n (S : SIM t u v) : u.1 14 = v.1 0 := S.sm.pg.n
theorem SIM.b4 (S : SIM t u v) (ht : t ≤ 511) : 4 * v.1 22 ≤ 2044 := by
  have := S.bd.2.2.2.1
  omega
theorem SIM.m21 (S : SIM t u v) (ht : t ≤ 511) : v.1 21 ≤ 3066000 := by
  have := S.bd.2.2.2.2.2.2.2.2
  omega
theorem SIM.bg (S : SIM t u v) (ht : t ≤ 511) : BG v 51 := by
  obtain ⟨b1, b2, b3, -⟩ := S.bd
  exact ⟨by omega, by omega, fun j => by have := b3 j; omega⟩
theorem SIM.cbg (S : SIM t u v) (ht : t ≤ 511) : cBG u 51 := by
  obtain ⟨b1, b2, b3⟩ := S.bg ht
  have V := S.sm.sv
  exact ⟨by rw [V.s1]; exact b1, by rw [V.s2]; exact b2, fun j => by rw [V.a18]; exact b3 j⟩
theorem SIM.bt (S : SIM t u v) (ht : t ≤ 511) : BT v := by
  obtain ⟨-, -, -, b4, b5, b6, b7, b8, -⟩ := S.bd
  exact ⟨fun j => by have := b8 j; omega, fun j => by have := b7 j; omega, by omega, by omega, by omega⟩
theorem SIM.cbt (S : SIM t u v) (ht : t ≤ 511) : cBT u := by
  obtain ⟨b1, b2, b3, b4, b5⟩ := S.bt ht
  have V := S.sm.sv
  exact ⟨by rw [V.s3]; exact b4, by rw [V.s4]; exact b5, by rw [V.s5]; exact b3, fun j => by rw [V.a19]; exact b2 j, by rw [S.sm.wn 0 (by decide)]; exact b1 _⟩
theorem BD_c {v' : SS} (h0 : 0 ≤ t) (b : BD v t) (h1 : ∀ k : Nat, k = 19 ∨ (22 ≤ k ∧ k < 26) → v'.1 k = v.1 k) (h2 : ∀ a j : Nat, a = 6 ∨ a = 8 ∨ a = 20 → v'.2 a j = v.2 a j) (h3 : v'.1 21 ≤ v.1 21 + 6000) : BD v' (t + 1) := by
  obtain ⟨b1, b2, b3, b4, b5, b6, b7, b8, b9⟩ := b
  refine ⟨by rw [h1 19 (by decide)]; omega, by rw [h1 25 (by decide)]; omega, fun j => by rw [h2 6 j (by decide)]; have := b3 j; omega, by rw [h1 22 (by decide)]; omega, by rw [h1 23 (by decide)]; omega, by rw [h1 24 (by decide)]; omega, fun j => by rw [h2 8 j (by decide)]; have := b7 j; omega, fun j => by rw [h2 20 j (by decide)]; have := b8 j; omega, by omega⟩
theorem SIM_26 {x : Int} (S : SIM t u v) (hx : 0 ≤ x ∧ x ≤ 10) : SIM t u (stS v 26 x) := ⟨S.1, SM_26 S.sm hx, S.bd, S.cap⟩
theorem SIM_up (S : SIM t u v) : SIM (t + 1) u v := ⟨by have := S.1; omega, S.sm, BD_c S.1 S.bd (fun _ _ => rfl) (fun _ _ _ => rfl) (by omega), S.cap⟩
theorem SIM_1 {x : Int} (S : SIM t u v) (hx : 0 ≤ x ∧ x ≤ 10) : SIM (t + 1) u (stS v 26 x) := SIM_up (SIM_26 S hx)
theorem SIM_2 {x : Int} (S : SIM t u v) (hx : 0 ≤ x ∧ x ≤ 10) : SIM (t + 1) u (stS (stS v 26 0) 26 x) := SIM_up (SIM_26 (SIM_26 S (by decide)) hx)
theorem SIM_c {u' v' : SS} (S : SIM t u v) (M : SM u' v' (4 * v'.1 22)) (h1 : ∀ k : Nat, k = 19 ∨ (22 ≤ k ∧ k < 26) → v'.1 k = v.1 k) (h2 : ∀ a j : Nat, a = 6 ∨ a = 8 ∨ a = 20 → v'.2 a j = v.2 a j) (h3 : v'.1 21 ≤ v.1 21 + 6000) (h4 : u'.1 15 = 0 ∨ u'.1 15 = 10) : SIM (t + 1) u' v' :=
  ⟨by have := S.1; omega, M, BD_c S.1 S.bd h1 h2 h3, h4⟩
/-- the history is gone through: nothing else changes -/
theorem SIM_rp (S : SIM t u v) : SIM t (rpM u) v := by
  have M := S.sm
  have V := M.sv
  have e : ∀ a, a ≠ 1 → (rpM u).2 a = u.2 a := fun a h => by funext j; exact rpM_A h
  refine ⟨S.1, ⟨PG_c M.pg (CI_rp M.ci) M.mi rpM_S rpM_S rpM_S rpM_S (e _ (by decide)) (e _ (by decide)) (e _ (by decide)) (e _ (by decide)) (e _ (by decide)) (e _ (by decide)) rfl rfl rfl rfl rfl rfl rfl rfl rfl, HP_c M.hp rpM_S rpM_S (e _ (by decide)) (e _ (by decide)), M.tk, ⟨by rw [rpM_S]; exact M.hd, M.hf⟩, ⟨fun j => by rw [e _ (by decide)]; exact V.a11 j, fun j => by rw [e _ (by decide)]; exact V.a12 j, fun j => by rw [e _ (by decide)]; exact V.a13 j, fun j => by rw [e _ (by decide)]; exact V.a15 j, fun j => by rw [e _ (by decide)]; exact V.a16 j, fun j => by rw [e _ (by decide)]; exact V.a17 j, fun j => by rw [e _ (by decide)]; exact V.a18 j, fun j => by rw [e _ (by decide)]; exact V.a19 j, by rw [rpM_S]; exact V.s0, by rw [rpM_S]; exact V.s1, by rw [rpM_S]; exact V.s2, by rw [rpM_S]; exact V.s3, by rw [rpM_S]; exact V.s4, by rw [rpM_S]; exact V.s5⟩, fun j hj => by rw [e _ (by decide)]; exact M.wn j hj, M.po, M.nb, M.rk⟩, S.bd, by rw [rpM_S]; exact S.cap⟩
end SI
/-! ticks keep the bounds -/
theorem tkM_19 {v : SS} : (tkM v).1 19 = v.1 19 + 1 := by
  unfold tkM
  rw [stl_S]
  show (tkA v).1 19 + 1 = _
  rw [tkA_S (by decide) (by decide)]
theorem tkM_6 {v : SS} {j : Nat} : (tkM v).2 6 j ≤ v.2 6 j + 1 := by
  unfold tkM
  have h := stl_6 (m := (v.1 0).toNat) (z := 0) (v := tkB (tkA v)) (j := j)
  have e : (tkB (tkA v)).2 6 j = v.2 6 j := by
    show (stA (stS (tkA v) 19 _) 20 _ 0).2 6 j = _
    rw [stA_o (by decide)]
    show (tkA v).2 6 j = _
    exact tkA_A (by decide) (by decide) (by decide) (by decide) (by decide) (by decide) (by decide)
  rw [e] at h
  exact h
theorem tkM_8 {v : SS} {j : Nat} : (tkM v).2 8 j = v.2 8 j := by
  unfold tkM
  rw [stl_A (by decide) (by decide)]
  show (stA (stS (tkA v) 19 _) 20 _ 0).2 8 j = _
  rw [stA_o (by decide)]
  show (tkA v).2 8 j = _
  exact tkA_A (by decide) (by decide) (by decide) (by decide) (by decide) (by decide) (by decide)
theorem tkM_20 {v : SS} {b : Int} (h0 : 0 ≤ b) (h : ∀ j, v.2 20 j ≤ b) (j : Nat) : (tkM v).2 20 j ≤ b := by
  unfold tkM
  rw [stl_A (by decide) (by decide)]
  show (stA (stS (tkA v) 19 ((tkA v).1 19 + 1)) 20 (((tkA v).1 19 + 1) % 4).toNat 0).2 20 j ≤ b
  rw [stA_e]
  split
  · exact h0
  · show (tkA v).2 20 j ≤ b
    unfold tkA
    split
    · rw [zr_20]
      split
      · exact h0
      · split
        · rw [kM_A (by decide) (by decide) (by decide) (by decide) (by decide) (by decide)]; exact h j
        · exact h j
    · exact h j
theorem tki_b {v : SS} {b : Int} (h0 : 0 ≤ b) (h : ∀ j, v.2 20 j ≤ b) : ∀ n : Nat, (tki v n).1 19 = v.1 19 + n ∧ (∀ j, (tki v n).2 6 j ≤ v.2 6 j + n) ∧ (∀ j, (tki v n).2 8 j = v.2 8 j) ∧ (∀ j, (tki v n).2 20 j ≤ b) ∧ ∀ k, k ≠ 16 → k ≠ 25 → k ≠ 19 → (tki v n).1 k = v.1 k
  | 0 => ⟨by show v.1 19 = v.1 19 + 0; omega, fun j => by show v.2 6 j ≤ v.2 6 j + 0; omega, fun _ => rfl, h, fun _ _ _ _ => rfl⟩
  | n + 1 => by
    obtain ⟨a, c, d, e, f⟩ := tki_b h0 h n
    rw [tki_s]
    refine ⟨by rw [tkM_19, a]; omega, fun j => ?_, fun j => by rw [tkM_8, d], tkM_20 h0 e, fun k h1 h2 h3 => by rw [tkM_S h1 h2 h3, f k h1 h2 h3]⟩
    have := tkM_6 (v := tki v n) (j := j)
    have := c j
    omega
theorem SIM_tick {t : Int} {u v : SS} (S : SIM t u v) (ht : t ≤ 511) {n : Nat} (hn : n ≤ 50) : SIM (t + 1) (cti u n) (tki (stS v 26 0) n) := by
  have S0 := SIM_26 (x := 0) S (by decide)
  have h4 := S.b4 ht
  have h21 := S.m21 ht
  have h0 := S.1
  obtain ⟨g1, g2, g3⟩ := S0.bg ht
  have M := SM_ticks S0.sm (by show 4 * v.1 22 ≤ 2048; omega) (by show v.1 21 + 10 ≤ _; omega) n ⟨by omega, by omega, fun j => by have := g3 j; omega⟩
  obtain ⟨b1, b2, b3, b4, b5, b6, b7, b8, b9⟩ := S0.bd
  obtain ⟨a, c, d, e, f⟩ := tki_b (v := stS v 26 0) (b := 310 * t) (by omega) b8 n
  have h25 := tki_25 (v := stS v 26 0) n
  have e22 : (tki (stS v 26 0) n).1 22 = v.1 22 := f 22 (by decide) (by decide) (by decide)
  have e21 : (tki (stS v 26 0) n).1 21 = v.1 21 := f 21 (by decide) (by decide) (by decide)
  refine ⟨by omega, by rw [e22]; exact M, ⟨by rw [a]; omega, by omega, fun j => by have := c j; have := b3 j; omega, by rw [e22]; show v.1 22 ≤ _; have : v.1 22 ≤ t := b4; omega, by rw [f 23 (by decide) (by decide) (by decide)]; omega, by rw [f 24 (by decide) (by decide) (by decide)]; omega, fun j => by rw [d]; have := b7 j; omega, fun j => by have := e j; omega, by rw [e21]; have : v.1 21 ≤ 6000 * t := b9; omega⟩, ?_⟩
  have key : ∀ m : Nat, (cti u m).1 15 = u.1 15 := fun m => by
    induction m with
    | zero => rfl
    | succ m ih =>
      show (cpM (cti u m)).1 15 = _
      rw [cpM_S (by decide) (by decide) (by decide) (by decide) (by decide), ih]
  rw [key]
  exact S.cap
theorem SIM_touch {t : Int} {u v : SS} (S : SIM t u v) (ht : t ≤ 511) {s p : Nat} (hs : (s : Int) < v.1 0) (hp : p < 8) :
    SIM (t + 1) (tcM u s p) (thM v (s : Int) (p : Int)) ∧ (thM v (s : Int) (p : Int)).1 21 = toR u (8 * s + p) ∧ (detM u (8 * s + p)).1 11 ≤ 47 ∧ 0 ≤ toR u (8 * s + p) ∧ toR u (8 * s + p) ≤ 310 ∧ (thM v (s : Int) (p : Int)).1 26 = 0 := by
  have h4 := S.b4 ht
  have h0 := S.1
  obtain ⟨a, b, c, d, e⟩ := SM_touch S.sm (by omega) hs hp (S.bt ht)
  obtain ⟨b1, b2, b3, b4, b5, b6, b7, b8, b9⟩ := S.bd
  have eP : 8 * (s : Int) + (p : Int) = ((8 * s + p : Nat) : Int) := by omega
  have tS : ∀ k, k ≠ 16 → k ≠ 21 → k ≠ 14 → k ≠ 22 → k ≠ 23 → k ≠ 24 → (thM v (s : Int) (p : Int)).1 k = (stS (stS v 26 0) 26 0).1 k := fun k h1 h2 h3 h5 h6 h7 => by
    unfold thM
    show (if k = 23 then _ else if k = 22 then _ else if k = 24 then _ else (thA _ _).1 k) = _
    rw [if_neg h6, if_neg h5, if_neg h7, thA_S h1 h2 h3]
  have tA : ∀ x j, x ≠ 10 → x ≠ 17 → x ≠ 12 → x ≠ 13 → x ≠ 8 → x ≠ 20 → (thM v (s : Int) (p : Int)).2 x j = v.2 x j := fun x j h1 h2 h3 h5 h6 h7 => by
    unfold thM
    show (stA (stA (thA _ _) 20 _ _) 8 _ _).2 x j = _
    rw [stA_o h6, stA_o h7, thA_A h1 h2 h3 h5]
    rfl
  have e21 : (thA (stS (stS v 26 0) 26 0) (8 * (s : Int) + (p : Int))).1 21 = toR u (8 * s + p) := b
  have e22 : (thM v (s : Int) (p : Int)).1 22 = v.1 22 + 1 := by
    show (thA _ _).1 22 + 1 = _
    rw [thA_S (by decide) (by decide) (by decide)]
    rfl
  have e24 : (thM v (s : Int) (p : Int)).1 24 = v.1 24 + toR u (8 * s + p) := by
    show (thA _ _).1 24 + (thA _ _).1 21 = _
    rw [e21, thA_S (by decide) (by decide) (by decide)]
    rfl
  have e23 : (thM v (s : Int) (p : Int)).1 23 ≤ v.1 23 + 1 := by
    show (thA _ _).1 23 + (if (thA _ _).1 21 = 0 then 1 else 0) ≤ _
    rw [thA_S (by decide) (by decide) (by decide)]
    show v.1 23 + _ ≤ _
    split <;> omega
  have e8 : ∀ j, (thM v (s : Int) (p : Int)).2 8 j ≤ v.2 8 j + 310 := fun j => by
    show (stA (stA (thA (stS (stS v 26 0) 26 0) (8 * (s : Int) + (p : Int))) 20 _ _) 8 (s : Int).toNat ((stA (thA (stS (stS v 26 0) 26 0) (8 * (s : Int) + (p : Int))) 20 _ _).2 8 (s : Int).toNat + (thA (stS (stS v 26 0) 26 0) (8 * (s : Int) + (p : Int))).1 21)).2 8 j ≤ _
    rw [stA_e, stA_o (by decide), stA_o (by decide), e21, thA_A (by decide) (by decide) (by decide) (by decide), thA_A (by decide) (by decide) (by decide) (by decide), Int.toNat_natCast]
    show (if j = s then v.2 8 s + _ else v.2 8 j) ≤ _
    split
    · rename_i h; rw [h]; omega
    · omega
  have e20 : ∀ j, (thM v (s : Int) (p : Int)).2 20 j ≤ v.2 20 j + 310 := fun j => by
    show (thB (thA (stS (stS v 26 0) 26 0) (8 * (s : Int) + (p : Int)))).2 20 j ≤ _
    unfold thB
    rw [stA_e, e21, thA_A (by decide) (by decide) (by decide) (by decide), thA_A (by decide) (by decide) (by decide) (by decide)]
    show (if j = _ then v.2 20 _ + _ else v.2 20 j) ≤ _
    split
    · rename_i h; rw [← h]; omega
    · omega
  refine ⟨⟨by omega, by rw [e22, show 4 * (v.1 22 + 1) = 4 * v.1 22 + 4 by omega]; exact a, ⟨?_, ?_, fun j => ?_, by omega, by omega, by omega, fun j => ?_, fun j => ?_, by rw [b]; omega⟩, ?_⟩, b, c, d, e, ?_⟩
  · rw [tS _ (by decide) (by decide) (by decide) (by decide) (by decide) (by decide)]; show v.1 19 ≤ _; omega
  · rw [tS _ (by decide) (by decide) (by decide) (by decide) (by decide) (by decide)]; show v.1 25 ≤ _; omega
  · rw [tA _ _ (by decide) (by decide) (by decide) (by decide) (by decide) (by decide)]; have := b3 j; omega
  · have := e8 j; have := b7 j; omega
  · have := e20 j; have := b8 j; omega
  · have : (tcM u s p).1 15 = u.1 15 := by
      show (ct1 (to1 u (8 * s + p)) _).1 15 = _
      rw [ct1_S (by decide) (by decide), to1_S (by decide) (by decide) (by decide) (by decide) (by decide)]
    rw [this]; exact S.cap
  · rw [tS _ (by decide) (by decide) (by decide) (by decide) (by decide) (by decide)]; rfl
theorem sfM_S {v : SS} {x : Int} {k : Nat} (h1 : k ≠ 11) (h2 : k ≠ 14) (h3 : k ≠ 16) (h4 : k ≠ 21) (h5 : k ≠ 26) : (sfM v x).1 k = v.1 k := by
  unfold sfM
  simp only
  have e : (sfl ((v.1 11).toNat - x.toNat) x.toNat (stS v 26 0)).1 k = v.1 k := by
    rw [sfl_S h3 h4]
    show (if k = 26 then 0 else v.1 k) = _
    rw [if_neg h5]
  split
  · show (if k = 14 then 0 else if k = 11 then x else _) = _
    rw [if_neg h2, if_neg h1, e]
  · show (if k = 11 then x else _) = _
    rw [if_neg h1, e]
theorem sfM_A {v : SS} {x : Int} {a j : Nat} (h1 : a ≠ 10) (h2 : a ≠ 17) (h3 : a ≠ 12) (h4 : a ≠ 13) : (sfM v x).2 a j = v.2 a j := by
  unfold sfM
  simp only
  have e : (sfl ((v.1 11).toNat - x.toNat) x.toNat (stS v 26 0)).2 a j = v.2 a j := by rw [sfl_A h1 h2 h3 h4]; rfl
  split <;> exact e
theorem sfM_26 {v : SS} {x : Int} : (sfM v x).1 26 = 0 := by
  unfold sfM
  simp only
  have e : (sfl ((v.1 11).toNat - x.toNat) x.toNat (stS v 26 0)).1 26 = 0 := by rw [sfl_S (by decide) (by decide)]; rfl
  split <;> exact e
/-! one call on both sides -/
def STP (t : Int) (u v : SS) (p : Nat → Int) (q : Nat → UInt64) (rv : Int → AV) (rx : Int → Prop) (yl : MethodName) (wl : List Cond) (al : List AV) (ym : MethodName) (wm : List Cond) (am : List AV) : Prop :=
  ∃ (k x : Int) (u' v' : SS) (p' : Nat → Int) (mc ms l : Nat) (nw : Nat → Prop), ((mc ≤ 40 ∧ ms ≤ 2500 ∧ l ≤ 8 ∧ okn nw) ∧ (0 ≤ k ∧ k ≤ 3) ∧ rx x ∧ (k = 0 → p' 0 = x) ∧ v'.1 26 = k ∧ SIM (t + 1) u' v') ∧
    Cn yl wl 12 mc ms nw al (mk u v (gO p q)) (.inl (some (vI k), mk u' v (gO p' q))) ∧ Cn ym wm l 0 0 nn am (mk u' v (gO p' q)) (.inl (some (rv x), mk u' v' (gO p' q)))
section ST
variable {t : Int} {u v u' v' : SS} {p : Nat → Int} {q : Nat → UInt64} {rv : Int → AV} {rx : Int → Prop} {yl ym : MethodName} {wl wm : List Cond} {al am : List AV} {mc ms l : Nat} {nw : Nat → Prop} {k x x' : Int}
theorem STP_o (W : Cn yl wl 12 mc ms nw al (mk u v (gO p q)) (.inl (some (vI 0), mk u' v (gO (pst p x) q)))) (hnw : okn nw) (h1 : mc ≤ 40) (h2 : ms ≤ 2500) (Mm : Cn ym wm l 0 0 nn am (mk u' v (gO (pst p x) q)) (.inl (some (rv x'), mk u' v' (gO (pst p x) q)))) (hl : l ≤ 8) (hxx : x = x') (hr : rx x') (h26 : v'.1 26 = 0) (S : SIM (t + 1) u' v') : STP t u v p q rv rx yl wl al ym wm am :=
  ⟨0, x', u', v', pst p x, mc, ms, l, nw, ⟨⟨h1, h2, hl, hnw⟩, by decide, hr, fun _ => by show (if (0 : Nat) = 0 then x else p 0) = x'; rw [if_pos rfl, hxx], h26, S⟩, W, Mm⟩
theorem STP_x (W : Cn yl wl 12 mc ms nw al (mk u v (gO p q)) (.inl (some (vI k), mk u v (gO p q)))) (hnw : okn nw) (h1 : mc ≤ 40) (h2 : ms ≤ 2500) (Mm : Cn ym wm l 0 0 nn am (mk u v (gO p q)) (.inl (some (rv x), mk u v' (gO p q)))) (hl : l ≤ 8) (hk : 1 ≤ k ∧ k ≤ 3) (hr : rx x) (h26 : v'.1 26 = k) (S : SIM (t + 1) u v') : STP t u v p q rv rx yl wl al ym wm am :=
  ⟨k, x, u, v', p, mc, ms, l, nw, ⟨⟨h1, h2, hl, hnw⟩, by omega, hr, fun h => by omega, h26, S⟩, W, Mm⟩
end ST
/-- a question without arguments, on both sides -/
def QST (t : Int) (u v : SS) (g : GH) (rx : Int → Prop) (yu : MethodName) (wu : List Cond) (ym : MethodName) (wm : List Cond) : Prop :=
  ∃ (x : Int) (u' v' : SS) (l1 l2 : Nat), (l1 ≤ 8 ∧ l2 ≤ 8 ∧ rx x ∧ SIM (t + 1) u' v') ∧ Cn yu wu l1 0 0 nn [vR (some 1000)] (mk u v g) (.inl (some (vI x), mk u' v g)) ∧ Cn ym wm l2 0 0 nn [vR (some 0)] (mk u' v g) (.inl (some (vI x), mk u' v' g))
theorem QST_i {t : Int} {u v u' v' : SS} {g : GH} {rx : Int → Prop} {yu ym : MethodName} {wu wm : List Cond} {l1 l2 : Nat} {x x' : Int} (A : Cn yu wu l1 0 0 nn [vR (some 1000)] (mk u v g) (.inl (some (vI x), mk u' v g))) (B : Cn ym wm l2 0 0 nn [vR (some 0)] (mk u' v g) (.inl (some (vI x'), mk u' v' g))) (e : x' = x) (h1 : l1 ≤ 8) (h2 : l2 ≤ 8) (hr : rx x) (S : SIM (t + 1) u' v') : QST t u v g rx yu wu ym wm := by
  subst e
  exact ⟨x', u', v', l1, l2, ⟨h1, h2, hr, S⟩, A, B⟩
