/-! TOGETHER: pages, frames and the store on both sides; 't' is a page on its way (99: none), 'r' one whose place the class has not told yet (99: none) -/
def WF (v : SS) (t : Nat) : Prop :=
  (∀ f : Nat, f < 16 → 0 ≤ v.2 12 f → (f : Int) < v.1 11 ∧ v.2 12 f < 8 * v.1 0 ∧ v.2 12 f ≠ (t : Int) ∧ v.2 10 (v.2 12 f).toNat = 1) ∧
  (∀ p : Nat, (p : Int) < 8 * v.1 0 → p ≠ t → v.2 10 p = 1 → ∃ f : Nat, f < 16 ∧ v.2 12 f = (p : Int)) ∧
  (∀ f g : Nat, f < 16 → g < 16 → 0 ≤ v.2 12 f → v.2 12 f = v.2 12 g → f = g) ∧
  (∀ f : Nat, f < 16 → v.2 12 f < 0 → v.2 13 f = 0) ∧
  (∀ x ∈ SL v, 0 ≤ x ∧ x < 8 * v.1 0 ∧ x ≠ (t : Int) ∧ v.2 10 x.toNat = 2) ∧
  (∀ p : Nat, (p : Int) < 8 * v.1 0 → p ≠ t → v.2 10 p = 2 → (p : Int) ∈ SL v) ∧
  (SL v).Nodup ∧
  (∀ p : Nat, (p : Int) < 8 * v.1 0 → 1 ≤ v.2 9 p ∧ v.2 9 p ≤ 4) ∧
  (∀ p : Nat, 8 * v.1 0 ≤ (p : Int) → v.2 10 p = 0)
def EQ (u v : SS) (t r : Nat) : Prop :=
  u.1 14 = v.1 0 ∧ u.1 7 = v.1 11 ∧ u.1 9 = v.1 15 ∧ u.1 11 = v.1 16 ∧ (∀ p, u.2 22 p = v.2 9 p) ∧ (∀ f : Nat, f < 16 → u.2 2 f = v.2 12 f) ∧ OL u = SL v ∧
  (∀ p : Nat, (p : Int) < 8 * v.1 0 → p ≠ t → p ≠ r → u.2 23 p = plc (v.2 10 p)) ∧
  (∀ f : Nat, f < 16 → 0 ≤ v.2 12 f → u.2 24 (v.2 12 f).toNat = (f : Int) ∧ u.2 25 (v.2 12 f).toNat = v.2 13 f) ∧
  (∀ p : Nat, (p : Int) < 8 * v.1 0 → p ≠ t → v.2 10 p ≠ 1 → u.2 25 p = 0) ∧ v.2 10 r = 0
def PG (u v : SS) (t r : Nat) : Prop := CI u ∧ MI v ∧ EQ u v t r ∧ WF v t
section PGA
variable {u v : SS} {t r : Nat}
theorem PG.ci (S : PG u v t r) : CI u := S.1
theorem PG.mi (S : PG u v t r) : MI v := S.2.1
theorem PG.n (S : PG u v t r) : u.1 14 = v.1 0 := S.2.2.1.1
theorem PG.F (S : PG u v t r) : u.1 7 = v.1 11 := S.2.2.1.2.1
theorem PG.R (S : PG u v t r) : u.1 9 = v.1 15 := S.2.2.1.2.2.1
theorem PG.K (S : PG u v t r) : u.1 11 = v.1 16 := S.2.2.1.2.2.2.1
theorem PG.sz (S : PG u v t r) (p : Nat) : u.2 22 p = v.2 9 p := S.2.2.1.2.2.2.2.1 p
theorem PG.hd (S : PG u v t r) (f : Nat) (h : f < 16) : u.2 2 f = v.2 12 f := S.2.2.1.2.2.2.2.2.1 f h
theorem PG.o (S : PG u v t r) : OL u = SL v := S.2.2.1.2.2.2.2.2.2.1
theorem PG.pl (S : PG u v t r) (p : Nat) (h : (p : Int) < 8 * v.1 0) (ht : p ≠ t) (hr : p ≠ r) : u.2 23 p = plc (v.2 10 p) := S.2.2.1.2.2.2.2.2.2.2.1 p h ht hr
theorem PG.fr (S : PG u v t r) (f : Nat) (h : f < 16) (h2 : 0 ≤ v.2 12 f) : u.2 24 (v.2 12 f).toNat = (f : Int) ∧ u.2 25 (v.2 12 f).toNat = v.2 13 f := S.2.2.1.2.2.2.2.2.2.2.2.1 f h h2
theorem PG.rf (S : PG u v t r) (p : Nat) (h : (p : Int) < 8 * v.1 0) (ht : p ≠ t) (h2 : v.2 10 p ≠ 1) : u.2 25 p = 0 := S.2.2.1.2.2.2.2.2.2.2.2.2.1 p h ht h2
theorem PG.r0 (S : PG u v t r) : v.2 10 r = 0 := S.2.2.1.2.2.2.2.2.2.2.2.2.2
theorem PG.w (S : PG u v t r) : WF v t := S.2.2.2
theorem WF.a (W : WF v t) (f : Nat) (h : f < 16) (h2 : 0 ≤ v.2 12 f) : (f : Int) < v.1 11 ∧ v.2 12 f < 8 * v.1 0 ∧ v.2 12 f ≠ (t : Int) ∧ v.2 10 (v.2 12 f).toNat = 1 := W.1 f h h2
theorem WF.b (W : WF v t) (p : Nat) (h : (p : Int) < 8 * v.1 0) (ht : p ≠ t) (h2 : v.2 10 p = 1) : ∃ f : Nat, f < 16 ∧ v.2 12 f = (p : Int) := W.2.1 p h ht h2
theorem WF.c (W : WF v t) (f g : Nat) (hf : f < 16) (hg : g < 16) (h : 0 ≤ v.2 12 f) (e : v.2 12 f = v.2 12 g) : f = g := W.2.2.1 f g hf hg h e
theorem WF.d (W : WF v t) (f : Nat) (hf : f < 16) (h : v.2 12 f < 0) : v.2 13 f = 0 := W.2.2.2.1 f hf h
theorem WF.e (W : WF v t) (x : Int) (h : x ∈ SL v) : 0 ≤ x ∧ x < 8 * v.1 0 ∧ x ≠ (t : Int) ∧ v.2 10 x.toNat = 2 := W.2.2.2.2.1 x h
theorem WF.f (W : WF v t) (p : Nat) (h : (p : Int) < 8 * v.1 0) (ht : p ≠ t) (h2 : v.2 10 p = 2) : (p : Int) ∈ SL v := W.2.2.2.2.2.1 p h ht h2
theorem WF.g (W : WF v t) : (SL v).Nodup := W.2.2.2.2.2.2.1
theorem WF.h (W : WF v t) (p : Nat) (h : (p : Int) < 8 * v.1 0) : 1 ≤ v.2 9 p ∧ v.2 9 p ≤ 4 := W.2.2.2.2.2.2.2.1 p h
theorem WF.i (W : WF v t) (p : Nat) (h : 8 * v.1 0 ≤ (p : Int)) : v.2 10 p = 0 := W.2.2.2.2.2.2.2.2 p h
theorem PG.tk (S : PG u v t r) : ctk u = tk v := by
  rw [ctk_OL, tk_SL, S.o]
  exact congrArg List.sum (List.map_congr_left fun x _ => S.sz _)
/-- the same relation for states that agree where it looks -/
theorem PG_c {u' v' : SS} (S : PG u v t r) (hu : CI u') (hv : MI v') (a1 : u'.1 14 = u.1 14) (a2 : u'.1 7 = u.1 7) (a3 : u'.1 9 = u.1 9) (a4 : u'.1 11 = u.1 11) (a5 : u'.2 22 = u.2 22) (a6 : u'.2 2 = u.2 2) (a7 : u'.2 3 = u.2 3) (a8 : u'.2 23 = u.2 23) (a9 : u'.2 24 = u.2 24) (a10 : u'.2 25 = u.2 25)
    (b1 : v'.1 0 = v.1 0) (b2 : v'.1 11 = v.1 11) (b3 : v'.1 15 = v.1 15) (b4 : v'.1 16 = v.1 16) (b5 : v'.2 9 = v.2 9) (b6 : v'.2 12 = v.2 12) (b7 : v'.2 13 = v.2 13) (b8 : v'.2 17 = v.2 17) (b9 : v'.2 10 = v.2 10) : PG u' v' t r := by
  have e1 : OL u' = OL u := OL_c a4 a7
  have e2 : SL v' = SL v := SL_c b4 b8
  obtain ⟨-, -, hE, hW⟩ := S
  refine ⟨hu, hv, ?_, ?_⟩
  · unfold EQ at hE ⊢
    rw [a1, a2, a3, a4, a5, a6, a8, a9, a10, b1, b2, b3, b4, b5, b6, b7, b9, e1, e2]
    exact hE
  · unfold WF at hW ⊢
    rw [b1, b2, b5, b6, b7, b9, e2]
    exact hW
end PGA
theorem plc_i {x y : Int} (hx : 0 ≤ x ∧ x ≤ 3) (hy : 0 ≤ y ∧ y ≤ 3) (h : plc x = plc y) : x = y := by
  unfold plc at h
  split at h <;> split at h <;> (try split at h) <;> (try split at h) <;> (try split at h) <;> (try split at h) <;> omega
theorem plc_1 {x : Int} (hx : 0 ≤ x ∧ x ≤ 3) : plc x = 102 ↔ x = 1 := ⟨fun h => plc_i hx (by decide) h, fun h => by rw [h]; rfl⟩
theorem plc_2 {x : Int} (hx : 0 ≤ x ∧ x ≤ 3) : plc x = 115 ↔ x = 2 := ⟨fun h => plc_i hx (by decide) h, fun h => by rw [h]; rfl⟩
theorem plc_3 {x : Int} (hx : 0 ≤ x ∧ x ≤ 3) : plc x = 100 ↔ x = 3 := ⟨fun h => plc_i hx (by decide) h, fun h => by rw [h]; rfl⟩
theorem plc_0 {x : Int} (hx : 0 ≤ x ∧ x ≤ 3) : plc x = 45 ↔ x = 0 := ⟨fun h => plc_i hx (by decide) h, fun h => by rw [h]; rfl⟩
theorem plc_C {x : Int} (hx : 0 ≤ x ∧ x ≤ 3) : plC (plc x) := by
  have : x = 0 ∨ x = 1 ∨ x = 2 ∨ x = 3 := by omega
  rcases this with rfl | rfl | rfl | rfl <;> (unfold plC; decide)
theorem po1_23 {u : SS} {q : Nat} : (po1 u).2 23 q = if q = (u.2 3 0).toNat then 100 else u.2 23 q := by
  unfold po1; rw [mvM_23, orM_A (by decide)]
theorem po1_24 {u : SS} {q : Nat} : (po1 u).2 24 q = if q = (u.2 3 0).toNat then -1 else u.2 24 q := by
  unfold po1; rw [mvM_24, orM_A (by decide)]
theorem po1_25 {u : SS} {q : Nat} : (po1 u).2 25 q = if q = (u.2 3 0).toNat then 0 else u.2 25 q := by
  unfold po1; rw [mvM_25, orM_A (by decide)]
theorem pop_10 {v : SS} {q : Nat} : (pop v).2 10 q = if q = (v.2 17 0).toNat then 3 else v.2 10 q := by
  show (unsM (stA v 10 (v.2 17 0).toNat 3) 0).2 10 q = _
  rw [uns_A (by decide), stA_2, if_pos rfl]
theorem OL_mv {u : SS} {p : Nat} {c : Int} : OL (mvM u p c) = OL u := OL_c (mvM_S (by decide)) (by funext j; exact mvM_A (by decide) (by decide) (by decide) (by decide))
theorem SL_pop {v : SS} (h : 0 < v.1 16) : SL (pop v) = (SL v).eraseIdx 0 := by
  show SL (unsM (stA v 10 (v.2 17 0).toNat 3) 0) = _
  rw [SL_uns (by show (0 : Int) < v.1 16; omega)]
  rfl
theorem SL_hd {v : SS} (h : 0 < v.1 16) : (SL v)[0]? = some (v.2 17 0) := lsN_get (by omega)
/-- the page that is there longest goes to the disk -/
theorem PG_pop {u v : SS} {t r : Nat} (S : PG u v t r) (h : 0 < v.1 16) (hm : v.1 21 + 5 ≤ 100000000) : PG (po1 u) (pop v) t r := by
  have W := S.w
  have hk := S.K
  have hn := S.n
  have hx0 : u.2 3 0 = v.2 17 0 := by
    have e1 := lsN_get (n := (u.1 11).toNat) (f := u.2 3) (i := 0) (by omega)
    have e2 := SL_hd h
    have e3 := S.o
    unfold OL at e3
    rw [e3, e2] at e1
    exact (Option.some.inj e1).symm
  have hm0 : v.2 17 0 ∈ SL v := List.mem_iff_getElem?.mpr ⟨0, SL_hd h⟩
  obtain ⟨x1, x2, x3, x4⟩ := W.e _ hm0
  have hS : SL (pop v) = (SL v).filter (fun y => !decide (y = v.2 17 0)) := by rw [SL_pop h]; exact erase_flt W.g (SL_hd h)
  have hO : OL (po1 u) = SL (pop v) := by
    unfold po1
    rw [OL_mv, OL_or (by omega), S.o, SL_pop h]
  have hmem : ∀ y, y ∈ SL (pop v) ↔ y ∈ SL v ∧ y ≠ v.2 17 0 := fun y => by rw [hS, List.mem_filter]; simp
  have hA : ∀ a j, a ≠ 10 → a ≠ 17 → (pop v).2 a j = v.2 a j := fun a j h1 h2 => pop_A h1 h2
  refine ⟨CI_po1 S.ci (by omega), MI_pop S.mi (by omega) hm, ⟨?_, ?_, ?_, ?_, fun p => ?_, fun f hf => ?_, hO, fun p hp ht hr => ?_, fun f hf h0 => ?_, fun p hp ht h1 => ?_, ?_⟩, ⟨fun f hf h0 => ?_, fun p hp ht h1 => ?_, fun f g hf hg h0 e => ?_, fun f hf h0 => ?_, fun x hx => ?_, fun p hp ht h1 => ?_, ?_, fun p hp => ?_, fun p hp => ?_⟩⟩
  · rw [po1_S (by decide) (by decide) (by decide)]; exact S.n
  · rw [po1_S (by decide) (by decide) (by decide)]; exact S.F
  · rw [po1_S (by decide) (by decide) (by decide)]; exact S.R
  · rw [po1_11, pop_16, hk]
  · rw [po1_A (by decide) (by decide) (by decide) (by decide) (by decide), hA _ _ (by decide) (by decide)]; exact S.sz p
  · rw [po1_A (by decide) (by decide) (by decide) (by decide) (by decide), hA _ _ (by decide) (by decide)]; exact S.hd f hf
  · rw [po1_23, pop_10, hx0]
    by_cases e : p = (v.2 17 0).toNat
    · rw [if_pos e, if_pos e]; rfl
    · rw [if_neg e, if_neg e]; exact S.pl p hp ht hr
  · rw [hA _ _ (by decide) (by decide)] at h0
    rw [hA _ _ (by decide) (by decide), hA _ _ (by decide) (by decide), po1_24, po1_25, hx0]
    have w1 := W.a f hf h0
    have e : (v.2 12 f).toNat ≠ (v.2 17 0).toNat := fun e => by rw [e, x4] at w1; exact absurd w1.2.2.2 (by decide)
    rw [if_neg e, if_neg e]
    exact S.fr f hf h0
  · rw [pop_10] at h1
    rw [po1_25, hx0]
    by_cases e : p = (v.2 17 0).toNat
    · rw [if_pos e]
    · rw [if_neg e]; rw [if_neg e] at h1; exact S.rf p hp ht h1
  · rw [pop_10, if_neg (fun e => by rw [← e, S.r0] at x4; exact absurd x4 (by decide))]; exact S.r0
  · rw [hA _ _ (by decide) (by decide)] at h0 ⊢
    have w1 := W.a f hf h0
    have e : (v.2 12 f).toNat ≠ (v.2 17 0).toNat := fun e => by rw [e, x4] at w1; exact absurd w1.2.2.2 (by decide)
    rw [pop_10, if_neg e]
    exact w1
  · rw [pop_10] at h1
    by_cases e : p = (v.2 17 0).toNat
    · rw [if_pos e] at h1; exact absurd h1 (by decide)
    · rw [if_neg e] at h1
      obtain ⟨f, hf, h2⟩ := W.b p hp ht h1
      exact ⟨f, hf, by rw [hA _ _ (by decide) (by decide)]; exact h2⟩
  · rw [hA _ _ (by decide) (by decide)] at h0 e
    rw [hA _ _ (by decide) (by decide)] at e
    exact W.c f g hf hg h0 e
  · rw [hA _ _ (by decide) (by decide)] at h0 ⊢
    exact W.d f hf h0
  · obtain ⟨m1, m2⟩ := (hmem x).mp hx
    obtain ⟨y1, y2, y3, y4⟩ := W.e x m1
    exact ⟨y1, y2, y3, by rw [pop_10, if_neg (by omega)]; exact y4⟩
  · rw [pop_10] at h1
    by_cases e : p = (v.2 17 0).toNat
    · rw [if_pos e] at h1; exact absurd h1 (by decide)
    · rw [if_neg e] at h1
      exact (hmem _).mpr ⟨W.f p hp ht h1, by omega⟩
  · rw [hS]; exact W.g.sublist List.filter_sublist
  · rw [hA _ _ (by decide) (by decide)]; exact W.h p hp
  · have hp2 : 8 * v.1 0 ≤ (p : Int) := hp
    rw [pop_10, if_neg (by omega)]; exact W.i p hp2
