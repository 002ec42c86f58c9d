/-! TOGETHER: the calls that change something -/
/-- the same where only pages, frames and the store have changed -/
theorem SM_fr {u v u' v' : SS} {B B' : Int} (M : SM u v B) (a : PG u' v' 99 99) (b : HP u' B') (d : TK v') (e : u'.1 8 = v'.1 14) (f : v'.1 14 < v'.1 11) (hu : ∀ x j : Nat, 4 ≤ x → x < 20 → u'.2 x j = u.2 x j) (hv : ∀ x j : Nat, (1 ≤ x ∧ x < 9) ∨ x = 20 → v'.2 x j = v.2 x j)
    (hs : ∀ k : Nat, k < 6 → u'.1 k = u.1 k) (ht : ∀ k : Nat, k = 0 ∨ (18 ≤ k ∧ k < 20) ∨ (22 ≤ k ∧ k < 26) → v'.1 k = v.1 k) : SM u' v' B' := by
  have V := M.sv
  refine ⟨a, b, d, ⟨e, f⟩, ⟨fun j => ?_, fun j => ?_, fun j => ?_, fun j => ?_, fun j => ?_, fun j => ?_, fun j => ?_, fun j => ?_, ?_, ?_, ?_, ?_, ?_, ?_⟩, fun j hj => ?_, fun j => ⟨fun hj => ?_, fun hj => ?_⟩, nb_c (v := v) (by funext j; exact hv 7 j (by omega)) (ht 0 (by omega)) M.nb, rk_c (v := v) (by funext j; exact hv 7 j (by omega)) M.rk⟩
  · rw [hu _ _ (by decide) (by decide), hv _ _ (by decide)]; exact V.a11 j
  · rw [hu _ _ (by decide) (by decide), hv _ _ (by decide)]; exact V.a12 j
  · rw [hu _ _ (by decide) (by decide), hv _ _ (by decide)]; exact V.a13 j
  · rw [hu _ _ (by decide) (by decide), hv _ _ (by decide)]; exact V.a15 j
  · rw [hu _ _ (by decide) (by decide), hv _ _ (by decide)]; exact V.a16 j
  · rw [hu _ _ (by decide) (by decide), hv _ _ (by decide)]; exact V.a17 j
  · rw [hu _ _ (by decide) (by decide), hv _ _ (by decide)]; exact V.a18 j
  · rw [hu _ _ (by decide) (by decide), hv _ _ (by decide)]; exact V.a19 j
  · rw [hs _ (by decide), ht _ (by decide)]; exact V.s0
  · rw [hs _ (by decide), ht _ (by decide)]; exact V.s1
  · rw [hs _ (by decide), ht _ (by decide)]; exact V.s2
  · rw [hs _ (by decide), ht _ (by decide)]; exact V.s3
  · rw [hs _ (by decide), ht _ (by decide)]; exact V.s4
  · rw [hs _ (by decide), ht _ (by decide)]; exact V.s5
  · rw [hu _ _ (by decide) (by decide), hv _ _ (by decide), ht _ (by decide)]; exact M.wn j hj
  · rw [ht _ (by decide)] at hj
    rw [hv _ _ (by decide)]; exact (M.po j).1 hj
  · rw [ht _ (by decide)] at hj
    rw [hv 4 _ (by decide), hv 5 _ (by decide), hv 6 _ (by decide), hv 7 _ (by decide), hv 8 _ (by decide)]; exact (M.po j).2 hj
section OPS
variable {u v : SS} {B : Int}
theorem SM_setLimit (M : SM u v B) {x : Int} (hx : 0 ≤ x ∧ x ≤ 999) : SM (stS u 0 x) (stS (stS v 26 0) 18 x) B := by
  have V := M.sv
  refine ⟨PG_c M.pg (CI_S M.ci (Or.inr (Or.inr hx)) (by decide) (by decide) (by decide) (by decide)) (MI_S (MI_S M.mi (by decide)) hx) rfl rfl rfl rfl rfl rfl rfl rfl rfl rfl rfl rfl rfl rfl rfl rfl rfl rfl rfl, M.hp, M.tk, ⟨M.hd, M.hf⟩, ⟨V.a11, V.a12, V.a13, V.a15, V.a16, V.a17, V.a18, V.a19, rfl, V.s1, V.s2, V.s3, V.s4, V.s5⟩, M.wn, M.po, M.nb, rk_c (v := v) rfl M.rk⟩
theorem SM_setSize (M : SM u v B) {p : Nat} (hp : (p : Int) < 8 * v.1 0) {x : Int} (hx : 1 ≤ x ∧ x ≤ 4) (h2 : v.2 10 p ≠ 2) : SM (stA u 22 p x) (stA (stS (stS v 26 0) 26 0) 9 p x) B := by
  have S := M.pg
  have W := S.w
  have V := M.sv
  have e9 : ∀ j, (stA (stS (stS v 26 0) 26 0) 9 p x).2 9 j = if j = p then x else v.2 9 j := fun j => stA_e
  have e22 : ∀ j, (stA u 22 p x).2 22 j = if j = p then x else u.2 22 j := fun j => stA_e
  have hne : ∀ y, y ∈ SL v → y.toNat ≠ p := fun y hy e => by
    have := (W.e y hy).2.2.2
    rw [e] at this
    exact h2 this
  have P : PG (stA u 22 p x) (stA (stS (stS v 26 0) 26 0) 9 p x) 99 99 := by
    refine ⟨CI_A M.ci (by show (0 : Int) ≤ x ∧ x ≤ 4; omega) (by decide) (by decide), MI_A (MI_S (MI_S M.mi (by decide)) (by decide)) (by show (0 : Int) ≤ x ∧ x ≤ 4; omega), ⟨S.n, S.F, S.R, S.K, fun q => ?_, fun f hf => S.hd f hf, S.o, fun q hq ht hr => S.pl q hq ht hr, fun f hf h0 => S.fr f hf h0, fun q hq ht h1 => S.rf q hq ht h1, S.r0⟩, ⟨fun f hf h0 => W.a f hf h0, fun q hq ht h1 => W.b q hq ht h1, fun f g hf hg h0 e => W.c f g hf hg h0 e, fun f hf h0 => W.d f hf h0, fun y hy => W.e y hy, fun q hq ht h1 => W.f q hq ht h1, W.g, fun q hq => ?_, fun q hq => W.i q hq⟩⟩
    · rw [e22, e9, S.sz]
    · rw [e9]
      split
      · exact hx
      · exact W.h q hq
  refine ⟨P, HP_c M.hp rfl rfl rfl rfl, ?_, ⟨M.hd, M.hf⟩, ⟨V.a11, V.a12, V.a13, V.a15, V.a16, V.a17, V.a18, V.a19, V.s0, V.s1, V.s2, V.s3, V.s4, V.s5⟩, M.wn, M.po, M.nb, rk_c (v := v) rfl M.rk⟩
  show tk (stA (stS (stS v 26 0) 26 0) 9 p x) ≤ v.1 15
  have ht : tk v ≤ v.1 15 := M.tk
  rw [tk_SL] at ht ⊢
  have e : (SL v).map (fun y => (stA (stS (stS v 26 0) 26 0) 9 p x).2 9 y.toNat) = (SL v).map (fun y => v.2 9 y.toNat) := List.map_congr_left fun y hy => by rw [e9, if_neg (hne y hy)]
  show ((SL v).map (fun y => (stA (stS (stS v 26 0) 26 0) 9 p x).2 9 y.toNat)).sum ≤ _
  rw [e]
  exact ht
theorem SM_setRoom (M : SM u v B) (hB : B ≤ 2048) {x : Int} (hx : 0 ≤ x ∧ x ≤ 60) (hm : v.1 21 + 300 ≤ 100000000) : SM (srC u x) (srM v x) B ∧ (srM v x).1 21 ≤ v.1 21 + 300 := by
  have S := M.pg
  have i16 := M.mi.s16
  have S1 : PG (stS u 9 x) (stS (stS v 26 0) 15 x) 99 99 := by
    refine ⟨CI_S M.ci (Or.inr (Or.inr hx)) (by decide) (by decide) (by decide) (by decide), MI_S (MI_S M.mi (by decide)) hx, ⟨S.n, S.F, rfl, S.K, fun q => S.sz q, fun f hf => S.hd f hf, S.o, fun q hq ht hr => S.pl q hq ht hr, fun f hf h0 => S.fr f hf h0, fun q hq ht h1 => S.rf q hq ht h1, S.r0⟩, S.w⟩
  have hk := S.K
  obtain ⟨a, b, -, g⟩ := PG_mkr (sz := 0) hB ((v.1 16).toNat + 1) _ _ S1 (HP_c M.hp rfl rfl rfl rfl) ⟨Int.le_refl 0, hx.1⟩ (by show v.1 21 + 5 * _ ≤ _; omega)
  have hr := mkr_room (sz := 0) ((v.1 16).toNat + 1) _ S1.mi hx.1 (by show v.1 16 < _; omega) (by show v.1 21 + 5 * _ ≤ _; omega)
  have e1 : srC u x = cmr 0 ((v.1 16).toNat + 1) (stS u 9 x) := by unfold srC; rw [hk]
  have e2 : srM v x = mkr 0 ((v.1 16).toNat + 1) (stS (stS v 26 0) 15 x) := rfl
  have j16 := a.mi.s16
  rw [e1, e2]
  refine ⟨SM_fr M a b ?_ ?_ ?_ (fun y j h1 h2 => by rw [cmr_A (by omega) (by omega) (by omega) (by omega) (by omega)]; rfl) (fun y j h => by rw [mkr_A (by omega) (by omega)]; rfl) (fun k h => ?_) (fun k h => ?_), ?_⟩
  · show tk _ ≤ _
    rw [mkr_S (by decide) (by decide)]
    rw [Int.add_zero] at hr
    exact hr
  · rw [cmr_S (by decide) (by decide) (by decide), mkr_S (by decide) (by decide)]; exact M.hd
  · rw [mkr_S (by decide) (by decide), mkr_S (by decide) (by decide)]; exact M.hf
  · rw [cmr_S (by omega) (by omega) (by omega)]
    show (if k = 9 then x else u.1 k) = _
    rw [if_neg (by omega)]
  · rw [mkr_S (by omega) (by omega)]
    show (if k = 15 then x else if k = 26 then 0 else v.1 k) = _
    rw [if_neg (by omega), if_neg (by omega)]
  · rw [g]
    show v.1 21 + 5 * (v.1 16 - _) ≤ _
    omega
/-- one frame that is no more -/
theorem PG_sf1 {z : Nat} (hz : z < 16) (S : PG u v 99 99) (H : HP u B) (hB : B ≤ 2048) (hT : TK v) (hm : v.1 21 + 300 ≤ 100000000) :
    PG (sf1 u z) (if 0 ≤ v.2 12 z then toM v z else v) 99 99 ∧ HP (sf1 u z) B ∧ TK (if 0 ≤ v.2 12 z then toM v z else v) := by
  have i0 := S.mi.s0
  unfold sf1
  rw [S.hd z hz]
  by_cases c : 0 ≤ v.2 12 z
  · rw [if_pos c, if_neg (by omega)]
    have w := S.w.a z hz c
    have S1 := PG_out S hz (p := (v.2 12 z).toNat) (by omega)
    have hpl := S.pl (v.2 12 z).toNat (by omega) (by omega) (by omega)
    rw [w.2.2.2] at hpl
    have hT1 : TK (toA v z) := by
      show tk (toA v z) ≤ v.1 15
      have e9 : ∀ j, (toA v z).2 9 j = v.2 9 j := fun j => rfl
      rw [tk_SL]
      have ht : tk v ≤ v.1 15 := hT
      rw [tk_SL] at ht
      exact ht
    obtain ⟨a, b, -, d⟩ := PG_in (x := v.2 12 z) S1 (by omega) (by show _ < 8 * v.1 0; omega) (by omega) (HP_c H rfl rfl rfl rfl) hB (by show u.2 23 _ = 102; exact hpl) hT1 hm
    rw [toM_I']
    exact ⟨a, b, d⟩
  · rw [if_neg c, if_pos (by omega)]
    have e : (stA u 2 z (-1)).2 2 = u.2 2 := by
      funext j
      rw [stA_e]
      by_cases h : j = z
      · rw [if_pos h, h, S.hd z hz]; have := S.mi.a12 z; omega
      · rw [if_neg h]
    exact ⟨PG_c S (CI_A2 S.ci (by have := S.ci.s14; omega)) S.mi rfl rfl rfl rfl rfl e rfl rfl rfl rfl rfl rfl rfl rfl rfl rfl rfl rfl rfl, HP_c H rfl rfl rfl rfl, hT⟩
end OPS
theorem sf1_S {u : SS} {z s : Nat} (h1 : s ≠ 10) (h2 : s ≠ 11) (h3 : s ≠ 6) (h4 : s ≠ 12) : (sf1 u z).1 s = u.1 s := by
  unfold sf1
  split
  · rfl
  · rw [tiM_S h1 h2 h3 h4]; rfl
theorem sf1_A {u : SS} {z a j : Nat} (h0 : a ≠ 0) (h1 : a ≠ 23) (h2 : a ≠ 24) (h3 : a ≠ 25) (h4 : a ≠ 3) (h5 : a ≠ 2) : (sf1 u z).2 a j = u.2 a j := by
  unfold sf1
  split
  · rw [stA_o h5]
  · rw [tiM_A h0 h1 h2 h3 h4, stA_o h5]
theorem sfL_S {s : Nat} (h1 : s ≠ 10) (h2 : s ≠ 11) (h3 : s ≠ 6) (h4 : s ≠ 12) : ∀ {m z : Nat} {u : SS}, (sfL m z u).1 s = u.1 s
  | 0, _, _ => rfl
  | m + 1, z, u => by rw [sfL_s, sfL_S h1 h2 h3 h4, sf1_S h1 h2 h3 h4]
theorem sfL_A {a j : Nat} (h0 : a ≠ 0) (h1 : a ≠ 23) (h2 : a ≠ 24) (h3 : a ≠ 25) (h4 : a ≠ 3) (h5 : a ≠ 2) : ∀ {m z : Nat} {u : SS}, (sfL m z u).2 a j = u.2 a j
  | 0, _, _ => rfl
  | m + 1, z, u => by rw [sfL_s, sfL_A h0 h1 h2 h3 h4 h5, sf1_A h0 h1 h2 h3 h4 h5]
theorem sfl_A {a j : Nat} (h1 : a ≠ 10) (h2 : a ≠ 17) (h3 : a ≠ 12) (h4 : a ≠ 13) : ∀ {m z : Nat} {v : SS}, (sfl m z v).2 a j = v.2 a j
  | 0, _, _ => rfl
  | m + 1, z, v => by
    rw [sfl_s, sfl_A h1 h2 h3 h4]
    split
    · exact toM_A h1 h2 h3 h4
    · rfl
theorem sfl_lo {j : Nat} : ∀ {m z : Nat} {v : SS}, j < z → (sfl m z v).2 12 j = v.2 12 j
  | 0, _, _, _ => rfl
  | m + 1, z, v, h => by
    rw [sfl_s, sfl_lo (by omega)]
    split
    · rw [toM_12, if_neg (by omega)]
    · rfl
theorem sfl_12 {j : Nat} : ∀ {m z : Nat} {v : SS}, z ≤ j → j < z + m → (sfl m z v).2 12 j < 0
  | 0, _, _, h1, h2 => by omega
  | m + 1, z, v, h1, h2 => by
    rw [sfl_s]
    by_cases e : j = z
    · subst e
      rw [sfl_lo (by omega)]
      by_cases c : 0 ≤ v.2 12 j
      · rw [if_pos c, toM_12, if_pos rfl]; decide
      · rw [if_neg c]; omega
    · exact sfl_12 (by omega) (by omega)
theorem PG_sfl {B : Int} (hB : B ≤ 2048) : ∀ (m z : Nat) (u v : SS), PG u v 99 99 → HP u B → TK v → z + m ≤ 16 → v.1 21 + 300 * m ≤ 100000000 →
    PG (sfL m z u) (sfl m z v) 99 99 ∧ HP (sfL m z u) B ∧ TK (sfl m z v) ∧ (sfl m z v).1 21 ≤ v.1 21 + 300 * m
  | 0, z, u, v, S, H, hT, _, _ => ⟨S, H, hT, by show v.1 21 ≤ v.1 21 + 300 * 0; omega⟩
  | m + 1, z, u, v, S, H, hT, hz, hm => by
    obtain ⟨a, b, d⟩ := PG_sf1 (z := z) (by omega) S H hB hT (by omega)
    have h21 : (if 0 ≤ v.2 12 z then toM v z else v).1 21 ≤ v.1 21 + 300 := by
      by_cases c : 0 ≤ v.2 12 z
      · rw [if_pos c]
        have h1 := occ_48 S
        have h2 := occ_pos (v := v) (f := z) (by omega) c
        exact (toM_I S.mi c (by omega) (by omega)).2.2.1
      · rw [if_neg c]; omega
    rw [sfL_s, sfl_s]
    obtain ⟨a1, b1, d1, e1⟩ := PG_sfl hB m (z + 1) _ _ a b d (by omega) (by omega)
    exact ⟨a1, b1, d1, by omega⟩
theorem PG_F {u v : SS} {x : Int} (S : PG u v 99 99) (hx : 1 ≤ x ∧ x ≤ 16) (h : ∀ f : Nat, f < 16 → 0 ≤ v.2 12 f → (f : Int) < x) : PG (stS u 7 x) (stS v 11 x) 99 99 := by
  have W := S.w
  exact ⟨CI_S S.ci (Or.inr (Or.inr hx)) (by decide) (by decide) (by decide) (by decide), MI_S S.mi hx, ⟨S.n, rfl, S.R, S.K, fun q => S.sz q, fun f hf => S.hd f hf, S.o, fun q hq ht hr => S.pl q hq ht hr, fun f hf h0 => S.fr f hf h0, fun q hq ht h1 => S.rf q hq ht h1, S.r0⟩, ⟨fun f hf h0 => ⟨h f hf h0, (W.a f hf h0).2⟩, fun q hq ht h1 => W.b q hq ht h1, fun f g hf hg h0 e => W.c f g hf hg h0 e, fun f hf h0 => W.d f hf h0, fun y hy => W.e y hy, fun q hq ht h1 => W.f q hq ht h1, W.g, fun q hq => W.h q hq, fun q hq => W.i q hq⟩⟩
section OPT
variable {u v : SS} {B : Int}
theorem SM_setFrames (M : SM u v B) (hB : B ≤ 2048) {x : Int} (hx : 1 ≤ x ∧ x ≤ 16) (hm : v.1 21 + 300 * 17 ≤ 100000000) : SM (sfC' u x) (sfM v x) B ∧ (sfM v x).1 21 ≤ v.1 21 + 4800 := by
  have i11 := M.mi.s11
  have i14 := M.mi.s14
  have M0 := SM_26 (x := 0) M (by decide)
  have S := M0.pg
  obtain ⟨a, b, d, e⟩ := PG_sfl hB ((v.1 11).toNat - x.toNat) x.toNat u (stS v 26 0) S M0.hp M0.tk (by omega) (by show v.1 21 + 300 * _ ≤ _; omega)
  have hn : ∀ k, k ≠ 16 → k ≠ 21 → (sfl ((v.1 11).toNat - x.toNat) x.toNat (stS v 26 0)).1 k = (stS v 26 0).1 k := fun k h1 h2 => sfl_S h1 h2 _ _ _
  have S1 := PG_F a hx fun f hf h0 => by
    have w := (a.w.a f hf h0).1
    rw [hn 11 (by decide) (by decide)] at w
    have w2 : (f : Int) < v.1 11 := w
    rcases Nat.lt_or_ge f x.toNat with h | h
    · omega
    · have := sfl_12 (m := (v.1 11).toNat - x.toNat) (v := stS v 26 0) h (by omega)
      omega
  have e14 : (sfl ((v.1 11).toNat - x.toNat) x.toNat (stS v 26 0)).1 14 = v.1 14 := hn 14 (by decide) (by decide)
  have e8 : (sfL ((u.1 7).toNat - x.toNat) x.toNat u).1 8 = u.1 8 := sfL_S (by decide) (by decide) (by decide) (by decide)
  have eF := M.pg.F
  unfold sfC' sfM
  rw [eF] at e8 ⊢
  simp only
  have key : ∀ u1 v1 : SS, PG u1 v1 99 99 → u1.1 8 = v1.1 14 → v1.1 14 < x → v1.1 11 = x → (u1.2 = (sfL ((v.1 11).toNat - x.toNat) x.toNat u).2) → (∀ k, k ≠ 7 → k ≠ 8 → u1.1 k = (sfL ((v.1 11).toNat - x.toNat) x.toNat u).1 k) → (v1.2 = (sfl ((v.1 11).toNat - x.toNat) x.toNat (stS v 26 0)).2) → (∀ k, k ≠ 11 → k ≠ 14 → v1.1 k = (sfl ((v.1 11).toNat - x.toNat) x.toNat (stS v 26 0)).1 k) → SM u1 v1 B ∧ v1.1 21 ≤ v.1 21 + 4800 := by
    intro u1 v1 P h1 h2 h3 h4 h5 h6 h7
    refine ⟨SM_fr M P (HP_c b (h5 _ (by decide) (by decide)) (h5 _ (by decide) (by decide)) (by rw [h4]) (by rw [h4])) ?_ h1 (by rw [h3]; exact h2) (fun y j g1 g2 => ?_) (fun y j g => ?_) (fun k g => ?_) (fun k g => ?_), ?_⟩
    · show tk v1 ≤ v1.1 15
      have d2 : tk (sfl ((v.1 11).toNat - x.toNat) x.toNat (stS v 26 0)) ≤ (sfl ((v.1 11).toNat - x.toNat) x.toNat (stS v 26 0)).1 15 := d
      rw [tk_SL] at d2 ⊢
      rw [SL_c (v := sfl ((v.1 11).toNat - x.toNat) x.toNat (stS v 26 0)) (h7 16 (by decide) (by decide)) (by rw [h6]), h7 15 (by decide) (by decide), h6]
      exact d2
    · rw [h4]; exact sfL_A (by omega) (by omega) (by omega) (by omega) (by omega) (by omega)
    · rw [h6, sfl_A (by omega) (by omega) (by omega) (by omega)]; rfl
    · rw [h5 k (by omega) (by omega)]; exact sfL_S (by omega) (by omega) (by omega) (by omega)
    · rw [h7 k (by omega) (by omega), hn k (by omega) (by omega)]
      show (if k = 26 then 0 else v.1 k) = _
      rw [if_neg (by omega)]
    · rw [h7 21 (by decide) (by decide)]
      have : (stS v 26 0).1 21 = v.1 21 := rfl
      omega
  have hh := M.hd
  have hf := M.hf
  unfold rsM
  rw [e8]
  show SM _ (if x ≤ (sfl ((v.1 11).toNat - x.toNat) x.toNat (stS v 26 0)).1 14 then _ else _) B ∧ (if x ≤ (sfl ((v.1 11).toNat - x.toNat) x.toNat (stS v 26 0)).1 14 then _ else _ : SS).1 21 ≤ _
  rw [e14, hh]
  by_cases c : x ≤ v.1 14
  · rw [if_pos c, if_pos c]
    refine key _ _ (PG_c S1 (CI_S S1.ci (Or.inr (Or.inr (by decide))) (by decide) (by decide) (by decide) (by decide)) (MI_S S1.mi (by decide)) rfl rfl rfl rfl rfl rfl rfl rfl rfl rfl rfl rfl rfl rfl rfl rfl rfl rfl rfl) rfl (by show (0 : Int) < x; omega) rfl rfl (fun k h1 h2 => ?_) rfl (fun k h1 h2 => ?_)
    · show (if k = 8 then 0 else if k = 7 then x else _) = _; rw [if_neg h2, if_neg h1]
    · show (if k = 14 then 0 else if k = 11 then x else _) = _; rw [if_neg h2, if_neg h1]
  · rw [if_neg c, if_neg c]
    refine key _ _ S1 ?_ ?_ rfl rfl (fun k h1 h2 => ?_) rfl (fun k h1 h2 => ?_)
    · show (sfL _ _ u).1 8 = (sfl _ _ _).1 14; rw [e8, e14, hh]
    · show (sfl _ _ _).1 14 < x; rw [e14]; omega
    · show (if k = 7 then x else _) = _; rw [if_neg h1]
    · show (if k = 11 then x else _) = _; rw [if_neg h1]
theorem SM_ct (M : SM u v B) {s : Nat} (hs : (s : Int) < v.1 0) (hb : BT v) (hx : 0 ≤ v.1 21 ∧ v.1 21 ≤ 310) : SM (ctM u s (v.1 21)) (thE (thD (thC (thB v) (s : Int)))) B := by
  have V := M.sv
  have i19 := M.mi.s19
  obtain ⟨b1, b2, b3, b4, b5⟩ := hb
  have hcb : cBT u := ⟨by rw [V.s3]; exact b4, by rw [V.s4]; exact b5, by rw [V.s5]; exact b3, fun j => by rw [V.a19]; exact b2 j, by rw [M.wn 0 (by decide)]; exact b1 _⟩
  have hci := CI_ct (s := s) M.ci hcb hx
  have f8 : ∀ j, (thE (thD (thC (thB v) (s : Int)))).2 8 j = if j = s then v.2 8 s + v.1 21 else v.2 8 j := fun j => by
    show (stA (thB v) 8 (s : Int).toNat ((thB v).2 8 (s : Int).toNat + v.1 21)).2 8 j = _
    rw [stA_e, Int.toNat_natCast]
    rfl
  have f20 : ∀ j, (thE (thD (thC (thB v) (s : Int)))).2 20 j = if j = (v.1 19 % 4).toNat then v.2 20 (v.1 19 % 4).toNat + v.1 21 else v.2 20 j := fun j => by
    show (stA v 20 (v.1 19 % 4).toNat (v.2 20 (v.1 19 % 4).toNat + v.1 21)).2 20 j = _
    rw [stA_e]
  have hmi : MI (thE (thD (thC (thB v) (s : Int)))) := by
    have m1 : MI (thB v) := MI_A M.mi (by have := M.mi.a20 (v.1 19 % 4).toNat; have := b1 (v.1 19 % 4).toNat; show (0 : Int) ≤ _ ∧ _ ≤ 1000000; omega)
    have m2 : MI (thC (thB v) (s : Int)) := MI_A m1 (by have := M.mi.a8 s; have := b2 s; show (0 : Int) ≤ v.2 8 (s : Int).toNat + v.1 21 ∧ v.2 8 (s : Int).toNat + v.1 21 ≤ 1000000000; rw [Int.toNat_natCast]; omega)
    have m3 : MI (thD (thC (thB v) (s : Int))) := MI_S (MI_S m2 (by have := M.mi.s24; show (0 : Int) ≤ v.1 24 + v.1 21 ∧ v.1 24 + v.1 21 ≤ 1000000000; omega)) (by have := M.mi.s22; show (0 : Int) ≤ v.1 22 + 1 ∧ v.1 22 + 1 ≤ 1000000; omega)
    exact MI_S m3 (by have := M.mi.s23; show (0 : Int) ≤ v.1 23 + (if v.1 21 = 0 then 1 else 0) ∧ v.1 23 + (if v.1 21 = 0 then 1 else 0) ≤ 1000000; split <;> omega)
  have g1 : (ct1 u (v.1 21)).1 3 = u.1 3 + 1 := by unfold ct1; split <;> rfl
  have g2 : (ct1 u (v.1 21)).1 4 = u.1 4 + (if v.1 21 = 0 then 1 else 0) := by
    unfold ct1
    by_cases c : v.1 21 = 0
    · rw [if_pos c, if_pos c]; rfl
    · rw [if_neg c, if_neg c]; show u.1 4 = _; omega
  have gs : ∀ k, k ≠ 3 → k ≠ 4 → k ≠ 5 → (ctM u s (v.1 21)).1 k = u.1 k := fun k h3 h4 h5 => by
    show (if k = 5 then _ else (ct1 u (v.1 21)).1 k) = _
    rw [if_neg h5, ct1_S h3 h4]
  have ga : ∀ a j, a ≠ 4 → a ≠ 19 → (ctM u s (v.1 21)).2 a j = u.2 a j := fun a j h4 h19 => by
    show (stA (stA (stS (ct1 u (v.1 21)) 5 _) 19 s _) 4 0 _).2 a j = _
    rw [stA_o h4, stA_o h19]
    show (ct1 u (v.1 21)).2 a j = _
    rw [ct1_2]
  have g19 : ∀ j, (ctM u s (v.1 21)).2 19 j = if j = s then u.2 19 s + v.1 21 else u.2 19 j := fun j => by
    show (stA (stA (stS (ct1 u (v.1 21)) 5 (u.1 5 + v.1 21)) 19 s (u.2 19 s + v.1 21)) 4 0 ((ct2 u s (v.1 21)).2 4 0 + v.1 21)).2 19 j = _
    rw [stA_o (by decide), stA_e]
    show (if j = s then _ else (ct1 u (v.1 21)).2 19 j) = _
    rw [ct1_2]
  have g4 : ∀ j, (ctM u s (v.1 21)).2 4 j = if j = 0 then u.2 4 0 + v.1 21 else u.2 4 j := fun j => by
    show (stA (ct2 u s (v.1 21)) 4 0 ((ct2 u s (v.1 21)).2 4 0 + v.1 21)).2 4 j = _
    rw [stA_e, ct2_4, ct2_4]
  have vo : ∀ a, a ≠ 8 → a ≠ 20 → (thE (thD (thC (thB v) (s : Int)))).2 a = v.2 a := fun a h8 h20 => by
    funext j
    show (stA (stA v 20 _ _) 8 _ _).2 a j = _
    rw [stA_o h8, stA_o h20]
  refine ⟨PG_c M.pg hci hmi (gs _ (by decide) (by decide) (by decide)) (gs _ (by decide) (by decide) (by decide)) (gs _ (by decide) (by decide) (by decide)) (gs _ (by decide) (by decide) (by decide)) (by funext j; exact ga _ _ (by decide) (by decide)) (by funext j; exact ga _ _ (by decide) (by decide)) (by funext j; exact ga _ _ (by decide) (by decide)) (by funext j; exact ga _ _ (by decide) (by decide)) (by funext j; exact ga _ _ (by decide) (by decide)) (by funext j; exact ga _ _ (by decide) (by decide)) rfl rfl rfl rfl (vo _ (by decide) (by decide)) (vo _ (by decide) (by decide)) (vo _ (by decide) (by decide)) (vo _ (by decide) (by decide)) (vo _ (by decide) (by decide)), HP_c M.hp (gs _ (by decide) (by decide) (by decide)) (gs _ (by decide) (by decide) (by decide)) (by funext j; exact ga _ _ (by decide) (by decide)) (by funext j; exact ga _ _ (by decide) (by decide)), M.tk, ⟨?_, M.hf⟩, ⟨fun j => ?_, fun j => ?_, fun j => ?_, fun j => ?_, fun j => ?_, fun j => ?_, fun j => ?_, fun j => ?_, ?_, ?_, ?_, ?_, ?_, ?_⟩, fun j hj => ?_, fun j => ⟨(M.po j).1, fun hj => ?_⟩, M.nb, rk_c (v := v) rfl M.rk⟩
  · rw [gs _ (by decide) (by decide) (by decide)]; exact M.hd
  · rw [ga _ _ (by decide) (by decide)]; exact V.a11 j
  · rw [ga _ _ (by decide) (by decide)]; exact V.a12 j
  · rw [ga _ _ (by decide) (by decide)]; exact V.a13 j
  · rw [ga _ _ (by decide) (by decide)]; exact V.a15 j
  · rw [ga _ _ (by decide) (by decide)]; exact V.a16 j
  · rw [ga _ _ (by decide) (by decide)]; exact V.a17 j
  · rw [ga _ _ (by decide) (by decide)]; exact V.a18 j
  · rw [g19, f8, V.a19, V.a19]
  · rw [gs _ (by decide) (by decide) (by decide)]; exact V.s0
  · rw [gs _ (by decide) (by decide) (by decide)]; exact V.s1
  · rw [gs _ (by decide) (by decide) (by decide)]; exact V.s2
  · show (ct1 u (v.1 21)).1 3 = v.1 22 + 1
    rw [g1, V.s3]
  · show (ct1 u (v.1 21)).1 4 = v.1 23 + (if v.1 21 = 0 then 1 else 0)
    rw [g2, V.s4]
  · show u.1 5 + v.1 21 = v.1 24 + v.1 21
    rw [V.s5]
  · show _ = (thE (thD (thC (thB v) (s : Int)))).2 20 (((v.1 19).toNat + 4 - j) % 4)
    rw [g4, f20]
    by_cases e : j = 0
    · subst e
      rw [if_pos rfl, if_pos (by omega), M.wn 0 (by decide)]
      exact congrArg (fun i => v.2 20 i + v.1 21) (by omega)
    · rw [if_neg e, if_neg (by omega)]; exact M.wn j hj
  · have hj2 : v.1 0 ≤ (j : Int) := hj
    have h := (M.po j).2 hj2
    rw [f8, if_neg (by omega)]
    exact h
theorem SM_touch (M : SM u v B) (hB : B + 4 ≤ 2048) {s p : Nat} (hs : (s : Int) < v.1 0) (hp : p < 8) (hb : BT v) :
    SM (tcM u s p) (thM v (s : Int) (p : Int)) (B + 4) ∧ (thM v (s : Int) (p : Int)).1 21 = toR u (8 * s + p) ∧ (detM u (8 * s + p)).1 11 ≤ 47 ∧ 0 ≤ toR u (8 * s + p) ∧ toR u (8 * s + p) ≤ 310 := by
  have M0 := SM_26 (x := 0) (SM_26 (x := 0) M (by decide)) (by decide)
  have hu : u.1 8 < u.1 7 := by rw [M.hd, M.pg.F]; exact M.hf
  have hr := toR_b (p := 8 * s + p) M.ci hu
  have eP : 8 * (s : Int) + (p : Int) = ((8 * s + p : Nat) : Int) := by omega
  obtain ⟨a, b, d, e, f, g, h⟩ := PG_tou (p := 8 * s + p) M0.pg M0.hp hB (by show _ < 8 * v.1 0; omega) M0.hd M0.hf M0.tk
  have M1 : SM (to1 u (8 * s + p)) (thA (stS (stS v 26 0) 26 0) ((8 * s + p : Nat) : Int)) (B + 4) := by
    refine SM_fr M0 a b e f g (fun y j h1 h2 => to1_A (by omega) (by omega) (by omega) (by omega) (by omega) (by omega)) (fun y j h => thA_A (by omega) (by omega) (by omega) (by omega)) (fun k h => to1_S (by omega) (by omega) (by omega) (by omega) (by omega)) (fun k h => thA_S (by omega) (by omega) (by omega))
  have hb1 : BT (thA (stS (stS v 26 0) 26 0) ((8 * s + p : Nat) : Int)) := by
    obtain ⟨b1, b2, b3, b4, b5⟩ := hb
    refine ⟨fun j => ?_, fun j => ?_, ?_, ?_, ?_⟩
    · rw [thA_A (by decide) (by decide) (by decide) (by decide)]; exact b1 j
    · rw [thA_A (by decide) (by decide) (by decide) (by decide)]; exact b2 j
    · rw [thA_S (by decide) (by decide) (by decide)]; exact b3
    · rw [thA_S (by decide) (by decide) (by decide)]; exact b4
    · rw [thA_S (by decide) (by decide) (by decide)]; exact b5
  have M2 := SM_ct (s := s) M1 (by rw [thA_S (by decide) (by decide) (by decide)]; exact hs) hb1 (by rw [d]; omega)
  rw [d] at M2
  unfold tcM thM
  rw [eP]
  refine ⟨M2, d, h, hr.1, by omega⟩
theorem SM_addNeed (M : SM u v B) {s o : Nat} (hs : (s : Int) < v.1 0) (ho : (o : Int) < v.1 0) (hso : s ≠ o) (h2 : ral v s 6 o = false) : SM (anC u s o) (anM v s o) B := by
  have V := M.sv
  have i0 := M.mi.s0
  obtain ⟨rk, hk⟩ := M.rk
  have hr := RK_an hk M.mi M.nb hs ho hso h2
  have hci : CI (anC u s o) := CI_A M.ci (by have := bOr_bd (o := o) (M.ci.a15 s) (by omega); exact this) (by decide) (by decide)
  refine ⟨PG_c M.pg hci (anM_I M.mi (by omega)) rfl rfl rfl rfl rfl rfl rfl rfl rfl rfl rfl rfl rfl rfl rfl rfl rfl rfl rfl, HP_c M.hp rfl rfl rfl rfl, M.tk, ⟨M.hd, M.hf⟩, ⟨V.a11, V.a12, V.a13, fun j => ?_, V.a16, V.a17, V.a18, V.a19, V.s0, V.s1, V.s2, V.s3, V.s4, V.s5⟩, M.wn, fun j => ⟨(M.po j).1, fun hj => ?_⟩, hr.2, hr.1⟩
  · unfold anC anM
    rw [stA_e, stA_e, V.a15]
    show (if j = s then _ else u.2 15 j) = (if j = s then _ else v.2 7 j)
    rw [V.a15]
  · have hj2 : v.1 0 ≤ (j : Int) := hj
    have h := (M.po j).2 hj2
    refine ⟨h.1, h.2.1, h.2.2.1, ?_, h.2.2.2.2⟩
    unfold anM
    rw [stA_e, if_neg (by omega)]
    exact h.2.2.2.1
theorem SM_addService (M : SM u v B) {n : Nat} (hn : u.1 14 = (n : Int)) (hn6 : n < 6) (hcap : u.1 15 = 0 ∨ u.1 15 = 10) {w c d : Int} (hx : asX w c d = false) (hc : 0 ≤ c ∧ c ≤ 65535) : SM (asC u n w c d) (asM v w c d) B := by
  obtain ⟨hw, hc2, hd⟩ := asX_f hx
  have S := M.pg
  have W := S.w
  have V := M.sv
  have hv0 : v.1 0 = (n : Int) := by rw [← S.n]; exact hn
  have hmi := asM_I M.mi hx (by omega)
  have hci := CI_as M.ci hn hn6 hcap hw hc (by omega : 0 ≤ d ∧ d ≤ 20)
  have v9 : ∀ j, (asM v w c d).2 9 j = if 8 * n ≤ j ∧ j < 8 * n + 8 then 2 else v.2 9 j := fun j => by
    show (if 8 * (v.1 0).toNat ≤ j ∧ j < 8 * (v.1 0).toNat + 8 then (2 : Int) else v.2 9 j) = _
    rw [hv0, Int.toNat_natCast]
  have v1 : ∀ j, (asM v w c d).2 1 j = if j = n then w else v.2 1 j := fun j => by
    show (stA (stA (stA (stS v 26 0) 1 (v.1 0).toNat w) 2 (v.1 0).toNat c) 3 (v.1 0).toNat d).2 1 j = _
    rw [stA_o (by decide), stA_o (by decide), stA_e, hv0, Int.toNat_natCast]; rfl
  have v2 : ∀ j, (asM v w c d).2 2 j = if j = n then c else v.2 2 j := fun j => by
    show (stA (stA (stA (stS v 26 0) 1 (v.1 0).toNat w) 2 (v.1 0).toNat c) 3 (v.1 0).toNat d).2 2 j = _
    rw [stA_o (by decide), stA_e, stA_o (by decide), hv0, Int.toNat_natCast]; rfl
  have v3 : ∀ j, (asM v w c d).2 3 j = if j = n then d else v.2 3 j := fun j => by
    show (stA (stA (stA (stS v 26 0) 1 (v.1 0).toNat w) 2 (v.1 0).toNat c) 3 (v.1 0).toNat d).2 3 j = _
    rw [stA_e, stA_o (by decide), stA_o (by decide), hv0, Int.toNat_natCast]; rfl
  have vn : (asM v w c d).1 0 = v.1 0 + 1 := rfl
  have uA : ∀ a j, a < 11 → (asC u n w c d).2 a j = u.2 a j := fun a j h => asA_lo h
  have uP : ∀ a j, 22 ≤ a → a < 26 → (asC u n w c d).2 a j = if 8 * n ≤ j ∧ j < 8 * n + 8 then asW a else u.2 a j := fun a j h1 h2 => asA_p ⟨h1, h2⟩
  have uS : ∀ k, k ≠ 13 → k ≠ 14 → k ≠ 15 → (asC u n w c d).1 k = u.1 k := fun k h1 h2 h3 => asS_o h1 h2 h3
  have u14 : (asC u n w c d).1 14 = u.1 14 + 1 := rfl
  have P : PG (asC u n w c d) (asM v w c d) 99 99 := by
    refine ⟨hci, hmi, ⟨?_, ?_, ?_, ?_, fun q => ?_, fun f hf => ?_, ?_, fun q hq ht hr => ?_, fun f hf h0 => ?_, fun q hq ht h1 => ?_, S.r0⟩, ⟨fun f hf h0 => ?_, fun q hq ht h1 => ?_, fun f g hf hg h0 e => W.c f g hf hg h0 e, fun f hf h0 => W.d f hf h0, fun y hy => ?_, fun q hq ht h1 => ?_, W.g, fun q hq => ?_, fun q hq => ?_⟩⟩
    · rw [u14, vn, S.n]
    · rw [uS _ (by decide) (by decide) (by decide)]; exact S.F
    · rw [uS _ (by decide) (by decide) (by decide)]; exact S.R
    · rw [uS _ (by decide) (by decide) (by decide)]; exact S.K
    · rw [uP _ _ (by decide) (by decide), v9, S.sz]; rfl
    · rw [uA _ _ (by decide)]; exact S.hd f hf
    · refine Eq.trans ?_ S.o
      exact OL_c (uS _ (by decide) (by decide) (by decide)) (by funext j; exact uA _ _ (by decide))
    · rw [uP _ _ (by decide) (by decide)]
      by_cases e : 8 * n ≤ q ∧ q < 8 * n + 8
      · rw [if_pos e]
        show (45 : Int) = plc (v.2 10 q)
        rw [W.i q (by omega)]; rfl
      · rw [if_neg e]
        rw [vn] at hq
        exact S.pl q (by omega) ht hr
    · have h0' : 0 ≤ v.2 12 f := h0
      have w1 := W.a f hf h0'
      show (asC u n w c d).2 24 (v.2 12 f).toNat = f ∧ (asC u n w c d).2 25 (v.2 12 f).toNat = v.2 13 f
      rw [uP _ _ (by decide) (by decide), uP _ _ (by decide) (by decide), if_neg (by omega), if_neg (by omega)]
      exact S.fr f hf h0'
    · rw [uP _ _ (by decide) (by decide)]
      by_cases e : 8 * n ≤ q ∧ q < 8 * n + 8
      · rw [if_pos e]; rfl
      · rw [if_neg e]
        rw [vn] at hq
        exact S.rf q (by omega) ht h1
    · have w1 := W.a f hf h0
      rw [vn]
      exact ⟨w1.1, by show v.2 12 f < _; omega, w1.2.2.1, w1.2.2.2⟩
    · have h1' : v.2 10 q = 1 := h1
      rcases Int.lt_or_le (q : Int) (8 * v.1 0) with h | h
      · exact W.b q h ht h1'
      · rw [W.i q h] at h1'; exact absurd h1' (by decide)
    · have y1 := W.e y hy
      rw [vn]
      exact ⟨y1.1, by omega, y1.2.2.1, y1.2.2.2⟩
    · have h1' : v.2 10 q = 2 := h1
      rcases Int.lt_or_le (q : Int) (8 * v.1 0) with h | h
      · exact W.f q h ht h1'
      · rw [W.i q h] at h1'; exact absurd h1' (by decide)
    · rw [v9]
      by_cases e : 8 * n ≤ q ∧ q < 8 * n + 8
      · rw [if_pos e]; decide
      · rw [if_neg e]
        rw [vn] at hq
        exact W.h q (by omega)
    · rw [vn] at hq
      exact W.i q (by omega)
  obtain ⟨h1, h2, h3, h4⟩ := M.hp
  have H : HP (asC u n w c d) B := by
    have e0 : (asC u n w c d).2 0 = u.2 0 := by funext j; exact uA _ _ (by decide)
    have e6 : (asC u n w c d).1 6 = u.1 6 := uS _ (by decide) (by decide) (by decide)
    refine ⟨?_, fun q hq hq8 => ?_, ?_, fun q hq => ?_⟩
    · unfold evOK at h1 ⊢; rw [e0, e6]; exact h1
    · rw [e0, e6, uP _ _ (by decide) (by decide)]
      by_cases e : 8 * n ≤ q ∧ q < 8 * n + 8
      · rw [if_pos e]; exact (h4 q (by omega)).2
      · rw [if_neg e]
        rw [u14] at hq8
        exact h2 q hq (by omega)
    · rw [e6]
      have : rkS (asC u n w c d) = rkS u := sumN_c fun q hq => by
        show rkc ((asC u n w c d).2 23 q) = rkc (u.2 23 q)
        rw [uP _ _ (by decide) (by decide)]
        by_cases e : 8 * n ≤ q ∧ q < 8 * n + 8
        · rw [if_pos e, (h4 q (by omega)).1]; rfl
        · rw [if_neg e]
      rw [this]; exact h3
    · rw [u14] at hq
      rw [e0, e6, uP _ _ (by decide) (by decide), if_neg (by omega)]
      exact h4 q (by omega)
  have hz := (M.po n).2 (by omega)
  have e7 : (asM v w c d).2 7 = v.2 7 := rfl
  have uV : ∀ a j, 11 ≤ a → a < 20 → (asC u n w c d).2 a j = if j = n then asV w c d a else u.2 a j := fun a j g1 g2 => asA_s ⟨g1, g2⟩
  refine ⟨P, H, ?_, ⟨?_, M.hf⟩, ⟨fun j => ?_, fun j => ?_, fun j => ?_, fun j => ?_, fun j => ?_, fun j => ?_, fun j => ?_, fun j => ?_, ?_, ?_, ?_, ?_, ?_, ?_⟩, fun j hj => ?_, fun j => ⟨fun hj => ?_, fun hj => ?_⟩, fun s k hk g => ?_, rk_c (v := v) rfl M.rk⟩
  · show tk (asM v w c d) ≤ v.1 15
    have ht : tk v ≤ v.1 15 := M.tk
    rw [tk_SL] at ht ⊢
    have e : (SL v).map (fun y => (asM v w c d).2 9 y.toNat) = (SL v).map (fun y => v.2 9 y.toNat) := List.map_congr_left fun y hy => by
      have y1 := W.e y hy
      rw [v9, if_neg (by omega)]
    show ((SL v).map (fun y => (asM v w c d).2 9 y.toNat)).sum ≤ _
    rw [e]
    exact ht
  · rw [uS _ (by decide) (by decide) (by decide)]; exact M.hd
  · rw [uV _ _ (by decide) (by decide), v1, V.a11]; rfl
  · rw [uV _ _ (by decide) (by decide), v2, V.a12]; rfl
  · rw [uV _ _ (by decide) (by decide), v3, V.a13]; rfl
  · rw [uV _ _ (by decide) (by decide), V.a15]
    show (if j = n then (0 : Int) else v.2 7 j) = v.2 7 j
    split
    · rename_i e; rw [e]; exact hz.2.2.2.1.symm
    · rfl
  · rw [uV _ _ (by decide) (by decide), V.a16]
    show (if j = n then (0 : Int) else v.2 4 j) = v.2 4 j
    split
    · rename_i e; rw [e]; exact hz.1.symm
    · rfl
  · rw [uV _ _ (by decide) (by decide), V.a17]
    show (if j = n then (0 : Int) else v.2 5 j) = v.2 5 j
    split
    · rename_i e; rw [e]; exact hz.2.1.symm
    · rfl
  · rw [uV _ _ (by decide) (by decide), V.a18]
    show (if j = n then (0 : Int) else v.2 6 j) = v.2 6 j
    split
    · rename_i e; rw [e]; exact hz.2.2.1.symm
    · rfl
  · rw [uV _ _ (by decide) (by decide), V.a19]
    show (if j = n then (0 : Int) else v.2 8 j) = v.2 8 j
    split
    · rename_i e; rw [e]; exact hz.2.2.2.2.symm
    · rfl
  · rw [uS _ (by decide) (by decide) (by decide)]; exact V.s0
  · rw [uS _ (by decide) (by decide) (by decide)]; exact V.s1
  · rw [uS _ (by decide) (by decide) (by decide)]; exact V.s2
  · rw [uS _ (by decide) (by decide) (by decide)]; exact V.s3
  · rw [uS _ (by decide) (by decide) (by decide)]; exact V.s4
  · rw [uS _ (by decide) (by decide) (by decide)]; exact V.s5
  · rw [uA _ _ (by decide)]; exact M.wn j hj
  · rw [vn] at hj
    rw [v2]
    by_cases e : j = n
    · rw [if_pos e]; exact hc2
    · rw [if_neg e]; exact (M.po j).1 (by omega)
  · rw [vn] at hj
    exact (M.po j).2 (by omega)
  · rw [vn]
    have g2 : ndB v s k = true := by rw [ndB_x] at g ⊢; exact g
    have := M.nb s k hk g2
    omega
end OPT
