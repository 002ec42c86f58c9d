/-! TOGETHER: services, ticks -/
def SV (u v : SS) : Prop := (∀ s, u.2 11 s = v.2 1 s) ∧ (∀ s, u.2 12 s = v.2 2 s) ∧ (∀ s, u.2 13 s = v.2 3 s) ∧ (∀ s, u.2 15 s = v.2 7 s) ∧ (∀ s, u.2 16 s = v.2 4 s) ∧ (∀ s, u.2 17 s = v.2 5 s) ∧ (∀ s, u.2 18 s = v.2 6 s) ∧ (∀ s, u.2 19 s = v.2 8 s) ∧
  u.1 0 = v.1 18 ∧ u.1 1 = v.1 19 ∧ u.1 2 = v.1 25 ∧ u.1 3 = v.1 22 ∧ u.1 4 = v.1 23 ∧ u.1 5 = v.1 24
section SVA
variable {u v : SS}
theorem SV.a11 (h : SV u v) (s : Nat) : u.2 11 s = v.2 1 s := h.1 s
theorem SV.a12 (h : SV u v) (s : Nat) : u.2 12 s = v.2 2 s := h.2.1 s
theorem SV.a13 (h : SV u v) (s : Nat) : u.2 13 s = v.2 3 s := h.2.2.1 s
theorem SV.a15 (h : SV u v) (s : Nat) : u.2 15 s = v.2 7 s := h.2.2.2.1 s
theorem SV.a16 (h : SV u v) (s : Nat) : u.2 16 s = v.2 4 s := h.2.2.2.2.1 s
theorem SV.a17 (h : SV u v) (s : Nat) : u.2 17 s = v.2 5 s := h.2.2.2.2.2.1 s
theorem SV.a18 (h : SV u v) (s : Nat) : u.2 18 s = v.2 6 s := h.2.2.2.2.2.2.1 s
theorem SV.a19 (h : SV u v) (s : Nat) : u.2 19 s = v.2 8 s := h.2.2.2.2.2.2.2.1 s
theorem SV.s0 (h : SV u v) : u.1 0 = v.1 18 := h.2.2.2.2.2.2.2.2.1
theorem SV.s1 (h : SV u v) : u.1 1 = v.1 19 := h.2.2.2.2.2.2.2.2.2.1
theorem SV.s2 (h : SV u v) : u.1 2 = v.1 25 := h.2.2.2.2.2.2.2.2.2.2.1
theorem SV.s3 (h : SV u v) : u.1 3 = v.1 22 := h.2.2.2.2.2.2.2.2.2.2.2.1
theorem SV.s4 (h : SV u v) : u.1 4 = v.1 23 := h.2.2.2.2.2.2.2.2.2.2.2.2.1
theorem SV.s5 (h : SV u v) : u.1 5 = v.1 24 := h.2.2.2.2.2.2.2.2.2.2.2.2.2
end SVA
def WN (u v : SS) : Prop := ∀ j : Nat, j < 4 → u.2 4 j = v.2 20 (((v.1 19).toNat + 4 - j) % 4)
def PO (v : SS) : Prop := ∀ s : Nat, ((s : Int) < v.1 0 → v.2 2 s = 97 ∨ v.2 2 s = 110) ∧ (v.1 0 ≤ (s : Int) → v.2 4 s = 0 ∧ v.2 5 s = 0 ∧ v.2 6 s = 0 ∧ v.2 7 s = 0 ∧ v.2 8 s = 0)
def SM (u v : SS) (B : Int) : Prop := PG u v 99 99 ∧ HP u B ∧ TK v ∧ (u.1 8 = v.1 14 ∧ v.1 14 < v.1 11) ∧ SV u v ∧ WN u v ∧ PO v ∧ NB v ∧ ∃ rk, RK v rk
section SMA
variable {u v : SS} {B : Int}
theorem SM.pg (M : SM u v B) : PG u v 99 99 := M.1
theorem SM.hp (M : SM u v B) : HP u B := M.2.1
theorem SM.tk (M : SM u v B) : TK v := M.2.2.1
theorem SM.hd (M : SM u v B) : u.1 8 = v.1 14 := M.2.2.2.1.1
theorem SM.hf (M : SM u v B) : v.1 14 < v.1 11 := M.2.2.2.1.2
theorem SM.sv (M : SM u v B) : SV u v := M.2.2.2.2.1
theorem SM.wn (M : SM u v B) : WN u v := M.2.2.2.2.2.1
theorem SM.po (M : SM u v B) : PO v := M.2.2.2.2.2.2.1
theorem SM.nb (M : SM u v B) : NB v := M.2.2.2.2.2.2.2.1
theorem SM.rk (M : SM u v B) : ∃ rk, RK v rk := M.2.2.2.2.2.2.2.2
theorem SM.ci (M : SM u v B) : CI u := M.1.ci
theorem SM.mi (M : SM u v B) : MI v := M.1.mi
theorem nb_c {v' : SS} (h7 : v'.2 7 = v.2 7) (h0 : v'.1 0 = v.1 0) (h : NB v) : NB v' := fun s k hk h2 => by
  rw [h0]
  refine h s k hk ?_
  rw [ndB_x] at h2 ⊢
  rw [← h7]
  exact h2
theorem rk_c {v' : SS} (h7 : v'.2 7 = v.2 7) (h : ∃ rk, RK v rk) : ∃ rk, RK v' rk := by
  obtain ⟨rk, h1, h2⟩ := h
  refine ⟨rk, h1, fun s k hs hk h3 => h2 s k hs hk ?_⟩
  rw [ndB_x] at h3 ⊢
  rw [← h7]
  exact h3
theorem SM_26 {x : Int} (M : SM u v B) (hx : 0 ≤ x ∧ x ≤ 10) : SM u (stS v 26 x) B :=
  ⟨PG_c M.pg M.ci (MI_S M.mi hx) rfl rfl rfl rfl rfl rfl rfl rfl rfl rfl rfl rfl rfl rfl rfl rfl rfl rfl rfl, M.hp, M.tk, ⟨M.hd, M.hf⟩, M.sv, M.wn, M.po, M.nb, rk_c (v := v) rfl M.rk⟩
/-- scores -/
theorem cp_ip (S : PG u v 99 99) {s : Nat} (hs : (s : Int) < v.1 0) {x : Int} (hx : 0 ≤ x ∧ x ≤ 3) : cpN u s (plc x) = sumN 8 (ipf v (s : Int) x) := by
  refine sumN_c fun j hj => ?_
  unfold cpI ipf
  rw [Int.toNat_natCast]
  have i0 := S.mi.s0
  have h := S.pl (8 * s + j) (by omega) (by omega) (by omega)
  have ha := S.mi.a10 (8 * s + j)
  refine congrArg bI (decide_eq_decide.mpr ?_)
  rw [h]
  exact ⟨fun e => plc_i ha hx e, fun e => by rw [e]⟩
theorem csc_sc (S : PG u v 99 99) (V : SV u v) {s : Nat} (hs : (s : Int) < v.1 0) : csc u s = scM v (s : Int) := by
  unfold csc scM
  rw [show (102 : Int) = plc 1 from rfl, show (115 : Int) = plc 2 from rfl, show (100 : Int) = plc 3 from rfl, cp_ip S hs (by decide), cp_ip S hs (by decide), cp_ip S hs (by decide), V.a11, V.a18, Int.toNat_natCast]
theorem cw_ws (S : PG u v 99 99) (V : SV u v) : ∀ n : Nat, (n : Int) ≤ v.1 0 → cwst u n = wst v n
  | 0, _ => rfl
  | n + 1, h => by
    have ih := cw_ws S V n (by omega)
    have hb := cwst_b u n
    rw [cwst_s, ih, V.a16, csc_sc S V (s := n) (by omega)]
    show _ = if v.2 4 n = 0 ∧ (wst v n < 0 ∨ scM v (wst v n) < scM v n) then (n : Int) else wst v n
    by_cases c : wst v n < 0
    · by_cases d : v.2 4 n = 0
      · rw [if_pos ⟨d, Or.inl c⟩, if_pos ⟨d, Or.inl c⟩]
      · rw [if_neg (fun q => d q.1), if_neg (fun q => d q.1)]
    · have e := csc_sc S V (s := (wst v n).toNat) (by omega)
      rw [e, show (((wst v n).toNat : Nat) : Int) = wst v n by omega]
theorem cs_pr (W : WN u v) : csum u = prs v := by
  unfold csum prs
  rw [W 0 (by decide), W 1 (by decide), W 2 (by decide), W 3 (by decide)]
  generalize (v.1 19).toNat = t
  have h : t % 4 = 0 ∨ t % 4 = 1 ∨ t % 4 = 2 ∨ t % 4 = 3 := by omega
  rcases h with h | h | h | h
  · rw [show (t + 4 - 0) % 4 = 0 by omega, show (t + 4 - 1) % 4 = 3 by omega, show (t + 4 - 2) % 4 = 2 by omega, show (t + 4 - 3) % 4 = 1 by omega]; omega
  · rw [show (t + 4 - 0) % 4 = 1 by omega, show (t + 4 - 1) % 4 = 0 by omega, show (t + 4 - 2) % 4 = 3 by omega, show (t + 4 - 3) % 4 = 2 by omega]; omega
  · rw [show (t + 4 - 0) % 4 = 2 by omega, show (t + 4 - 1) % 4 = 1 by omega, show (t + 4 - 2) % 4 = 0 by omega, show (t + 4 - 3) % 4 = 3 by omega]; omega
  · rw [show (t + 4 - 0) % 4 = 3 by omega, show (t + 4 - 1) % 4 = 2 by omega, show (t + 4 - 2) % 4 = 1 by omega, show (t + 4 - 3) % 4 = 0 by omega]; omega
theorem knM_16 {s j : Nat} : (knM u s).2 16 j = if j = s then 1 else u.2 16 j := by
  show (stA (stA (knL u s 8) 16 s 1) 17 s ((knL u s 8).1 1)).2 16 j = _
  rw [stA_o (by decide), stA_e, knL_A (by decide) (by decide) (by decide) (by decide) (by decide) (by decide)]
theorem knM_17 {s j : Nat} : (knM u s).2 17 j = if j = s then u.1 1 else u.2 17 j := by
  show (stA (stA (knL u s 8) 16 s 1) 17 s ((knL u s 8).1 1)).2 17 j = _
  rw [stA_e, stA_o (by decide), knL_A (by decide) (by decide) (by decide) (by decide) (by decide) (by decide), knL_S (by decide) (by decide) (by decide)]
theorem kM_4 {s j : Nat} : (kM v (s : Int)).2 4 j = if j = s then 1 else v.2 4 j := by
  show (rml _ _ _).2 4 j = _
  rw [rml_A (by decide), klF_A (by decide) (by decide)]
  show (stA (stA v 4 (s : Int).toNat 1) 5 (s : Int).toNat (v.1 19)).2 4 j = _
  rw [stA_o (by decide), stA_e, Int.toNat_natCast]
theorem kM_5 {s j : Nat} : (kM v (s : Int)).2 5 j = if j = s then v.1 19 else v.2 5 j := by
  show (rml _ _ _).2 5 j = _
  rw [rml_A (by decide), klF_A (by decide) (by decide)]
  show (stA (stA v 4 (s : Int).toNat 1) 5 (s : Int).toNat (v.1 19)).2 5 j = _
  rw [stA_e, stA_o (by decide), Int.toNat_natCast]
theorem SM_kill {s : Nat} (M : SM u v B) (hB : B ≤ 2048) (hs : (s : Int) < v.1 0) (hm : v.1 21 + 10 ≤ 100000000) (hd : v.1 25 + 1 ≤ 1000000) : SM (knM u s) (kM v (s : Int)) B := by
  have V := M.sv
  obtain ⟨a, b, d⟩ := PG_kill hB M.pg M.hp hs hm hd (by rw [V.s2]; exact hd) M.tk
  have uA : ∀ x j, x ≠ 0 → x ≠ 23 → x ≠ 24 → x ≠ 25 → x ≠ 3 → x ≠ 2 → x ≠ 16 → x ≠ 17 → (knM u s).2 x j = u.2 x j := fun x j h0 h1 h2 h3 h4 h5 h6 h7 => knM_A h0 h1 h2 h3 h4 h5 h6 h7
  have vA : ∀ x j, x ≠ 10 → x ≠ 17 → x ≠ 12 → x ≠ 13 → x ≠ 4 → x ≠ 5 → (kM v (s : Int)).2 x j = v.2 x j := fun x j h1 h2 h3 h4 h5 h6 => kM_A h1 h2 h3 h4 h5 h6
  have uS : ∀ t, t ≠ 10 → t ≠ 11 → t ≠ 6 → t ≠ 2 → (knM u s).1 t = u.1 t := fun t h1 h2 h3 h4 => knM_S h1 h2 h3 h4
  have vS : ∀ k, k ≠ 16 → k ≠ 25 → (kM v (s : Int)).1 k = v.1 k := fun k h1 h2 => kM_S h1 h2
  refine ⟨a, b, d, ⟨?_, ?_⟩, ⟨fun j => ?_, fun j => ?_, fun j => ?_, fun j => ?_, fun j => ?_, fun j => ?_, fun j => ?_, fun j => ?_, ?_, ?_, ?_, ?_, ?_, ?_⟩, fun j hj => ?_, fun j => ⟨fun hj => ?_, fun hj => ?_⟩, nb_c (v := v) (by funext j; exact vA _ _ (by decide) (by decide) (by decide) (by decide) (by decide) (by decide)) (vS _ (by decide) (by decide)) M.nb, rk_c (v := v) (by funext j; exact vA _ _ (by decide) (by decide) (by decide) (by decide) (by decide) (by decide)) M.rk⟩
  · rw [uS _ (by decide) (by decide) (by decide) (by decide), vS _ (by decide) (by decide)]; exact M.hd
  · rw [vS _ (by decide) (by decide), vS _ (by decide) (by decide)]; exact M.hf
  · rw [uA _ _ (by decide) (by decide) (by decide) (by decide) (by decide) (by decide) (by decide) (by decide), vA _ _ (by decide) (by decide) (by decide) (by decide) (by decide) (by decide)]; exact V.a11 j
  · rw [uA _ _ (by decide) (by decide) (by decide) (by decide) (by decide) (by decide) (by decide) (by decide), vA _ _ (by decide) (by decide) (by decide) (by decide) (by decide) (by decide)]; exact V.a12 j
  · rw [uA _ _ (by decide) (by decide) (by decide) (by decide) (by decide) (by decide) (by decide) (by decide), vA _ _ (by decide) (by decide) (by decide) (by decide) (by decide) (by decide)]; exact V.a13 j
  · rw [uA _ _ (by decide) (by decide) (by decide) (by decide) (by decide) (by decide) (by decide) (by decide), vA _ _ (by decide) (by decide) (by decide) (by decide) (by decide) (by decide)]; exact V.a15 j
  · rw [knM_16, kM_4, V.a16]
  · rw [knM_17, kM_5, V.a17, V.s1]
  · rw [uA _ _ (by decide) (by decide) (by decide) (by decide) (by decide) (by decide) (by decide) (by decide), vA _ _ (by decide) (by decide) (by decide) (by decide) (by decide) (by decide)]; exact V.a18 j
  · rw [uA _ _ (by decide) (by decide) (by decide) (by decide) (by decide) (by decide) (by decide) (by decide), vA _ _ (by decide) (by decide) (by decide) (by decide) (by decide) (by decide)]; exact V.a19 j
  · rw [uS _ (by decide) (by decide) (by decide) (by decide), vS _ (by decide) (by decide)]; exact V.s0
  · rw [uS _ (by decide) (by decide) (by decide) (by decide), vS _ (by decide) (by decide)]; exact V.s1
  · rw [knM_2, kM_25, V.s2]
  · rw [uS _ (by decide) (by decide) (by decide) (by decide), vS _ (by decide) (by decide)]; exact V.s3
  · rw [uS _ (by decide) (by decide) (by decide) (by decide), vS _ (by decide) (by decide)]; exact V.s4
  · rw [uS _ (by decide) (by decide) (by decide) (by decide), vS _ (by decide) (by decide)]; exact V.s5
  · rw [uA _ _ (by decide) (by decide) (by decide) (by decide) (by decide) (by decide) (by decide) (by decide), vA _ _ (by decide) (by decide) (by decide) (by decide) (by decide) (by decide), vS _ (by decide) (by decide)]; exact M.wn j hj
  · rw [vS _ (by decide) (by decide)] at hj
    rw [vA _ _ (by decide) (by decide) (by decide) (by decide) (by decide) (by decide)]; exact (M.po j).1 hj
  · rw [vS _ (by decide) (by decide)] at hj
    have h := (M.po j).2 hj
    rw [kM_4, kM_5, if_neg (by omega), if_neg (by omega), vA 6 _ (by decide) (by decide) (by decide) (by decide) (by decide) (by decide), vA 7 _ (by decide) (by decide) (by decide) (by decide) (by decide) (by decide), vA 8 _ (by decide) (by decide) (by decide) (by decide) (by decide) (by decide)]
    exact h
theorem zr_20 {j : Nat} : ∀ {z : Nat}, (zr z v).2 20 j = if j < z then 0 else v.2 20 j
  | 0 => by rw [if_neg (Nat.not_lt_zero _)]; rfl
  | z + 1 => by
    show (stA (zr z v) 20 z 0).2 20 j = _
    rw [stA_e, zr_20]
    by_cases e : j = z
    · rw [if_pos e, if_pos (by omega)]
    · rw [if_neg e]
      by_cases h : j < z
      · rw [if_pos h, if_pos (by omega)]
      · rw [if_neg h, if_neg (by omega)]
theorem fgM_4 {j : Nat} (h : j < 4) : (fgM u).2 4 j = 0 := by
  unfold fgM
  rw [stA_e, stA_e, stA_e, stA_e]
  have : j = 0 ∨ j = 1 ∨ j = 2 ∨ j = 3 := by omega
  rcases this with rfl | rfl | rfl | rfl <;> rfl
/-- all stalls are forgotten -/
theorem SM_fg (M : SM u v B) : SM (fgM u) (zr 4 v) B := by
  have V := M.sv
  have zA : ∀ a, a ≠ 20 → (zr 4 v).2 a = v.2 a := fun a h => by funext j; exact zr_A h
  refine ⟨PG_c M.pg (CI_fg M.ci) (MI_zr M.mi) rfl rfl rfl rfl rfl rfl rfl rfl rfl rfl rfl rfl rfl rfl rfl rfl rfl rfl rfl, HP_c M.hp rfl rfl rfl rfl, M.tk, ⟨M.hd, M.hf⟩, M.sv, fun j hj => ?_, M.po, M.nb, rk_c (v := v) rfl M.rk⟩
  rw [fgM_4 hj, zr_20, if_pos (Nat.mod_lt _ (by decide))]
theorem SM_A (M : SM u v B) (hB : B ≤ 2048) (hm : v.1 21 + 10 ≤ 100000000) (hd : v.1 25 + 1 ≤ 1000000) : SM (cpA u) (tkA v) B := by
  have V := M.sv
  have i0 := M.mi.s0
  unfold cpA tkA
  rw [V.s0, cs_pr M.wn]
  by_cases c : v.1 18 < prs v
  · rw [if_pos c, if_pos c]
    refine SM_fg ?_
    unfold knV
    rw [M.pg.n, cw_ws M.pg V _ (by omega)]
    have hw := wst_bd v (v.1 0).toNat
    by_cases c2 : wst v (v.1 0).toNat < 0
    · rw [if_pos c2, if_neg (by omega)]; exact M
    · rw [if_neg c2, if_pos (by omega)]
      have h := SM_kill (s := (wst v (v.1 0).toNat).toNat) M hB (by omega) hm hd
      rw [show (((wst v (v.1 0).toNat).toNat : Nat) : Int) = wst v (v.1 0).toNat by omega] at h
      exact h
  · rw [if_neg c, if_neg c]; exact M
theorem btM_4 {j : Nat} (h : j < 4) : (btM u).2 4 j = if j = 0 then 0 else u.2 4 (j - 1) := by
  unfold btM
  rw [stA_e]
  have : j = 0 ∨ j = 1 ∨ j = 2 ∨ j = 3 := by omega
  rcases this with rfl | rfl | rfl | rfl <;> rfl
/-- a tick begins -/
theorem SM_B (M : SM u v B) (h1 : v.1 19 + 1 ≤ 1000000) : SM (cpB u) (tkB v) B := by
  have V := M.sv
  have i19 := M.mi.s19
  refine ⟨PG_c M.pg (CI_cpB M.ci (by rw [V.s1]; exact h1)) (MI_tkB M.mi h1) rfl rfl rfl rfl rfl rfl rfl rfl rfl rfl rfl rfl rfl rfl rfl rfl rfl rfl rfl, HP_c M.hp rfl rfl rfl rfl, M.tk, ⟨M.hd, M.hf⟩, ⟨V.a11, V.a12, V.a13, V.a15, V.a16, V.a17, V.a18, V.a19, V.s0, ?_, V.s2, V.s3, V.s4, V.s5⟩, fun j hj => ?_, M.po, M.nb, rk_c (v := v) rfl M.rk⟩
  · show u.1 1 + 1 = v.1 19 + 1
    rw [V.s1]
  · show (btM (stS u 1 (u.1 1 + 1))).2 4 j = (stA (stS v 19 (v.1 19 + 1)) 20 ((v.1 19 + 1) % 4).toNat 0).2 20 (((v.1 19 + 1).toNat + 4 - j) % 4)
    rw [btM_4 hj, stA_e]
    by_cases e : j = 0
    · subst e
      rw [if_pos rfl, if_pos (by omega)]
    · rw [if_neg e, if_neg (by omega)]
      show u.2 4 (j - 1) = v.2 20 _
      rw [M.wn (j - 1) (by omega)]
      exact congrArg (v.2 20) (by omega)
theorem csQ_st (M : SM u v B) {z : Nat} (hz : (z : Int) < v.1 0) : csQ u z = stQ v z := by
  have V := M.sv
  have i0 := M.mi.s0
  have h2 : anyN (u.1 14).toNat (inP u z) = anyN (v.1 0).toNat (wtB v z) := by
    rw [M.pg.n]
    refine anyN_c fun k hk => ?_
    unfold inP wtB
    rw [V.a16, hb_nd (M.ci.a15 k) (by omega), V.a15, ndB_x]
  unfold csQ stQ
  rw [V.a16, V.a13, V.s1, V.a17, V.a12, h2]
  have e1 : decide (0 < v.2 3 z - (v.1 19 - v.2 5 z)) = decide (v.1 19 - v.2 5 z < v.2 3 z) := decide_eq_decide.mpr (by omega)
  have e2 : decide (v.2 2 z ≠ 97) = decide (v.2 2 z = 110) := decide_eq_decide.mpr (by have := (M.po z).1 hz; omega)
  rw [e1, e2]
theorem SM_stp (M : SM u v B) {z : Nat} (hz : (z : Int) < v.1 0) (hb : v.2 6 z + 1 ≤ 1000000) : SM (csp z u) (stp z v) B := by
  have V := M.sv
  have c1 := CI_csp (z := z) M.ci (by rw [V.a18]; exact hb)
  have m1 := MI_stp (z := z) M.mi hb
  unfold csp at c1 ⊢
  unfold stp at m1 ⊢
  rw [csQ_st M hz] at c1 ⊢
  by_cases c : stQ v z = true
  · rw [if_pos c, if_pos c]; exact M
  · rw [if_neg c] at c1 m1
    rw [if_neg c, if_neg c]
    refine ⟨PG_c M.pg c1 m1 rfl rfl rfl rfl rfl rfl rfl rfl rfl rfl rfl rfl rfl rfl rfl rfl rfl rfl rfl, HP_c M.hp rfl rfl rfl rfl, M.tk, ⟨M.hd, M.hf⟩, ⟨V.a11, V.a12, V.a13, V.a15, fun j => ?_, V.a17, fun j => ?_, V.a19, V.s0, V.s1, V.s2, V.s3, V.s4, V.s5⟩, M.wn, fun j => ⟨(M.po j).1, fun hj => ?_⟩, M.nb, rk_c (v := v) rfl M.rk⟩
    · rw [stA_o (show (16 : Nat) ≠ 18 by decide), stA_e, stA_o (show (4 : Nat) ≠ 6 by decide), stA_e, V.a16]
    · rw [stA_e, stA_e, stA_o (show (18 : Nat) ≠ 16 by decide), stA_o (show (6 : Nat) ≠ 4 by decide), V.a18, V.a18]
    · have hj2 : v.1 0 ≤ (j : Int) := hj
      have h := (M.po j).2 hj2
      rw [stA_o (show (4 : Nat) ≠ 6 by decide), stA_e, if_neg (by omega), stA_e, if_neg (by omega), stA_o (show (6 : Nat) ≠ 4 by decide)]
      exact h
end SMA
theorem SM_stl {B : Int} : ∀ {m z : Nat} {u v : SS}, SM u v B → ((z + m : Nat) : Int) ≤ v.1 0 → (∀ j, z ≤ j → v.2 6 j + 1 ≤ 1000000) → SM (csl m z u) (stl m z v) B
  | 0, _, _, _, M, _, _ => M
  | m + 1, z, u, v, M, h, hb => by
    rw [csl_s, stl_s]
    refine SM_stl (SM_stp M (by omega) (hb z (Nat.le_refl _))) (by rw [stp_S]; omega) fun j hj => ?_
    have h1 := (stp_6 (z := z) (j := j) (v := v)).2
    rw [if_neg (by omega)] at h1
    have := hb j (by omega)
    omega
theorem SM_tick {u v : SS} {B : Int} (M : SM u v B) (hB : B ≤ 2048) (hm : v.1 21 + 10 ≤ 100000000) (hb : BG v 1) : SM (cpM u) (tkM v) B := by
  obtain ⟨b1, b2, b3⟩ := hb
  have A := SM_A M hB hm b2
  have h19 : (tkA v).1 19 = v.1 19 := tkA_S (by decide) (by decide)
  have C := SM_B A (by rw [h19]; exact b1)
  have n0 : (tkB (tkA v)).1 0 = v.1 0 := by show (tkA v).1 0 = _; exact tkA_S (by decide) (by decide)
  have n6 : ∀ j, (tkB (tkA v)).2 6 j = v.2 6 j := fun j => by
    show (stA (stS (tkA v) 19 _) 20 _ 0).2 6 j = _
    rw [stA_o (by decide)]
    show (tkA v).2 6 j = _
    exact tkA_A (by decide) (by decide) (by decide) (by decide) (by decide) (by decide) (by decide)
  unfold cpM tkM
  have i0 := M.mi.s0
  rw [C.pg.n, n0]
  exact SM_stl C (by rw [n0]; omega) fun j _ => by rw [n6]; exact b3 j
theorem tki_s {v : SS} {n : Nat} : tki v (n + 1) = tkM (tki v n) := rfl
theorem tki_21 {v : SS} : ∀ n : Nat, (tki v n).1 21 = v.1 21
  | 0 => rfl
  | n + 1 => by rw [tki_s, tkM_S (by decide) (by decide) (by decide), tki_21 n]
theorem SM_ticks {u v : SS} {B : Int} (M : SM u v B) (hB : B ≤ 2048) (hm : v.1 21 + 10 ≤ 100000000) : ∀ n : Nat, BG v (n + 1) → SM (cti u n) (tki v n) B
  | 0, _ => M
  | n + 1, hb => by
    have hb2 : BG v (1 + (n : Int)) := by
      obtain ⟨b1, b2, b3⟩ := hb
      exact ⟨by omega, by omega, fun j => by have := b3 j; omega⟩
    have h := (tki_I M.mi n 1 (by decide) hb2).2
    exact SM_tick (SM_ticks M hB hm n (by
      obtain ⟨b1, b2, b3⟩ := hb
      exact ⟨by omega, by omega, fun j => by have := b3 j; omega⟩)) hB (by rw [tki_21]; exact hm) h
