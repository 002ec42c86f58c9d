/-! TOGETHER: the history of the class; taking pages in -/
def lpl (ev : Nat → Int) : Nat → Nat → Int
  | 0, _ => 45
  | z + 1, p => if p = (bShr (ev z) 8).toNat then bAnd (ev z) 255 % 65536 else lpl ev z p
theorem lpl_s {ev : Nat → Int} {z p : Nat} : lpl ev (z + 1) p = if p = (bShr (ev z) 8).toNat then bAnd (ev z) 255 % 65536 else lpl ev z p := rfl
theorem lpl_c {e e' : Nat → Int} {p : Nat} : ∀ {z : Nat}, (∀ j, j < z → e j = e' j) → lpl e z p = lpl e' z p
  | 0, _ => rfl
  | z + 1, h => by rw [lpl_s, lpl_s, h z (by omega), lpl_c (fun j hj => h j (by omega))]
theorem rpM_1 {u : SS} {p : Nat} (hp : p < 48) : (rpM u).2 1 p = lpl (u.2 0) (u.1 6).toNat p := by
  unfold rpM
  generalize (u.1 6).toNat = z
  induction z with
  | zero =>
    show (if p < 48 then (45 : Int) else _) = 45
    rw [if_pos hp]
  | succ z ih =>
    show (stA (rpE z (rpC u 48)) 1 (bShr ((rpC u 48).2 0 z) 8).toNat (bAnd ((rpC u 48).2 0 z) 255 % 65536)).2 1 p = _
    rw [stA_e, lpl_s, ih]
    rfl
def rkc (c : Int) : Int := if c = 102 then 3 else if c = 115 then 2 else if c = 100 then 1 else 0
theorem rkc_bd (c : Int) : 0 ≤ rkc c ∧ rkc c ≤ 3 := by unfold rkc; split; · decide
                                                       · split; · decide
                                                         · split <;> decide
def rkS (u : SS) : Int := sumN 48 (fun p => rkc (u.2 23 p))
def agQ (u : SS) : Prop := ∀ p : Nat, p < 48 → (p : Int) < 8 * u.1 14 → lpl (u.2 0) (u.1 6).toNat p = u.2 23 p
/-- what the history says; and there is room for it -/
def HP (u : SS) (B : Int) : Prop := evOK u ∧ agQ u ∧ u.1 6 + rkS u ≤ B ∧ ∀ p : Nat, 8 * u.1 14 ≤ (p : Int) → u.2 23 p = 0 ∧ lpl (u.2 0) (u.1 6).toNat p = 45
theorem agQ_ok {u : SS} (I : CI u) (h : agQ u) : agOK u := fun p hp => by
  have := I.s14
  rw [rpM_1 (by omega)]
  exact h p (by omega) hp
theorem HP_c {u u' : SS} {B : Int} (H : HP u B) (h6 : u'.1 6 = u.1 6) (h14 : u'.1 14 = u.1 14) (h0 : u'.2 0 = u.2 0) (h23 : u'.2 23 = u.2 23) : HP u' B := by
  obtain ⟨a, b, c, d⟩ := H
  refine ⟨?_, ?_, ?_, ?_⟩
  · unfold evOK at a ⊢; rw [h6, h0]; exact a
  · unfold agQ at b ⊢; rw [h6, h14, h0, h23]; exact b
  · unfold rkS at c ⊢; rw [h6, h23]; exact c
  · rw [h14, h23, h0, h6]; exact d
theorem HP_fr {u v : SS} {B : Int} (S : PG u v 99 99) (H : HP u B) : frOK u := fun p hp => by
  by_cases h8 : (p : Int) < 8 * v.1 0
  · have e := S.pl p h8 (by have := S.mi.s0; omega) (by have := S.mi.s0; omega)
    have c1 := (plc_1 (S.mi.a10 p)).mp (e.symm.trans hp)
    obtain ⟨f, hf, h2⟩ := S.w.b p h8 (by have := S.mi.s0; omega) c1
    have h24 := (S.fr f hf (by omega)).1
    rw [h2, Int.toNat_natCast] at h24
    omega
  · have := (H.2.2.2 p (by rw [S.n]; omega)).1
    rw [this] at hp
    exact absurd hp (by decide)
theorem HP_w {u : SS} {B B' : Int} (H : HP u B) (h : B ≤ B') : HP u B' := ⟨H.1, H.2.1, Int.le_trans H.2.2.1 h, H.2.2.2⟩
theorem HP_ge {u : SS} {B : Int} {p : Nat} (H : HP u B) (hp : p < 48) : u.1 6 + rkc (u.2 23 p) ≤ B := by
  have h := sumN_pos (p := fun p => rkc (u.2 23 p)) (N := 48) (z := p) (fun j _ => (rkc_bd _).1) hp
  have := H.2.2.1
  unfold rkS at this
  omega
theorem mvM_6 {u : SS} {p : Nat} {c : Int} (h : u.1 6 < 2048) : (mvM u p c).1 6 = u.1 6 + 1 := by
  unfold mvM recM
  rw [if_pos (by exact h)]
  rfl
theorem mvM_0 {u : SS} {p : Nat} {c : Int} (h : u.1 6 < 2048) {j : Nat} : (mvM u p c).2 0 j = if j = (u.1 6).toNat then evc (p : Int) c else u.2 0 j := by
  unfold mvM recM
  rw [if_pos (by exact h)]
  rfl
theorem HP_mv {u : SS} {p : Nat} {c B B' : Int} (I : CI u) (H : HP u B) (hp : p < 48) (hp8 : (p : Int) < 8 * u.1 14) (hc : plC c) (h6 : u.1 6 < 2048) (hB : B + 1 + rkc c - rkc (u.2 23 p) ≤ B') : HP (mvM u p c) B' := by
  obtain ⟨a, b, d, g⟩ := H
  have i6 := I.s6
  obtain ⟨-, e2, e3⟩ := evc_b hp hc
  have e1 := plC_b hc
  refine ⟨fun z hz => ?_, fun q hq hq8 => ?_, ?_, fun q hq => ?_⟩
  · rw [mvM_6 h6] at hz
    rw [mvM_0 h6]
    by_cases e : z = (u.1 6).toNat
    · rw [if_pos e, e2]; omega
    · rw [if_neg e]; exact a z (by omega)
  · rw [mvM_S (by decide)] at hq8
    rw [mvM_6 h6, show (u.1 6 + 1).toNat = (u.1 6).toNat + 1 by omega, lpl_s, mvM_0 h6, if_pos rfl, e2, e3, mvM_23, Int.toNat_natCast]
    by_cases e : q = p
    · rw [if_pos e, if_pos e]; omega
    · rw [if_neg e, if_neg e, ← b q hq hq8]
      refine lpl_c fun j hj => ?_
      rw [mvM_0 h6, if_neg (by omega)]
  · unfold rkS at d ⊢
    rw [mvM_6 h6, sumN_up (p := fun p => rkc (u.2 23 p)) (q := fun q => rkc ((mvM u p c).2 23 q)) (z := p) hp (fun j _ hj => by show rkc _ = rkc _; rw [mvM_23, if_neg hj])]
    show u.1 6 + 1 + (_ + (rkc ((mvM u p c).2 23 p) - rkc (u.2 23 p))) ≤ B'
    rw [mvM_23, if_pos rfl]
    omega
  · rw [mvM_S (by decide)] at hq
    have e : q ≠ p := by omega
    refine ⟨by rw [mvM_23, if_neg e]; exact (g q hq).1, ?_⟩
    rw [mvM_6 h6, show (u.1 6 + 1).toNat = (u.1 6).toNat + 1 by omega, lpl_s, mvM_0 h6, if_pos rfl, e2, Int.toNat_natCast, if_neg e, ← (g q hq).2]
    refine lpl_c fun j hj => ?_
    rw [mvM_0 h6, if_neg (by omega)]
theorem HP_dn {u : SS} {p : Nat} {c B : Int} (I : CI u) (H : HP u B) (hB : B ≤ 2048) (hp : p < 48) (hp8 : (p : Int) < 8 * u.1 14) (hc : plC c) (hr : rkc c < rkc (u.2 23 p)) : HP (mvM u p c) B := by
  have h := HP_ge H hp
  have h0 := rkc_bd c
  exact HP_mv I H hp hp8 hc (by omega) (by omega)
/-- the store's size under a page on its way -/
theorem SL_47 {u v : SS} {p r : Nat} (S : PG u v p r) (hp : (p : Int) < 8 * v.1 0) : v.1 16 ≤ 47 := by
  have i0 := S.mi.s0
  have i16 := S.mi.s16
  have h := nd_len 48 ((p : Int) :: SL v) (List.nodup_cons.mpr ⟨fun hm => (S.w.e _ hm).2.2.1 rfl, S.w.g⟩) (fun x hx => by
    rcases List.mem_cons.mp hx with rfl | hx
    · omega
    · have := S.w.e x hx; omega)
  rw [List.length_cons, SL_len] at h
  omega
def TK (v : SS) : Prop := tk v ≤ v.1 15
/-- room is made on both sides -/
theorem PG_mkr {sz B : Int} {t r : Nat} (hB : B ≤ 2048) : ∀ (d : Nat) (u v : SS), PG u v t r → HP u B → 0 ≤ sz ∧ sz ≤ v.1 15 → v.1 21 + 5 * d ≤ 100000000 →
    PG (cmr sz d u) (mkr sz d v) t r ∧ HP (cmr sz d u) B ∧ (cmr sz d u).2 23 t = u.2 23 t ∧ (mkr sz d v).1 21 = v.1 21 + 5 * (v.1 16 - (mkr sz d v).1 16)
  | 0, u, v, S, H, _, _ => ⟨S, H, rfl, by show v.1 21 = v.1 21 + 5 * (v.1 16 - v.1 16); omega⟩
  | d + 1, u, v, S, H, hs, hm => by
    have hk := S.K
    have hR := S.R
    have ht := S.tk
    rw [cmr_s, mkr_s]
    by_cases c : v.1 15 < tk v + sz
    · have h0 : 0 < v.1 16 := by
        have i16 := S.mi.s16
        rcases Int.lt_or_eq_of_le i16.1 with h | h
        · exact h
        · rw [tk_0 h.symm] at c; omega
      rw [if_pos c, if_pos ⟨by omega, by omega⟩]
      have S1 := PG_pop S h0 (by omega)
      have hx0 : u.2 3 0 = v.2 17 0 := by
        have e1 := lsN_get (n := (u.1 11).toNat) (f := u.2 3) (i := 0) (by omega)
        have e2 := SL_hd h0
        have e3 := S.o
        unfold OL at e3
        rw [e3, e2] at e1
        exact (Option.some.inj e1).symm
      obtain ⟨x1, x2, x3, x4⟩ := S.w.e _ (List.mem_iff_getElem?.mpr ⟨0, SL_hd h0⟩)
      have i0 := S.mi.s0
      have hpl := S.pl (v.2 17 0).toNat (by omega) (by omega) (fun e => by rw [e, S.r0] at x4; exact absurd x4 (by decide))
      rw [x4] at hpl
      have H1 : HP (po1 u) B := by
        unfold po1
        rw [hx0]
        refine HP_dn (CI_or S.ci (by omega)) (HP_c H (orM_S (by decide) (by decide)) (orM_S (by decide) (by decide)) (orM_A (by decide)) (orM_A (by decide))) hB (by omega) (by rw [orM_S (by decide) (by decide), S.n]; omega) (Or.inr (Or.inl rfl)) ?_
        rw [orM_A (by decide), hpl]
        decide
      obtain ⟨a, b, e, g⟩ := PG_mkr hB d _ _ S1 H1 ⟨hs.1, by rw [pop_S (by decide) (by decide)]; exact hs.2⟩ (by rw [pop_21]; omega)
      refine ⟨a, b, ?_, ?_⟩
      · rw [e, po1_23, hx0, if_neg (by omega)]
      · rw [g, pop_21, pop_16]; omega
    · rw [if_neg c, if_neg (fun h => c (by omega))]
      exact ⟨S, H, rfl, by omega⟩
theorem mkr_room {sz : Int} : ∀ (d : Nat) (v : SS), MI v → sz ≤ v.1 15 → v.1 16 < d → v.1 21 + 5 * d ≤ 100000000 → tk (mkr sz d v) + sz ≤ v.1 15
  | 0, v, I, _, h, _ => by have := I.s16; omega
  | d + 1, v, I, hs, h, hm => by
    rw [mkr_s]
    by_cases c : v.1 15 < tk v + sz
    · have h0 : 0 < v.1 16 := by
        have i16 := I.s16
        rcases Int.lt_or_eq_of_le i16.1 with h | h
        · exact h
        · rw [tk_0 h.symm] at c; omega
      rw [if_pos c]
      have := mkr_room d (pop v) (MI_pop I (by omega) (by omega)) (by rw [pop_S (by decide) (by decide)]; exact hs) (by rw [pop_16]; omega) (by rw [pop_21]; omega)
      rw [pop_S (by decide) (by decide)] at this
      exact this
    · rw [if_neg c]; omega
/-- a page on its way out of a frame is taken in: into the store, or to the disk -/
def toI (x : SS) (p : Int) : SS := if x.1 15 < x.2 9 p.toNat then toB x p else toC (mkr (x.2 9 p.toNat) ((x.1 16).toNat + 1) x) p
theorem toM_I' (v : SS) (f : Nat) : toM v f = toI (toA v f) (v.2 12 f) := rfl
theorem tk_toC {v : SS} {x : Int} (h : 0 ≤ v.1 16) : tk (toC v x) = tk v + v.2 9 x.toNat := by
  rw [tk_SL, tk_SL, SL_toC h, List.map_append, List.sum_append]
  have e : ∀ j, (toC v x).2 9 j = v.2 9 j := fun j => toC_A (by decide) (by decide)
  simp only [e]
  simp
theorem PG_in {u v : SS} {p r : Nat} {B x : Int} (S : PG u v p r) (hpr : r ≠ p) (hp : (p : Int) < 8 * v.1 0) (hx : x = (p : Int)) (H : HP u B) (hB : B ≤ 2048) (h102 : u.2 23 p = 102) (hT : TK v) (hm : v.1 21 + 300 ≤ 100000000) :
    PG (tiM u p) (toI v x) 99 r ∧ HP (tiM u p) B ∧ (toI v x).1 21 = v.1 21 + tiR u p ∧ TK (toI v x) := by
  subst hx
  have h48 := pg_lt S hp
  have i16 := S.mi.s16
  have h9 := S.w.h p hp
  have hsz := S.sz p
  have hR := S.R
  have hk := S.K
  unfold tiM toI tiR
  rw [Int.toNat_natCast, hR, hsz]
  by_cases c : v.1 15 < v.2 9 p
  · rw [if_pos c, if_pos c, if_pos c]
    refine ⟨PG_toB S hpr hp rfl (by omega), HP_dn S.ci H hB h48 (by rw [S.n]; exact hp) (Or.inr (Or.inl rfl)) (by rw [h102]; decide), rfl, ?_⟩
    show tk (toB v p) ≤ v.1 15
    rw [tk_SL]
    have : tk v ≤ v.1 15 := hT
    rw [tk_SL] at this
    exact this
  · rw [if_neg c, if_neg c, if_neg c]
    have e0 : tiB u p = cmr (v.2 9 p) ((v.1 16).toNat + 1) u := by unfold tiB; rw [hsz, hk]
    rw [e0]
    obtain ⟨a, b, d, g⟩ := PG_mkr hB ((v.1 16).toNat + 1) u v S H (sz := v.2 9 p) ⟨by omega, by omega⟩ (by omega)
    have hrm := mkr_room ((v.1 16).toNat + 1) v S.mi (sz := v.2 9 p) (by omega) (by omega) (by omega)
    have j16 := a.mi.s16
    have hn : (mkr (v.2 9 p) ((v.1 16).toNat + 1) v).1 0 = v.1 0 := mkr_S (by decide) (by decide) _ _
    have hp' : (p : Int) < 8 * (mkr (v.2 9 p) ((v.1 16).toNat + 1) v).1 0 := by rw [hn]; exact hp
    have h47 := SL_47 a hp'
    have hI := mkr_I (sz := v.2 9 p) ((v.1 16).toNat + 1) v S.mi (by omega) (by omega)
    have hR2 : (mkr (v.2 9 p) ((v.1 16).toNat + 1) v).1 15 = v.1 15 := mkr_S (by decide) (by decide) _ _
    refine ⟨PG_toC a hpr hp' rfl (by omega) (by omega), ?_, ?_, ?_⟩
    · refine HP_dn (CI_oa a.ci (by rw [a.n]; exact hp') (by rw [a.K]; exact h47)) (HP_c b (oaM_S (by decide) (by decide) (by decide)) (oaM_S (by decide) (by decide) (by decide)) (oaM_A (by decide)) (oaM_A (by decide))) hB h48 (by rw [oaM_S (by decide) (by decide) (by decide), a.n]; exact hp') (Or.inr (Or.inr (Or.inr rfl))) ?_
      rw [oaM_A (by decide), d, h102]
      decide
    · show (mkr (v.2 9 p) ((v.1 16).toNat + 1) v).1 21 + 1 = _
      rw [g, hk, a.K]
      omega
    · show tk (toC _ _) ≤ (mkr (v.2 9 p) ((v.1 16).toNat + 1) v).1 15
      rw [tk_toC j16.1, Int.toNat_natCast, hR2, mkr_A (by decide) (by decide)]
      exact hrm
