/-! TOGETHER: the clock; touches -/
theorem nxt {h F : Int} (h0 : 0 ≤ h) (h1 : h < F) : (h + 1) % F = if h + 1 < F then h + 1 else 0 := by
  by_cases c : h + 1 < F
  · rw [if_pos c]; exact Int.emod_eq_of_lt (by omega) c
  · rw [if_neg c, show h + 1 = F by omega, Int.emod_self]
theorem PG_clk {t r : Nat} : ∀ (d : Nat) (u v : SS), PG u v t r → u.1 8 = v.1 14 → v.1 14 < v.1 11 → (∀ f : Nat, f < 16 → (f : Int) < v.1 11 → 0 ≤ v.2 12 f) →
    PG (cki d u) (clk d v) t r ∧ (cki d u).1 8 = (clk d v).1 14 ∧ (clk d v).1 14 < (clk d v).1 11
  | 0, u, v, S, hh, hF, _ => ⟨S, hh, hF⟩
  | d + 1, u, v, S, hh, hF, hall => by
    have i14 := S.mi.s14
    have i11 := S.mi.s11
    have h0 := hall (v.1 14).toNat (by omega) (by omega)
    have hP : hdP u = (v.2 12 (v.1 14).toNat).toNat := by unfold hdP; rw [hh, S.hd _ (by omega)]
    have hr := (S.fr (v.1 14).toNat (by omega) h0).2
    rw [cki_s, clk_s, hP, hr]
    by_cases c : v.2 13 (v.1 14).toNat = 0
    · rw [if_pos c, if_pos c]; exact ⟨S, hh, hF⟩
    · rw [if_neg c, if_neg c]
      have S1 := PG_ref S (f := (v.1 14).toNat) (p := (v.2 12 (v.1 14).toNat).toNat) (by omega) (by omega) (b := 0) (Or.inl rfl)
      have hu : u.1 8 < u.1 7 := by rw [hh, S.F]; exact hF
      have S2 : PG (ck1 u) (stS (stA v 13 (v.1 14).toNat 0) 14 ((v.1 14 + 1) % v.1 11)) t r := by
        refine PG_c S1 (CI_ck1 S.ci hu) (MI_clk1 S.mi hF) rfl rfl rfl rfl rfl rfl rfl rfl rfl ?_ rfl rfl rfl rfl rfl rfl rfl rfl rfl
        unfold ck1
        rw [hP]
        rfl
      have e8 : (ck1 u).1 8 = ckN u := rfl
      refine PG_clk d _ _ S2 ?_ ?_ (fun f hf h1 => hall f hf h1)
      · show ckN u = (v.1 14 + 1) % v.1 11
        rw [nxt i14.1 hF]
        unfold ckN
        rw [hh, S.F]
      · show (v.1 14 + 1) % v.1 11 < v.1 11
        exact Int.emod_lt_of_pos _ (by omega)
/-- a frame is cleared by the clock -/
theorem PG_clr {u v : SS} {r : Nat} {B : Int} (S : PG u v 99 r) (H : HP u B) (hB : B ≤ 2048) (hh : u.1 8 = v.1 14) (hF : v.1 14 < v.1 11) (hall : ∀ f : Nat, f < 16 → (f : Int) < v.1 11 → 0 ≤ v.2 12 f) (hT : TK v) (hm : v.1 21 + 300 ≤ 100000000) :
    PG (cfM u) (clrM v) 99 r ∧ HP (cfM u) B ∧ (clrM v).1 21 = v.1 21 + cfR u ∧ TK (clrM v) ∧ (cfM u).1 8 = (clrM v).1 14 ∧ (clrM v).1 14 < (clrM v).1 11 := by
  obtain ⟨S1, hh1, hF1⟩ := PG_clk 17 u v S hh hF hall
  have hu : u.1 8 < u.1 7 := by rw [hh, S.F]; exact hF
  obtain ⟨ci1, hu1, hz⟩ := cki_ok S.ci hu
  have w14 := S1.mi.s14
  have w11 := S1.mi.s11
  have i0 := S.mi.s0
  have hS : ∀ k, k ≠ 14 → (clk 17 v).1 k = v.1 k := fun k h => clk_S h 17 v
  have hA : ∀ a j, a ≠ 13 → (clk 17 v).2 a j = v.2 a j := fun a j h => clk_A h 17 v
  have h0 : 0 ≤ (clk 17 v).2 12 ((clk 17 v).1 14).toNat := by
    rw [hA _ _ (by decide)]
    exact hall _ (by omega) (by have := hS 11 (by decide); omega)
  have w1 := S1.w.a _ (by omega) h0
  have hP : hdP (cki 17 u) = ((clk 17 v).2 12 ((clk 17 v).1 14).toNat).toNat := by unfold hdP; rw [hh1, S1.hd _ (by omega)]
  have hpr : r ≠ hdP (cki 17 u) := fun e => by
    have := S1.r0
    rw [e, hP, w1.2.2.2] at this
    exact absurd this (by decide)
  have S2 := PG_out S1 (f := ((clk 17 v).1 14).toNat) (p := hdP (cki 17 u)) (by omega) (by rw [hP]; omega)
  have hcI : CI (cf0 u) := by
    unfold cf0 ckM
    exact CI_A2 (CI_ck1 ci1 hu1) (by show (-1 : Int) ≤ -1 ∧ -1 < 8 * (cki 17 u).1 14; rw [S1.n]; have := hS 0 (by decide); omega)
  have S3 : PG (cf0 u) (toA (clk 17 v) ((clk 17 v).1 14).toNat) (hdP (cki 17 u)) r := by
    refine PG_c S2 hcI S2.mi rfl rfl rfl rfl rfl ?_ rfl rfl rfl ?_ rfl rfl rfl rfl rfl rfl rfl rfl rfl
    · unfold cf0 ckM
      rw [hh1]
      rfl
    · funext j
      show (if j = hdP (cki 17 u) then 0 else (cki 17 u).2 25 j) = (cki 17 u).2 25 j
      by_cases e : j = hdP (cki 17 u)
      · rw [if_pos e, e, hz]
      · rw [if_neg e]
  have hpl := S1.pl (hdP (cki 17 u)) (by rw [hP]; omega) (by rw [hP]; have := hS 0 (by decide); omega) (fun e => hpr e.symm)
  have e10 : (clk 17 v).2 10 (hdP (cki 17 u)) = 1 := by rw [hP]; exact w1.2.2.2
  rw [e10] at hpl
  have H3 : HP (cf0 u) B := HP_c H (by show (cki 17 u).1 6 = _; exact cki_S (by decide) _ _) (by show (cki 17 u).1 14 = _; exact cki_S (by decide) _ _) (by funext j; show (cki 17 u).2 0 j = _; exact cki_A (by decide) _ _) (by funext j; show (cki 17 u).2 23 j = _; exact cki_A (by decide) _ _)
  have hT3 : TK (toA (clk 17 v) ((clk 17 v).1 14).toNat) := by
    show tk (toA (clk 17 v) ((clk 17 v).1 14).toNat) ≤ (clk 17 v).1 15
    rw [hS 15 (by decide), tk_SL]
    have e : SL (toA (clk 17 v) ((clk 17 v).1 14).toNat) = SL v := SL_c (hS 16 (by decide)) (by funext j; exact hA _ _ (by decide))
    have e9 : ∀ j, (toA (clk 17 v) ((clk 17 v).1 14).toNat).2 9 j = v.2 9 j := fun j => hA _ _ (by decide)
    rw [e]
    simp only [e9]
    rw [← tk_SL]
    exact hT
  have hp0 : ((hdP (cki 17 u) : Nat) : Int) < 8 * (toA (clk 17 v) ((clk 17 v).1 14).toNat).1 0 := by
    show _ < 8 * (clk 17 v).1 0
    rw [hP]
    omega
  obtain ⟨a, b, d, g⟩ := PG_in (x := (clk 17 v).2 12 ((clk 17 v).1 14).toNat) S3 hpr hp0 (by rw [hP]; omega) H3 hB (by
    show (cki 17 u).2 23 _ = 102
    exact hpl) hT3 (by show (clk 17 v).1 21 + 300 ≤ _; rw [hS 21 (by decide)]; exact hm)
  have eT : toI (toA (clk 17 v) ((clk 17 v).1 14).toNat) ((clk 17 v).2 12 ((clk 17 v).1 14).toNat) = toM (clk 17 v) ((clk 17 v).1 14).toNat := rfl
  rw [eT] at a d g
  have e14 : (toM (clk 17 v) ((clk 17 v).1 14).toNat).1 14 = (clk 17 v).1 14 := toM_S (by decide) (by decide)
  have e11 : (toM (clk 17 v) ((clk 17 v).1 14).toNat).1 11 = (clk 17 v).1 11 := toM_S (by decide) (by decide)
  have hlt : ((clk 17 v).1 14 + 1) % (clk 17 v).1 11 < (clk 17 v).1 11 := Int.emod_lt_of_pos _ (by omega)
  have hge : 0 ≤ ((clk 17 v).1 14 + 1) % (clk 17 v).1 11 := Int.emod_nonneg _ (by omega)
  have eC : clrM v = stS (toM (clk 17 v) ((clk 17 v).1 14).toNat) 14 (((clk 17 v).1 14 + 1) % (clk 17 v).1 11) := by
    unfold clrM
    simp only
    rw [e14, e11]
  rw [eC]
  refine ⟨PG_c a a.ci (MI_S a.mi (by show (0 : Int) ≤ _ ∧ _ ≤ 15; omega)) rfl rfl rfl rfl rfl rfl rfl rfl rfl rfl rfl rfl rfl rfl rfl rfl rfl rfl rfl, b, ?_, g, ?_, ?_⟩
  · show (toM (clk 17 v) ((clk 17 v).1 14).toNat).1 21 = _
    rw [d]
    show (clk 17 v).1 21 + _ = _
    rw [hS 21 (by decide)]
    rfl
  · show (tiM (cf0 u) (cfP u)).1 8 = ((clk 17 v).1 14 + 1) % (clk 17 v).1 11
    rw [tiM_S (by decide) (by decide) (by decide) (by decide)]
    show ckN (cki 17 u) = _
    rw [nxt w14.1 hF1]
    unfold ckN
    rw [hh1, S1.F]
  · show ((clk 17 v).1 14 + 1) % (clk 17 v).1 11 < (toM (clk 17 v) ((clk 17 v).1 14).toNat).1 11
    rw [e11]
    exact hlt
/-! how many pages there are in frames and in the store -/
def flN (n : Nat) (f : Nat → Int) : List Int := (lsN n f).filter (fun x => decide (0 ≤ x))
theorem flN_s (n : Nat) (f : Nat → Int) : flN (n + 1) f = flN n f ++ (if 0 ≤ f n then [f n] else []) := by
  unfold flN
  rw [lsN_s, List.filter_append]
  by_cases h : 0 ≤ f n
  · rw [if_pos h, List.filter_cons_of_pos (by simpa using h)]; rfl
  · rw [if_neg h, List.filter_cons_of_neg (by simpa using h)]; rfl
theorem flN_m {n : Nat} {f : Nat → Int} {x : Int} : x ∈ flN n f ↔ ∃ i, i < n ∧ f i = x ∧ 0 ≤ x := by
  unfold flN
  rw [List.mem_filter, lsN_m]
  constructor
  · rintro ⟨⟨i, h1, h2⟩, h3⟩; exact ⟨i, h1, h2, by simpa using h3⟩
  · rintro ⟨i, h1, h2, h3⟩; exact ⟨⟨i, h1, h2⟩, by simpa using h3⟩
theorem flN_len (f : Nat → Int) : ∀ n : Nat, sumN n (fun i => bI (decide (0 ≤ f i))) = ((flN n f).length : Int)
  | 0 => rfl
  | n + 1 => by
    rw [flN_s, List.length_append]
    show sumN n _ + bI (decide (0 ≤ f n)) = _
    rw [flN_len f n]
    by_cases h : 0 ≤ f n
    · rw [if_pos h, decide_eq_true h]; show _ + (1 : Int) = _; simp
    · rw [if_neg h, decide_eq_false h]; show _ + (0 : Int) = _; simp
theorem flN_nd {f : Nat → Int} : ∀ {n : Nat}, (∀ i j, i < n → j < n → 0 ≤ f i → f i = f j → i = j) → (flN n f).Nodup
  | 0, _ => List.nodup_nil
  | n + 1, h => by
    rw [flN_s, List.nodup_append]
    refine ⟨flN_nd fun i j hi hj h0 e => h i j (by omega) (by omega) h0 e, by split <;> simp, fun a ha b hb e => ?_⟩
    obtain ⟨i, hi, rfl, h0⟩ := flN_m.mp ha
    by_cases c : 0 ≤ f n
    · rw [if_pos c] at hb
      obtain rfl : b = f n := by simpa using hb
      have := h i n (by omega) (by omega) h0 e
      omega
    · rw [if_neg c] at hb; cases hb
theorem occ_48 {u v : SS} {t r : Nat} (S : PG u v t r) : v.1 16 + occ v ≤ 48 := by
  have W := S.w
  have i0 := S.mi.s0
  have i16 := S.mi.s16
  have e : occ v = ((flN 16 (v.2 12)).length : Int) := flN_len _ 16
  have h := nd_len 48 (flN 16 (v.2 12) ++ SL v) (List.nodup_append.mpr ⟨flN_nd fun i j hi hj h0 e => W.c i j hi hj h0 e, W.g, fun a ha b hb e => by
      obtain ⟨i, hi, rfl, h0⟩ := flN_m.mp ha
      have w1 := W.a i hi h0
      have w2 := W.e b hb
      rw [← e, w1.2.2.2] at w2
      exact absurd w2.2.2.2 (by decide)⟩) (fun x hx => by
    rcases List.mem_append.mp hx with hx | hx
    · obtain ⟨i, hi, rfl, h0⟩ := flN_m.mp hx
      have w1 := W.a i hi h0
      omega
    · have w2 := W.e x hx
      omega)
  rw [List.length_append, SL_len] at h
  omega
theorem SL_47r {u v : SS} {p : Nat} (S : PG u v 99 p) (hp : (p : Int) < 8 * v.1 0) : v.1 16 ≤ 47 := by
  have i0 := S.mi.s0
  have i16 := S.mi.s16
  have h := nd_len 48 ((p : Int) :: SL v) (List.nodup_cons.mpr ⟨fun hm => by
    have h := (S.w.e _ hm).2.2.2
    rw [Int.toNat_natCast, S.r0] at h
    exact absurd h (by decide), S.w.g⟩) (fun x hx => by
    rcases List.mem_cons.mp hx with rfl | hx
    · omega
    · have := S.w.e x hx; omega)
  rw [List.length_cons, SL_len] at h
  omega
theorem fnd_fw {u v : SS} {t r p f : Nat} (S : PG u v t r) (hf : f < 16) (hp : v.2 12 f = (p : Int)) : fnd (fwB v (p : Int)) (v.1 11).toNat = (f : Int) := by
  have w1 := S.w.a f hf (by omega)
  refine fnd_hit (z := f) (fun j hj => ?_) (decide_eq_true hp) (by omega)
  refine decide_eq_false fun e => ?_
  have := S.w.c j f (by omega) hf (by omega) (by omega)
  omega
theorem lfr_ffr {u v : SS} {t r : Nat} (S : PG u v t r) : lfr u = ffr v := by
  have i11 := S.mi.s11
  unfold lfr ffr
  rw [S.F]
  exact fnd_c fun z hz => by unfold clF frB; rw [S.hd z (by omega)]
theorem sum_flt {g : Int → Int} {P : Int → Bool} : ∀ {l : List Int}, (∀ x ∈ l, 0 ≤ g x) → ((l.filter P).map g).sum ≤ (l.map g).sum
  | [], _ => Int.le_refl _
  | a :: l, h => by
    have h1 := sum_flt (P := P) (l := l) fun x hx => h x (List.mem_cons_of_mem _ hx)
    have h2 := h a List.mem_cons_self
    by_cases c : P a = true
    · rw [List.filter_cons_of_pos c, List.map_cons, List.map_cons, List.sum_cons, List.sum_cons]; omega
    · rw [List.filter_cons_of_neg c, List.map_cons, List.sum_cons]; omega
theorem TK_le {v : SS} {p : Int} (I : MI v) (hT : TK v) : TK (leM v p) := by
  have i16 := I.s16
  show tk (leM v p) ≤ (leM v p).1 15
  rw [leM_S (by decide) (by decide), tk_SL, SL_le i16.1]
  have e : ∀ j, (leM v p).2 9 j = v.2 9 j := fun j => leM_A (by decide) (by decide)
  simp only [e]
  refine Int.le_trans (sum_flt fun x _ => (I.a9 _).1) ?_
  rw [← tk_SL]
  exact hT
theorem sfC_lv {x : Int} (hx : 0 ≤ x ∧ x ≤ 3) (h1 : x ≠ 1) : sfC (plc x) = lvC x := by
  have : x = 0 ∨ x = 2 ∨ x = 3 := by omega
  rcases this with rfl | rfl | rfl <;> rfl
/-- a touch, on both sides -/
theorem PG_tou {u v : SS} {p : Nat} {B : Int} (S0 : PG u v 99 99) (H : HP u B) (hB : B + 4 ≤ 2048) (hp : (p : Int) < 8 * v.1 0) (hh : u.1 8 = v.1 14) (hF : v.1 14 < v.1 11) (hT : TK v) :
    PG (to1 u p) (thA v (p : Int)) 99 99 ∧ HP (to1 u p) (B + 4) ∧ (thA v (p : Int)).1 21 = toR u p ∧ TK (thA v (p : Int)) ∧ (to1 u p).1 8 = (thA v (p : Int)).1 14 ∧ (thA v (p : Int)).1 14 < (thA v (p : Int)).1 11 ∧ (detM u p).1 11 ≤ 47 := by
  have S : PG u (stS v 21 0) 99 99 := PG_c S0 S0.ci (MI_S S0.mi (by decide)) rfl rfl rfl rfl rfl rfl rfl rfl rfl rfl rfl rfl rfl rfl rfl rfl rfl rfl rfl
  have i0 := S.mi.s0
  have h48 := pg_lt S0 hp
  have ipl := S0.mi.a10 p
  have hpl := S0.pl p hp (by omega) (by omega)
  have hT' : TK (stS v 21 0) := hT
  unfold thA to1 toR
  rw [Int.toNat_natCast]
  by_cases c : v.2 10 p = 1
  · have c102 : u.2 23 p = 102 := hpl.trans ((plc_1 ipl).mpr c)
    rw [if_pos (show (stS v 21 0).2 10 p = 1 from c), if_pos c102, if_pos c102]
    obtain ⟨f, hf, h2⟩ := S.w.b p hp (by omega) c
    have e : fnd (fwB (stS v 21 0) (p : Int)) (v.1 11).toNat = (f : Int) := fnd_fw S hf h2
    rw [e, Int.toNat_natCast]
    refine ⟨PG_ref S hf h2 (Or.inr rfl), HP_w (HP_c H rfl rfl rfl rfl) (by omega), rfl, hT', hh, hF, ?_⟩
    unfold detM
    rw [if_pos c102]
    show u.1 11 ≤ 47
    have h1 := occ_48 S
    have h3 := occ_pos (v := stS v 21 0) hf (by rw [h2]; omega)
    rw [S.K]
    omega
  · have c102 : ¬ u.2 23 p = 102 := fun e => c ((plc_1 ipl).mp (hpl.symm.trans e))
    rw [if_neg (show ¬ (stS v 21 0).2 10 p = 1 from c), if_neg c102, if_neg c102]
    have S1 := PG_lv S hp c (by show (0 : Int) + 10 ≤ _; decide)
    have h47 := SL_47r S1 (by rw [leM_S (by decide) (by decide)]; exact hp)
    have e21 : (leM (stS v 21 0) (p : Int)).1 21 = lvC (v.2 10 p) := by rw [leM_21, Int.toNat_natCast]; show 0 + lvC (v.2 10 p) = _; omega
    have hlv := lvC_bd (v.2 10 p)
    have H1 : HP (detM u p) B := HP_c H (detM_S (by decide) (by decide)) (detM_S (by decide) (by decide)) (by funext j; exact detM_A (by decide) (by decide)) (by funext j; exact detM_A (by decide) (by decide))
    have hh1 : (detM u p).1 8 = (leM (stS v 21 0) (p : Int)).1 14 := by rw [detM_S (by decide) (by decide), leM_S (by decide) (by decide)]; exact hh
    have hF1 : (leM (stS v 21 0) (p : Int)).1 14 < (leM (stS v 21 0) (p : Int)).1 11 := by rw [leM_S (by decide) (by decide), leM_S (by decide) (by decide)]; exact hF
    have hT1 : TK (leM (stS v 21 0) (p : Int)) := TK_le S.mi hT'
    have hlf := lfr_ffr S1
    have hn1 : (leM (stS v 21 0) (p : Int)).1 0 = v.1 0 := by rw [leM_S (by decide) (by decide)]; rfl
    have key : PG (bfM (detM u p)) (cmA (leM (stS v 21 0) (p : Int))) 99 p ∧ HP (bfM (detM u p)) B ∧ (cmA (leM (stS v 21 0) (p : Int))).1 21 = lvC (v.2 10 p) + bfR (detM u p) ∧ TK (cmA (leM (stS v 21 0) (p : Int))) ∧ (bfM (detM u p)).1 8 = (cmA (leM (stS v 21 0) (p : Int))).1 14 ∧ (cmA (leM (stS v 21 0) (p : Int))).1 14 < (cmA (leM (stS v 21 0) (p : Int))).1 11 ∧ (cmA (leM (stS v 21 0) (p : Int))).1 0 = v.1 0 := by
      unfold bfM cmA bfR
      rw [hlf]
      by_cases c2 : ffr (leM (stS v 21 0) (p : Int)) < 0
      · rw [if_pos c2, if_pos c2, if_pos c2]
        obtain ⟨a, b, d, g, x, y⟩ := PG_clr S1 H1 (by omega) hh1 hF1 (ffr_all c2) hT1 (by rw [e21]; omega)
        refine ⟨a, b, by rw [d, e21], g, x, y, ?_⟩
        have h1 := a.n
        have h2 : (cfM (detM u p)).1 14 = (detM u p).1 14 := by
          show (tiM (cf0 (detM u p)) _).1 14 = _
          rw [tiM_S (by decide) (by decide) (by decide) (by decide)]
          show (cki 17 (detM u p)).1 14 = _
          exact cki_S (by decide) _ _
        rw [← h1, h2, detM_S (by decide) (by decide)]
        exact S0.n
      · rw [if_neg c2, if_neg c2, if_neg c2]
        exact ⟨S1, H1, by rw [e21]; omega, hT1, hh1, hF1, hn1⟩
    obtain ⟨S2, H2, e2, hT2, hh2, hF2, hn2⟩ := key
    have hfr := (cmA_I S1.mi hF1 (occ_48 S1) (by rw [e21]; omega)).2.2.1
    have hfb := ffr_bd S2.mi
    have hat : (cmA (leM (stS v 21 0) (p : Int))).2 12 (ffr (cmA (leM (stS v 21 0) (p : Int)))).toNat < 0 := of_decide_eq_true (fnd_at hfr)
    have S3 := PG_put S2 (f := (ffr (cmA (leM (stS v 21 0) (p : Int)))).toNat) (by rw [hn2]; exact hp) (by omega) (by omega) hat
    have elf : lfr (bfM (detM u p)) = ((ffr (cmA (leM (stS v 21 0) (p : Int)))).toNat : Int) := by rw [lfr_ffr S2]; omega
    have eB : brM u p = ptM (bfM (detM u p)) p ((ffr (cmA (leM (stS v 21 0) (p : Int)))).toNat : Int) := by unfold brM; rw [elf]
    have eC : cmM (stS v 21 0) (p : Int) = stA (stA (stA (cmA (leM (stS v 21 0) (p : Int))) 12 (ffr (cmA (leM (stS v 21 0) (p : Int)))).toNat (p : Int)) 13 (ffr (cmA (leM (stS v 21 0) (p : Int)))).toNat 1) 10 p 1 := by
      unfold cmM cmB
      rw [Int.toNat_natCast]
    rw [eB, eC]
    refine ⟨S3, ?_, ?_, ?_, ?_, hF2, by rw [S1.K]; exact h47⟩
    · have h6 : (bfM (detM u p)).1 6 < 2048 := by have := HP_ge H2 h48; have := rkc_bd ((bfM (detM u p)).2 23 p); omega
      have c2 := S2.ci.s14
      have hn := S2.n
      have hm := HP_mv (u := stA (bfM (detM u p)) 2 (ffr (cmA (leM (stS v 21 0) (p : Int)))).toNat (p : Int)) (p := p) (c := 102) (B := B) (B' := B + 4) (CI_A2 S2.ci (by rw [hn, hn2]; omega)) (HP_c H2 rfl rfl rfl rfl) h48 (by show _ < 8 * (bfM (detM u p)).1 14; rw [hn, hn2]; exact hp) (Or.inr (Or.inr (Or.inl rfl))) h6 (by
        have := rkc_bd ((stA (bfM (detM u p)) 2 (ffr (cmA (leM (stS v 21 0) (p : Int)))).toNat (p : Int)).2 23 p)
        show B + 1 + 3 - _ ≤ B + 4
        omega)
      have e0 : ptM (bfM (detM u p)) p ((ffr (cmA (leM (stS v 21 0) (p : Int)))).toNat : Int) = stA (stA (mvM (stA (bfM (detM u p)) 2 (ffr (cmA (leM (stS v 21 0) (p : Int)))).toNat (p : Int)) p 102) 24 p ((ffr (cmA (leM (stS v 21 0) (p : Int)))).toNat : Int)) 25 p 1 := by unfold ptM mfM; rw [Int.toNat_natCast]
      rw [e0]
      exact HP_c hm rfl rfl rfl rfl
    · show (cmA (leM (stS v 21 0) (p : Int))).1 21 = brR u p
      rw [e2]
      unfold brR
      rw [hpl, sfC_lv ipl c]
    · exact hT2
    · show (ptM _ _ _).1 8 = _
      unfold ptM
      rw [mfM_S (by decide)]
      exact hh2
