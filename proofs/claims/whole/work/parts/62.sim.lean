/-! TOGETHER: what happens to one page -/
theorem stA_e {v : SS} {a i j : Nat} {x : Int} : (stA v a i x).2 a j = if j = i then x else v.2 a j := by rw [stA_2, if_pos rfl]
theorem stA_o {v : SS} {a b i j : Nat} {x : Int} (h : b ≠ a) : (stA v a i x).2 b j = v.2 b j := by rw [stA_2, if_neg h]
theorem pg_lt {u v : SS} {t r p : Nat} (S : PG u v t r) (h : (p : Int) < 8 * v.1 0) : p < 48 := by have := S.mi.s0; omega
/-- the page on its way comes to the disk, or nowhere -/
theorem PG_set {u v : SS} {p r : Nat} (S : PG u v p r) (hpr : r ≠ p) (hp : (p : Int) < 8 * v.1 0) {c : Int} (hc : c = 0 ∨ c = 3) : PG (mvM u p (plc c)) (stA v 10 p c) 99 r := by
  have W := S.w
  have h48 := pg_lt S hp
  have hc3 : 0 ≤ c ∧ c ≤ 3 := by omega
  have hP : ∀ q, (stA v 10 p c).2 10 q = if q = p then c else v.2 10 q := fun q => by rw [stA_2, if_pos rfl]
  have hA : ∀ a j, a ≠ 10 → (stA v 10 p c).2 a j = v.2 a j := fun a j h => by rw [stA_2, if_neg h]
  refine ⟨CI_mv S.ci h48 (plc_C hc3), MI_A S.mi (by show (0 : Int) ≤ c ∧ c ≤ 3; omega), ⟨?_, ?_, ?_, ?_, fun q => ?_, fun f hf => ?_, ?_, fun q hq ht hr => ?_, fun f hf h0 => ?_, fun q hq ht h1 => ?_, by rw [hP, if_neg hpr]; exact S.r0⟩, ⟨fun f hf h0 => ?_, fun q hq ht h1 => ?_, fun f g hf hg h0 e => ?_, fun f hf h0 => ?_, fun x hx => ?_, fun q hq ht h1 => ?_, W.g, fun q hq => ?_, fun q hq => ?_⟩⟩
  · rw [mvM_S (by decide)]; exact S.n
  · rw [mvM_S (by decide)]; exact S.F
  · rw [mvM_S (by decide)]; exact S.R
  · rw [mvM_S (by decide)]; exact S.K
  · rw [mvM_A (by decide) (by decide) (by decide) (by decide)]; exact S.sz q
  · rw [mvM_A (by decide) (by decide) (by decide) (by decide)]; exact S.hd f hf
  · rw [OL_mv]; exact S.o
  · rw [mvM_23, hP]
    by_cases e : q = p
    · rw [if_pos e, if_pos e]
    · rw [if_neg e, if_neg e]; exact S.pl q hq e hr
  · have w1 := W.a f hf h0
    have e : (v.2 12 f).toNat ≠ p := by have h9 : 0 ≤ v.2 12 f := h0; omega
    show (mvM u p (plc c)).2 24 (v.2 12 f).toNat = f ∧ (mvM u p (plc c)).2 25 (v.2 12 f).toNat = v.2 13 f
    rw [mvM_24, mvM_25, if_neg e, if_neg e]
    exact S.fr f hf h0
  · rw [mvM_25]
    by_cases e : q = p
    · rw [if_pos e]
    · rw [hP, if_neg e] at h1
      rw [if_neg e]; exact S.rf q hq e h1
  · have w1 := W.a f hf h0
    have h9 : 0 ≤ v.2 12 f := h0
    have i0 := S.mi.s0
    have e : (v.2 12 f).toNat ≠ p := by omega
    refine ⟨w1.1, w1.2.1, by show v.2 12 f ≠ _; omega, ?_⟩
    show (stA v 10 p c).2 10 (v.2 12 f).toNat = 1
    rw [hP, if_neg e]; exact w1.2.2.2
  · rw [hP] at h1
    by_cases e : q = p
    · rw [if_pos e] at h1; omega
    · rw [if_neg e] at h1; exact W.b q hq e h1
  · exact W.c f g hf hg h0 e
  · exact W.d f hf h0
  · obtain ⟨y1, y2, y3, y4⟩ := W.e x hx
    have i0 := S.mi.s0
    exact ⟨y1, y2, by omega, by rw [hP, if_neg (by omega)]; exact y4⟩
  · rw [hP] at h1
    by_cases e : q = p
    · rw [if_pos e] at h1; omega
    · rw [if_neg e] at h1; exact W.f q hq e h1
  · exact W.h q hq
  · have hq2 : 8 * v.1 0 ≤ (q : Int) := hq
    rw [hP, if_neg (by omega)]; exact W.i q hq2
theorem PG_toB {u v : SS} {p r : Nat} (S : PG u v p r) (hpr : r ≠ p) (hp : (p : Int) < 8 * v.1 0) {x : Int} (hx : x = (p : Int)) (hm : v.1 21 + 5 ≤ 100000000) : PG (mvM u p 100) (toB v x) 99 r := by
  subst hx
  have h := PG_set S hpr hp (c := 3) (Or.inr rfl)
  exact PG_c h h.ci (MI_toB S.mi hm) rfl rfl rfl rfl rfl rfl rfl rfl rfl rfl rfl rfl rfl rfl rfl rfl rfl rfl rfl
theorem SL_toC {v : SS} {x : Int} (h : 0 ≤ v.1 16) : SL (toC v x) = SL v ++ [x] := by
  show lsN (v.1 16 + 1).toNat (fun j => if j = (v.1 16).toNat then x else v.2 17 j) = _
  rw [show (v.1 16 + 1).toNat = (v.1 16).toNat + 1 by omega, lsN_s, if_pos rfl]
  unfold SL
  rw [lsN_c (f := fun j : Nat => if j = (v.1 16).toNat then x else v.2 17 j) (g := v.2 17) (fun i hi => by rw [if_neg (by omega)])]
/-- the page on its way comes into the store -/
theorem PG_toC {u v : SS} {p r : Nat} (S : PG u v p r) (hpr : r ≠ p) (hp : (p : Int) < 8 * v.1 0) {x : Int} (hx : x = (p : Int)) (h16 : v.1 16 < 48) (hm : v.1 21 + 1 ≤ 100000000) : PG (mvM (oaM u p) p 115) (toC v x) 99 r := by
  subst hx
  have W := S.w
  have h48 := pg_lt S hp
  have hk := S.K
  have hn := S.n
  have i16 := S.mi.s16
  have i0 := S.mi.s0
  have hP : ∀ q, (toC v (p : Int)).2 10 q = if q = p then 2 else v.2 10 q := fun q => by
    show (stA v 10 (p : Int).toNat 2).2 10 q = _
    rw [stA_2, if_pos rfl, Int.toNat_natCast]
  have hA : ∀ a j, a ≠ 10 → a ≠ 17 → (toC v (p : Int)).2 a j = v.2 a j := fun a j h1 h2 => toC_A h1 h2
  have hS : SL (toC v (p : Int)) = SL v ++ [(p : Int)] := SL_toC i16.1
  have hmem : ∀ y, y ∈ SL (toC v (p : Int)) ↔ y ∈ SL v ∨ y = (p : Int) := fun y => by rw [hS, List.mem_append]; simp
  have cio : CI (oaM u p) := CI_oa S.ci (by rw [hn]; exact hp) (by omega)
  have hoS : ∀ s, s ≠ 10 → s ≠ 11 → s ≠ 12 → s ≠ 6 → (mvM (oaM u p) p 115).1 s = u.1 s := fun s h1 h2 h3 h4 => by rw [mvM_S h4, oaM_S h1 h2 h3]
  have hoA : ∀ a j, a ≠ 0 → a ≠ 23 → a ≠ 24 → a ≠ 25 → a ≠ 3 → (mvM (oaM u p) p 115).2 a j = u.2 a j := fun a j h0 h1 h2 h3 h4 => by rw [mvM_A h0 h1 h2 h3, oaM_A h4]
  refine ⟨CI_mv cio h48 (Or.inr (Or.inr (Or.inr rfl))), MI_toC S.mi (by omega) h16 hm, ⟨?_, ?_, ?_, ?_, fun q => ?_, fun f hf => ?_, ?_, fun q hq ht hr => ?_, fun f hf h0 => ?_, fun q hq ht h1 => ?_, by rw [hP, if_neg hpr]; exact S.r0⟩, ⟨fun f hf h0 => ?_, fun q hq ht h1 => ?_, fun f g hf hg h0 e => ?_, fun f hf h0 => ?_, fun x hx => ?_, fun q hq ht h1 => ?_, ?_, fun q hq => ?_, fun q hq => ?_⟩⟩
  · rw [hoS _ (by decide) (by decide) (by decide) (by decide)]; exact S.n
  · rw [hoS _ (by decide) (by decide) (by decide) (by decide)]; exact S.F
  · rw [hoS _ (by decide) (by decide) (by decide) (by decide)]; exact S.R
  · rw [mvM_S (by decide)]
    show u.1 11 + 1 = v.1 16 + 1
    rw [hk]
  · rw [hoA _ _ (by decide) (by decide) (by decide) (by decide) (by decide), hA _ _ (by decide) (by decide)]; exact S.sz q
  · rw [hoA _ _ (by decide) (by decide) (by decide) (by decide) (by decide), hA _ _ (by decide) (by decide)]; exact S.hd f hf
  · rw [OL_mv, OL_oa S.ci, S.o, hS]
  · rw [mvM_23, hP, oaM_A (by decide)]
    by_cases e : q = p
    · rw [if_pos e, if_pos e]; rfl
    · rw [if_neg e, if_neg e]; exact S.pl q hq e hr
  · rw [hA _ _ (by decide) (by decide)] at h0
    rw [hA _ _ (by decide) (by decide), hA _ _ (by decide) (by decide), mvM_24, mvM_25, oaM_A (by decide), oaM_A (by decide)]
    have w1 := W.a f hf h0
    have e : (v.2 12 f).toNat ≠ p := by omega
    rw [if_neg e, if_neg e]
    exact S.fr f hf h0
  · rw [mvM_25, oaM_A (by decide)]
    by_cases e : q = p
    · rw [if_pos e]
    · rw [hP, if_neg e] at h1
      rw [if_neg e]; exact S.rf q hq e h1
  · rw [hA _ _ (by decide) (by decide)] at h0 ⊢
    have w1 := W.a f hf h0
    have w2 : v.2 12 f < 8 * v.1 0 := w1.2.1
    refine ⟨w1.1, w1.2.1, by omega, ?_⟩
    rw [hP, if_neg (by omega)]; exact w1.2.2.2
  · rw [hP] at h1
    by_cases e : q = p
    · rw [if_pos e] at h1; exact absurd h1 (by decide)
    · rw [if_neg e] at h1
      obtain ⟨f, hf, h2⟩ := W.b q hq e h1
      exact ⟨f, hf, by rw [hA _ _ (by decide) (by decide)]; exact h2⟩
  · rw [hA _ _ (by decide) (by decide)] at h0 e
    rw [hA _ _ (by decide) (by decide)] at e
    exact W.c f g hf hg h0 e
  · rw [hA _ _ (by decide) (by decide)] at h0 ⊢
    exact W.d f hf h0
  · rcases (hmem x).mp hx with hx | hx
    · obtain ⟨y1, y2, y3, y4⟩ := W.e x hx
      exact ⟨y1, y2, by omega, by rw [hP, if_neg (by omega)]; exact y4⟩
    · subst hx
      exact ⟨by omega, hp, by omega, by rw [hP, Int.toNat_natCast, if_pos rfl]⟩
  · rw [hP] at h1
    by_cases e : q = p
    · exact (hmem _).mpr (Or.inr (by rw [e]))
    · rw [if_neg e] at h1; exact (hmem _).mpr (Or.inl (W.f q hq e h1))
  · rw [hS, List.nodup_append]
    refine ⟨W.g, by simp, fun a ha b hb e => ?_⟩
    obtain rfl : b = (p : Int) := by simpa using hb
    exact (W.e a ha).2.2.1 e
  · rw [hA _ _ (by decide) (by decide)]; exact W.h q hq
  · have hq2 : 8 * v.1 0 ≤ (q : Int) := hq
    rw [hP, if_neg (by omega)]; exact W.i q hq2
/-- the page in a frame is taken out: it is on its way -/
theorem PG_out {u v : SS} {f p r : Nat} (S : PG u v 99 r) (hf : f < 16) (hp : v.2 12 f = (p : Int)) : PG (stA u 2 f (-1)) (toA v f) p r := by
  have W := S.w
  have w0 := W.a f hf (by omega)
  have i0 := S.mi.s0
  have hp8 : (p : Int) < 8 * v.1 0 := by omega
  have hpp : v.2 10 p = 1 := by have h := w0.2.2.2; rw [hp] at h; exact h
  have h12 : ∀ g, (toA v f).2 12 g = if g = f then -1 else v.2 12 g := fun g => by
    show (stA (stA v 12 f (-1)) 13 f 0).2 12 g = _
    rw [stA_2, if_neg (by decide), stA_2, if_pos rfl]
  have h13 : ∀ g, (toA v f).2 13 g = if g = f then 0 else v.2 13 g := fun g => by
    show (stA (stA v 12 f (-1)) 13 f 0).2 13 g = _
    rw [stA_e, stA_o (by decide)]
  have hA : ∀ a j, a ≠ 12 → a ≠ 13 → (toA v f).2 a j = v.2 a j := fun a j h1 h2 => by
    show (stA (stA v 12 f (-1)) 13 f 0).2 a j = _
    rw [stA_2, if_neg h2, stA_2, if_neg h1]
  have hS : SL (toA v f) = SL v := SL_c rfl (by funext j; exact hA _ _ (by decide) (by decide))
  have hU : ∀ a j, a ≠ 2 → (stA u 2 f (-1)).2 a j = u.2 a j := fun a j h => by rw [stA_2, if_neg h]
  have cu := S.ci.s14
  have hn := S.n
  refine ⟨CI_A2 S.ci (by omega), MI_toA S.mi, ⟨S.n, S.F, S.R, S.K, fun q => ?_, fun g hg => ?_, ?_, fun q hq ht hr => ?_, fun g hg h0 => ?_, fun q hq ht h1 => ?_, by rw [hA _ _ (by decide) (by decide)]; exact S.r0⟩, ⟨fun g hg h0 => ?_, fun q hq ht h1 => ?_, fun g k hg hk h0 e => ?_, fun g hg h0 => ?_, fun x hx => ?_, fun q hq ht h1 => ?_, by rw [hS]; exact W.g, fun q hq => ?_, fun q hq => ?_⟩⟩
  · rw [hU _ _ (by decide), hA _ _ (by decide) (by decide)]; exact S.sz q
  · rw [stA_2, if_pos rfl, h12]
    by_cases e : g = f
    · rw [if_pos e, if_pos e]
    · rw [if_neg e, if_neg e]; exact S.hd g hg
  · rw [hS, ← S.o]; exact OL_c rfl (by funext j; exact hU _ _ (by decide))
  · rw [hU _ _ (by decide), hA _ _ (by decide) (by decide)]; exact S.pl q hq (by have h9 : (q : Int) < 8 * v.1 0 := hq; omega) hr
  · rw [h12] at h0
    by_cases e : g = f
    · rw [if_pos e] at h0; exact absurd h0 (by decide)
    · rw [if_neg e] at h0
      rw [h12, h13, if_neg e, if_neg e, hU _ _ (by decide), hU _ _ (by decide)]
      exact S.fr g hg h0
  · rw [hA _ _ (by decide) (by decide)] at h1
    rw [hU _ _ (by decide)]; exact S.rf q hq (by have h9 : (q : Int) < 8 * v.1 0 := hq; omega) h1
  · rw [h12] at h0 ⊢
    by_cases e : g = f
    · rw [if_pos e] at h0; exact absurd h0 (by decide)
    · rw [if_neg e] at h0 ⊢
      have w1 := W.a g hg h0
      refine ⟨w1.1, w1.2.1, fun q => e (W.c g f hg hf h0 (by rw [q, hp])), ?_⟩
      rw [hA _ _ (by decide) (by decide)]; exact w1.2.2.2
  · rw [hA _ _ (by decide) (by decide)] at h1
    obtain ⟨g, hg, h2⟩ := W.b q hq (by have h9 : (q : Int) < 8 * v.1 0 := hq; omega) h1
    refine ⟨g, hg, ?_⟩
    rw [h12, if_neg (fun e => by rw [e, hp] at h2; omega)]
    exact h2
  · rw [h12] at h0 e
    rw [h12] at e
    by_cases e1 : g = f
    · rw [if_pos e1] at h0; exact absurd h0 (by decide)
    · rw [if_neg e1] at h0 e
      by_cases e2 : k = f
      · rw [if_pos e2] at e; omega
      · rw [if_neg e2] at e; exact W.c g k hg hk h0 e
  · rw [h13]
    by_cases e : g = f
    · rw [if_pos e]
    · rw [h12, if_neg e] at h0
      rw [if_neg e]; exact W.d g hg h0
  · rw [hS] at hx
    obtain ⟨y1, y2, y3, y4⟩ := W.e x hx
    refine ⟨y1, y2, fun e => ?_, by rw [hA _ _ (by decide) (by decide)]; exact y4⟩
    rw [e, Int.toNat_natCast, hpp] at y4
    exact absurd y4 (by decide)
  · rw [hA _ _ (by decide) (by decide)] at h1
    rw [hS]; exact W.f q hq (by have h9 : (q : Int) < 8 * v.1 0 := hq; omega) h1
  · rw [hA _ _ (by decide) (by decide)]; exact W.h q hq
  · rw [hA _ _ (by decide) (by decide)]; exact W.i q hq
/-- a page in a frame is referenced, or not any more -/
theorem PG_ref {u v : SS} {t r f p : Nat} (S : PG u v t r) (hf : f < 16) (hp : v.2 12 f = (p : Int)) {b : Int} (hb : b = 0 ∨ b = 1) : PG (stA u 25 p b) (stA v 13 f b) t r := by
  have W := S.w
  have w0 := W.a f hf (by omega)
  have hpp : v.2 10 p = 1 := by have h := w0.2.2.2; rw [hp] at h; exact h
  have h13 : ∀ g, (stA v 13 f b).2 13 g = if g = f then b else v.2 13 g := fun g => by rw [stA_2, if_pos rfl]
  have hA : ∀ a j, a ≠ 13 → (stA v 13 f b).2 a j = v.2 a j := fun a j h1 => by rw [stA_2, if_neg h1]
  have hU : ∀ a j, a ≠ 25 → (stA u 25 p b).2 a j = u.2 a j := fun a j h => by rw [stA_2, if_neg h]
  have h25 : ∀ q, (stA u 25 p b).2 25 q = if q = p then b else u.2 25 q := fun q => by rw [stA_2, if_pos rfl]
  refine ⟨CI_A S.ci (by show (0 : Int) ≤ b ∧ b ≤ 1; omega) (by decide) (by decide), MI_A S.mi (by show (0 : Int) ≤ b ∧ b ≤ 1; omega), ⟨S.n, S.F, S.R, S.K, fun q => S.sz q, fun g hg => S.hd g hg, S.o, fun q hq ht hr => S.pl q hq ht hr, fun g hg h0 => ?_, fun q hq ht h1 => ?_, S.r0⟩, ⟨fun g hg h0 => W.a g hg h0, fun q hq ht h1 => W.b q hq ht h1, fun g k hg hk h0 e => W.c g k hg hk h0 e, fun g hg h0 => ?_, fun x hx => W.e x hx, fun q hq ht h1 => W.f q hq ht h1, W.g, fun q hq => W.h q hq, fun q hq => W.i q hq⟩⟩
  · have h0' : 0 ≤ v.2 12 g := h0
    show (stA u 25 p b).2 24 (v.2 12 g).toNat = g ∧ (stA u 25 p b).2 25 (v.2 12 g).toNat = (stA v 13 f b).2 13 g
    rw [hU _ _ (by decide), h25, h13]
    have s1 := S.fr g hg h0'
    refine ⟨s1.1, ?_⟩
    by_cases e : g = f
    · rw [if_pos e, e, hp, Int.toNat_natCast, if_pos rfl]
    · rw [if_neg e, if_neg (fun q => e (W.c g f hg hf h0' (by omega)))]
      exact s1.2
  · have h1' : v.2 10 q ≠ 1 := h1
    rw [h25, if_neg (fun e => by rw [e, hpp] at h1'; exact h1' rfl)]
    exact S.rf q hq ht h1'
  · rw [h13]
    have h0' : v.2 12 g < 0 := h0
    rw [if_neg (fun e => by rw [e, hp] at h0'; omega)]
    exact W.d g hg h0'
theorem SL_le {v : SS} {p : Int} (h : 0 ≤ v.1 16) : SL (leM v p) = (SL v).filter (fun x => !decide (x = p)) := by
  show SL (rml (fun x => decide (x = p)) (v.1 16).toNat (stS v 21 (v.1 21 + lvC (v.2 10 p.toNat)))) = _
  rw [show (v.1 16).toNat = ((stS v 21 (v.1 21 + lvC (v.2 10 p.toNat))).1 16).toNat from rfl, SL_rm (by exact h)]
  rfl
/-- a page that is in no frame leaves its place: it is on its way -/
theorem PG_lv {u v : SS} {p : Nat} (S : PG u v 99 99) (hp : (p : Int) < 8 * v.1 0) (h1p : v.2 10 p ≠ 1) (hm : v.1 21 + 10 ≤ 100000000) : PG (detM u p) (leM v (p : Int)) 99 p := by
  have W := S.w
  have h48 := pg_lt S hp
  have i16 := S.mi.s16
  have hk := S.K
  have ipl := S.mi.a10 p
  have hc := S.pl p hp (by omega) (by omega)
  have h102 : u.2 23 p ≠ 102 := fun e => h1p ((plc_1 ipl).mp (hc.symm.trans e))
  have hP : ∀ q, (leM v (p : Int)).2 10 q = if q = p then 0 else v.2 10 q := fun q => by
    show (stA (rml _ _ _) 10 (p : Int).toNat 0).2 10 q = _
    rw [stA_2, if_pos rfl, Int.toNat_natCast]
    by_cases e : q = p
    · rw [if_pos e, if_pos e]
    · rw [if_neg e, if_neg e, rml_A (by decide)]; rfl
  have hA : ∀ a j, a ≠ 17 → a ≠ 10 → (leM v (p : Int)).2 a j = v.2 a j := fun a j h1 h2 => leM_A h1 h2
  have hSs : ∀ s, s ≠ 16 → s ≠ 21 → (leM v (p : Int)).1 s = v.1 s := fun s h1 h2 => leM_S h1 h2
  have hS : SL (leM v (p : Int)) = (SL v).filter (fun x => !decide (x = (p : Int))) := SL_le i16.1
  have hmem : ∀ y, y ∈ SL (leM v (p : Int)) ↔ y ∈ SL v ∧ y ≠ (p : Int) := fun y => by rw [hS, List.mem_filter]; simp
  have hO : OL (detM u p) = SL (leM v (p : Int)) := by
    rw [hS]
    unfold detM
    rw [if_neg h102]
    by_cases e : u.2 23 p = 115
    · rw [if_pos e, OL_dr (by rw [S.o]; exact W.g) (by omega), S.o]
    · rw [if_neg e, S.o]
      refine (List.filter_eq_self.mpr fun a ha => ?_).symm
      have y := (W.e a ha).2.2.2
      have : a ≠ (p : Int) := fun q => by
        rw [q, Int.toNat_natCast] at y
        exact e (hc.trans ((plc_2 ipl).mpr y))
      simpa using this
  have hd2 : ∀ a j, a ≠ 3 → (detM u p).2 a j = u.2 a j := fun a j h => by
    unfold detM
    rw [if_neg h102]
    split
    · exact drM_A h
    · rfl
  have h16 : (leM v (p : Int)).1 16 = ((SL (leM v (p : Int))).length : Int) := by rw [SL_len]; have := (leM_I (p := (p : Int)) S.mi hm).1.s16; omega
  have h11 : (detM u p).1 11 = ((OL (detM u p)).length : Int) := by rw [OL_len]; have := (CI_det S.ci p).s11; omega
  refine ⟨CI_det S.ci p, (leM_I S.mi hm).1, ⟨?_, ?_, ?_, ?_, fun q => ?_, fun f hf => ?_, hO, fun q hq ht hr => ?_, fun f hf h0 => ?_, fun q hq ht h1 => ?_, by rw [hP, if_pos rfl]⟩, ⟨fun f hf h0 => ?_, fun q hq ht h1 => ?_, fun f g hf hg h0 e => ?_, fun f hf h0 => ?_, fun x hx => ?_, fun q hq ht h1 => ?_, ?_, fun q hq => ?_, fun q hq => ?_⟩⟩
  · rw [detM_S (by decide) (by decide), hSs _ (by decide) (by decide)]; exact S.n
  · rw [detM_S (by decide) (by decide), hSs _ (by decide) (by decide)]; exact S.F
  · rw [detM_S (by decide) (by decide), hSs _ (by decide) (by decide)]; exact S.R
  · rw [h11, h16, hO]
  · rw [hd2 _ _ (by decide), hA _ _ (by decide) (by decide)]; exact S.sz q
  · rw [hd2 _ _ (by decide), hA _ _ (by decide) (by decide)]; exact S.hd f hf
  · rw [hSs _ (by decide) (by decide)] at hq
    rw [hd2 _ _ (by decide), hP, if_neg hr]; exact S.pl q hq ht ht
  · rw [hA _ _ (by decide) (by decide)] at h0
    rw [hA _ _ (by decide) (by decide), hA _ _ (by decide) (by decide), hd2 _ _ (by decide), hd2 _ _ (by decide)]
    exact S.fr f hf h0
  · rw [hSs _ (by decide) (by decide)] at hq
    rw [hd2 _ _ (by decide)]
    by_cases e : q = p
    · rw [e]; exact S.rf p hp (by omega) h1p
    · rw [hP, if_neg e] at h1; exact S.rf q hq ht h1
  · rw [hA _ _ (by decide) (by decide)] at h0 ⊢
    have w1 := W.a f hf h0
    have e : (v.2 12 f).toNat ≠ p := fun e => by rw [e] at w1; exact h1p w1.2.2.2
    rw [hSs _ (by decide) (by decide), hSs _ (by decide) (by decide)]
    exact ⟨w1.1, w1.2.1, w1.2.2.1, by rw [hP, if_neg e]; exact w1.2.2.2⟩
  · rw [hSs _ (by decide) (by decide)] at hq
    have e : q ≠ p := fun e => by rw [hP, if_pos e] at h1; exact absurd h1 (by decide)
    rw [hP, if_neg e] at h1
    obtain ⟨f, hf, h2⟩ := W.b q hq ht h1
    exact ⟨f, hf, by rw [hA _ _ (by decide) (by decide)]; exact h2⟩
  · rw [hA _ _ (by decide) (by decide)] at h0 e
    rw [hA _ _ (by decide) (by decide)] at e
    exact W.c f g hf hg h0 e
  · rw [hA _ _ (by decide) (by decide)] at h0 ⊢
    exact W.d f hf h0
  · obtain ⟨m1, m2⟩ := (hmem x).mp hx
    obtain ⟨y1, y2, y3, y4⟩ := W.e x m1
    rw [hSs _ (by decide) (by decide)]
    exact ⟨y1, y2, y3, by rw [hP, if_neg (by omega)]; exact y4⟩
  · rw [hSs _ (by decide) (by decide)] at hq
    have e : q ≠ p := fun e => by rw [hP, if_pos e] at h1; exact absurd h1 (by decide)
    rw [hP, if_neg e] at h1
    exact (hmem _).mpr ⟨W.f q hq ht h1, by omega⟩
  · rw [hS]; exact W.g.sublist List.filter_sublist
  · rw [hSs _ (by decide) (by decide)] at hq
    rw [hA _ _ (by decide) (by decide)]; exact W.h q hq
  · rw [hSs _ (by decide) (by decide)] at hq
    rw [hP, if_neg (by omega)]; exact W.i q hq
/-- the page on its way comes into a free frame -/
theorem PG_put {u v : SS} {f p : Nat} (S : PG u v 99 p) (hp : (p : Int) < 8 * v.1 0) (hf : f < 16) (hF : (f : Int) < v.1 11) (h0f : v.2 12 f < 0) : PG (ptM u p (f : Int)) (stA (stA (stA v 12 f (p : Int)) 13 f 1) 10 p 1) 99 99 := by
  have W := S.w
  have h48 := pg_lt S hp
  have i0 := S.mi.s0
  have hn := S.n
  have hp0 := S.r0
  have wa : ∀ g, g < 16 → 0 ≤ v.2 12 g → v.2 12 g ≠ (p : Int) := fun g hg h0 e => by
    have h := (W.a g hg h0).2.2.2
    rw [e, Int.toNat_natCast, hp0] at h
    exact absurd h (by decide)
  have we : ∀ x, x ∈ SL v → x ≠ (p : Int) := fun x hx e => by
    have h := (W.e x hx).2.2.2
    rw [e, Int.toNat_natCast, hp0] at h
    exact absurd h (by decide)
  have hP : ∀ q, (stA (stA (stA v 12 f (p : Int)) 13 f 1) 10 p 1).2 10 q = if q = p then 1 else v.2 10 q := fun q => by rw [stA_e, stA_o (by decide), stA_o (by decide)]
  have h12 : ∀ g, (stA (stA (stA v 12 f (p : Int)) 13 f 1) 10 p 1).2 12 g = if g = f then (p : Int) else v.2 12 g := fun q => by rw [stA_o (by decide), stA_o (by decide), stA_e]
  have h13 : ∀ g, (stA (stA (stA v 12 f (p : Int)) 13 f 1) 10 p 1).2 13 g = if g = f then 1 else v.2 13 g := fun q => by rw [stA_o (by decide), stA_e, stA_o (by decide)]
  have hA : ∀ a j, a ≠ 10 → a ≠ 12 → a ≠ 13 → (stA (stA (stA v 12 f (p : Int)) 13 f 1) 10 p 1).2 a j = v.2 a j := fun a j h1 h2 h3 => by rw [stA_2, if_neg h1, stA_2, if_neg h3, stA_2, if_neg h2]
  have hS : SL (stA (stA (stA v 12 f (p : Int)) 13 f 1) 10 p 1) = SL v := SL_c rfl (by funext j; exact hA _ _ (by decide) (by decide) (by decide))
  have e0 : ptM u p (f : Int) = stA (stA (mvM (stA u 2 f (p : Int)) p 102) 24 p (f : Int)) 25 p 1 := by unfold ptM mfM; rw [Int.toNat_natCast]
  have u25 : ∀ q, (ptM u p (f : Int)).2 25 q = if q = p then 1 else u.2 25 q := fun q => by
    rw [e0, stA_e]
    by_cases e : q = p
    · rw [if_pos e, if_pos e]
    · rw [if_neg e, if_neg e, stA_o (by decide), mvM_25, if_neg e, stA_o (by decide)]
  have u24 : ∀ q, (ptM u p (f : Int)).2 24 q = if q = p then (f : Int) else u.2 24 q := fun q => by
    rw [e0, stA_o (by decide), stA_e]
    by_cases e : q = p
    · rw [if_pos e, if_pos e]
    · rw [if_neg e, if_neg e, mvM_24, if_neg e, stA_o (by decide)]
  have u23 : ∀ q, (ptM u p (f : Int)).2 23 q = if q = p then 102 else u.2 23 q := fun q => by
    rw [e0, stA_o (by decide), stA_o (by decide), mvM_23, stA_o (by decide)]
  have u2 : ∀ g, (ptM u p (f : Int)).2 2 g = if g = f then (p : Int) else u.2 2 g := fun q => by
    rw [e0, stA_o (by decide), stA_o (by decide), mvM_A (by decide) (by decide) (by decide) (by decide), stA_e]
  have uA : ∀ a j, a ≠ 0 → a ≠ 2 → a ≠ 23 → a ≠ 24 → a ≠ 25 → (ptM u p (f : Int)).2 a j = u.2 a j := fun a j h0 h1 h2 h3 h4 => by
    rw [e0, stA_2, if_neg h4, stA_2, if_neg h3, mvM_A h0 h2 h3 h4, stA_2, if_neg h1]
  have uS : ∀ s, s ≠ 6 → (ptM u p (f : Int)).1 s = u.1 s := fun s h => by
    rw [e0]
    show (mvM (stA u 2 f (p : Int)) p 102).1 s = _
    rw [mvM_S h]
    rfl
  refine ⟨CI_pt S.ci (by rw [hn]; exact hp) (by omega), MI_A (MI_A (MI_A S.mi (by show (-1 : Int) ≤ (p : Int) ∧ (p : Int) ≤ 47; omega)) (by decide)) (by decide), ⟨?_, ?_, ?_, ?_, fun q => ?_, fun g hg => ?_, ?_, fun q hq ht hr => ?_, fun g hg h0 => ?_, fun q hq ht h1 => ?_, by rw [hP, if_neg (by omega)]; exact W.i 99 (by omega)⟩, ⟨fun g hg h0 => ?_, fun q hq ht h1 => ?_, fun g k hg hk h0 e => ?_, fun g hg h0 => ?_, fun x hx => ?_, fun q hq ht h1 => ?_, by rw [hS]; exact W.g, fun q hq => ?_, fun q hq => ?_⟩⟩
  · rw [uS _ (by decide)]; exact S.n
  · rw [uS _ (by decide)]; exact S.F
  · rw [uS _ (by decide)]; exact S.R
  · rw [uS _ (by decide)]; exact S.K
  · rw [uA _ _ (by decide) (by decide) (by decide) (by decide) (by decide), hA _ _ (by decide) (by decide) (by decide)]; exact S.sz q
  · rw [u2, h12]
    by_cases e : g = f
    · rw [if_pos e, if_pos e]
    · rw [if_neg e, if_neg e]; exact S.hd g hg
  · rw [hS, ← S.o]
    exact OL_c (uS _ (by decide)) (by funext j; exact uA _ _ (by decide) (by decide) (by decide) (by decide) (by decide))
  · rw [u23, hP]
    by_cases e : q = p
    · rw [if_pos e, if_pos e]; rfl
    · rw [if_neg e, if_neg e]; exact S.pl q hq ht e
  · rw [h12] at h0
    rw [h12, h13, u24, u25]
    by_cases e : g = f
    · rw [if_pos e, if_pos e, Int.toNat_natCast, if_pos rfl, if_pos rfl, e]; exact ⟨rfl, rfl⟩
    · rw [if_neg e] at h0
      have w1 := W.a g hg h0
      have w3 := wa g hg h0
      have e2 : (v.2 12 g).toNat ≠ p := by omega
      rw [if_neg e, if_neg e, if_neg e2, if_neg e2]; exact S.fr g hg h0
  · rw [hP] at h1
    rw [u25]
    by_cases e : q = p
    · rw [if_pos e] at h1; exact absurd rfl h1
    · rw [if_neg e] at h1
      rw [if_neg e]; exact S.rf q hq ht h1
  · rw [h12] at h0 ⊢
    by_cases e : g = f
    · rw [if_pos e, e, hP, Int.toNat_natCast, if_pos rfl]; exact ⟨hF, hp, by omega, rfl⟩
    · rw [if_neg e] at h0 ⊢
      have w1 := W.a g hg h0
      have w2 : v.2 12 g < 8 * v.1 0 := w1.2.1
      have w3 := wa g hg h0
      exact ⟨w1.1, w1.2.1, by omega, by rw [hP, if_neg (by omega)]; exact w1.2.2.2⟩
  · rw [hP] at h1
    by_cases e : q = p
    · exact ⟨f, hf, by rw [h12, if_pos rfl, e]⟩
    · rw [if_neg e] at h1
      obtain ⟨g, hg, h2⟩ := W.b q hq ht h1
      refine ⟨g, hg, ?_⟩
      rw [h12, if_neg (fun e3 => by rw [e3] at h2; omega)]
      exact h2
  · rw [h12] at h0 e
    rw [h12] at e
    by_cases e1 : g = f
    · by_cases e2 : k = f
      · rw [e1, e2]
      · rw [if_pos e1, if_neg e2] at e
        exact absurd e.symm (wa k hk (by omega))
    · rw [if_neg e1] at h0 e
      by_cases e2 : k = f
      · rw [if_pos e2] at e
        exact absurd e (wa g hg h0)
      · rw [if_neg e2] at e
        exact W.c g k hg hk h0 e
  · rw [h12] at h0
    rw [h13]
    by_cases e : g = f
    · rw [if_pos e] at h0; omega
    · rw [if_neg e] at h0 ⊢
      exact W.d g hg h0
  · rw [hS] at hx
    obtain ⟨y1, y2, y3, y4⟩ := W.e x hx
    have y5 := we x hx
    exact ⟨y1, y2, by omega, by rw [hP, if_neg (by omega)]; exact y4⟩
  · rw [hP] at h1
    by_cases e : q = p
    · rw [if_pos e] at h1; exact absurd h1 (by decide)
    · rw [if_neg e] at h1
      rw [hS]; exact W.f q hq ht h1
  · rw [hA _ _ (by decide) (by decide) (by decide)]; exact W.h q hq
  · have hq2 : 8 * v.1 0 ≤ (q : Int) := hq
    rw [hP, if_neg (by omega)]; exact W.i q hq2
/-- the page that has left its place is told to be nowhere -/
theorem PG_home {u v : SS} {p : Nat} (S : PG u v 99 p) (hp : (p : Int) < 8 * v.1 0) : PG (mvM u p 45) v 99 99 := by
  have W := S.w
  have h48 := pg_lt S hp
  have hp0 := S.r0
  refine ⟨CI_mv S.ci h48 (Or.inl rfl), S.mi, ⟨?_, ?_, ?_, ?_, fun q => ?_, fun f hf => ?_, ?_, fun q hq ht hr => ?_, fun f hf h0 => ?_, fun q hq ht h1 => ?_, W.i 99 (by have := S.mi.s0; omega)⟩, W⟩
  · rw [mvM_S (by decide)]; exact S.n
  · rw [mvM_S (by decide)]; exact S.F
  · rw [mvM_S (by decide)]; exact S.R
  · rw [mvM_S (by decide)]; exact S.K
  · rw [mvM_A (by decide) (by decide) (by decide) (by decide)]; exact S.sz q
  · rw [mvM_A (by decide) (by decide) (by decide) (by decide)]; exact S.hd f hf
  · rw [OL_mv]; exact S.o
  · rw [mvM_23]
    by_cases e : q = p
    · rw [if_pos e, e, hp0]; rfl
    · rw [if_neg e]; exact S.pl q hq ht e
  · have w1 := W.a f hf h0
    have e : (v.2 12 f).toNat ≠ p := fun e => by rw [e, hp0] at w1; exact absurd w1.2.2.2 (by decide)
    rw [mvM_24, mvM_25, if_neg e, if_neg e]
    exact S.fr f hf h0
  · rw [mvM_25]
    by_cases e : q = p
    · rw [if_pos e]
    · rw [if_neg e]; exact S.rf q hq ht h1
