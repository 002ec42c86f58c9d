/-! TOGETHER: a service is killed -/
theorem PG_ae {u v v' : SS} {t r : Nat} (S : PG u v t r) (I : MI v') (b1 : v'.1 0 = v.1 0) (b2 : v'.1 11 = v.1 11) (b3 : v'.1 15 = v.1 15) (b4 : v'.1 16 = v.1 16) (b5 : ∀ p, v'.2 9 p = v.2 9 p) (b6 : ∀ f, f < 16 → v'.2 12 f = v.2 12 f) (b7 : ∀ f, f < 16 → v'.2 13 f = v.2 13 f) (b8 : SL v' = SL v) (b9 : ∀ p, v'.2 10 p = v.2 10 p) : PG u v' t r := by
  have W := S.w
  refine ⟨S.ci, I, ⟨by rw [b1]; exact S.n, by rw [b2]; exact S.F, by rw [b3]; exact S.R, by rw [b4]; exact S.K, fun p => by rw [b5]; exact S.sz p, fun f hf => by rw [b6 f hf]; exact S.hd f hf, by rw [b8]; exact S.o, fun p hp ht hr => ?_, fun f hf h0 => ?_, fun p hp ht h1 => ?_, by rw [b9]; exact S.r0⟩, ⟨fun f hf h0 => ?_, fun p hp ht h1 => ?_, fun f g hf hg h0 e => ?_, fun f hf h0 => ?_, fun x hx => ?_, fun p hp ht h1 => ?_, by rw [b8]; exact W.g, fun p hp => ?_, fun p hp => ?_⟩⟩
  · rw [b1] at hp; rw [b9]; exact S.pl p hp ht hr
  · rw [b6 f hf] at h0 ⊢; rw [b7 f hf]; exact S.fr f hf h0
  · rw [b1] at hp; rw [b9] at h1; exact S.rf p hp ht h1
  · rw [b6 f hf] at h0 ⊢; rw [b1, b2, b9]; exact W.a f hf h0
  · rw [b1] at hp; rw [b9] at h1
    obtain ⟨f, hf, h2⟩ := W.b p hp ht h1
    exact ⟨f, hf, by rw [b6 f hf]; exact h2⟩
  · rw [b6 f hf] at h0 e; rw [b6 g hg] at e; exact W.c f g hf hg h0 e
  · rw [b6 f hf] at h0; rw [b7 f hf]; exact W.d f hf h0
  · rw [b8] at hx; rw [b1, b9]; exact W.e x hx
  · rw [b1] at hp; rw [b9] at h1; rw [b8]; exact W.f p hp ht h1
  · rw [b1] at hp; rw [b5]; exact W.h p hp
  · rw [b1] at hp; rw [b9]; exact W.i p hp
/-- the pages 8 s, .. 8 s + z - 1 are gone, on the model's side -/
def kzP (s z : Nat) (x : Int) : Bool := decide (8 * (s : Int) ≤ x) && decide (x < 8 * (s : Int) + z)
def kz (v : SS) (s z : Nat) : SS :=
  stF (rml (kzP s z) (v.1 16).toNat (stF (stF v 12 (fun f => if kzP s z (v.2 12 f) then -1 else v.2 12 f)) 13 (fun f => if kzP s z (v.2 12 f) then 0 else v.2 13 f))) 10 (fun p => if kzP s z (p : Int) then 0 else v.2 10 p)
theorem kzP_t {s z : Nat} {x : Int} : kzP s z x = true ↔ 8 * (s : Int) ≤ x ∧ x < 8 * (s : Int) + z := by unfold kzP; simp
theorem kzP_f {s z : Nat} {x : Int} (h : ¬ (8 * (s : Int) ≤ x ∧ x < 8 * (s : Int) + z)) : kzP s z x = false := by
  cases e : kzP s z x
  · rfl
  · exact absurd (kzP_t.mp e) h
theorem kz_10 {v : SS} {s z p : Nat} : (kz v s z).2 10 p = if kzP s z (p : Int) then 0 else v.2 10 p := rfl
theorem kz_12 {v : SS} {s z f : Nat} : (kz v s z).2 12 f = if kzP s z (v.2 12 f) then -1 else v.2 12 f := by
  show (rml _ _ _).2 12 f = _
  rw [rml_A (by decide)]
  rfl
theorem kz_13 {v : SS} {s z f : Nat} : (kz v s z).2 13 f = if kzP s z (v.2 12 f) then 0 else v.2 13 f := by
  show (rml _ _ _).2 13 f = _
  rw [rml_A (by decide)]
  rfl
theorem kz_A {v : SS} {s z a j : Nat} (h1 : a ≠ 10) (h2 : a ≠ 17) (h3 : a ≠ 12) (h4 : a ≠ 13) : (kz v s z).2 a j = v.2 a j := by
  show (if a = 10 then _ else (rml _ _ _).2 a) j = _
  rw [if_neg h1, rml_A h2]
  show (if a = 13 then _ else if a = 12 then _ else v.2 a) j = _
  rw [if_neg h4, if_neg h3]
theorem kz_S {v : SS} {s z k : Nat} (h : k ≠ 16) : (kz v s z).1 k = v.1 k := by
  show (rml _ _ _).1 k = _
  rw [rml_S h]
  rfl
theorem SL_kz {v : SS} {s z : Nat} (h : 0 ≤ v.1 16) : SL (kz v s z) = (SL v).filter (fun x => !kzP s z x) := by
  have e := SL_rm (P := kzP s z) (v := stF (stF v 12 (fun f => if kzP s z (v.2 12 f) then -1 else v.2 12 f)) 13 (fun f => if kzP s z (v.2 12 f) then 0 else v.2 13 f)) h
  exact e
theorem MI_kz {v : SS} {s z : Nat} (I : MI v) : MI (kz v s z) := by
  unfold kz
  refine MI_F (rml_I _ _ (MI_F (MI_F I fun j => ?_) fun j => ?_) (by have := I.s16; show _ ≤ v.1 16; omega)).1 fun j => ?_
  · split
    · decide
    · exact I.a12 j
  · split
    · decide
    · exact I.a13 j
  · split
    · decide
    · exact I.a10 j
theorem kz_16 {v : SS} {s z : Nat} (I : MI v) : (kz v s z).1 16 = (((SL v).filter (fun x => !kzP s z x)).length : Int) := by
  have h := (MI_kz (s := s) (z := z) I).s16
  rw [← SL_kz I.s16.1, SL_len]
  omega
theorem kzP_0 {s : Nat} {x : Int} : kzP s 0 x = false := kzP_f (by omega)
theorem kzP_s {s z : Nat} {x : Int} : kzP s (z + 1) x = (kzP s z x || decide (x = ((8 * s + z : Nat) : Int))) := by
  by_cases h : x = ((8 * s + z : Nat) : Int)
  · rw [decide_eq_true h, Bool.or_true]; exact kzP_t.mpr (by omega)
  · rw [decide_eq_false h, Bool.or_false]
    by_cases h2 : kzP s z x = true
    · rw [h2]; have := kzP_t.mp h2; exact kzP_t.mpr (by omega)
    · have h3 : kzP s z x = false := by cases e : kzP s z x; rfl; exact absurd e h2
      rw [h3]
      exact kzP_f fun h4 => h2 (kzP_t.mpr (by omega))
theorem mk1 {u v : SS} {s z : Nat} {B : Int} (hB : B ≤ 2048) (S : PG u (kz v s z) 99 99) (I : MI v) (H : HP u B) (hs : (s : Int) < v.1 0) (hz : z < 8) (hm : v.1 21 + 10 ≤ 100000000) : PG (kn1 u (8 * s + z)) (kz v s (z + 1)) 99 99 ∧ HP (kn1 u (8 * s + z)) B := by
  have i0 := I.s0
  have e0 : (kz v s z).1 0 = v.1 0 := kz_S (by decide)
  have hp8 : (((8 * s + z : Nat)) : Int) < 8 * (kz v s z).1 0 := by rw [e0]; omega
  have h48 : 8 * s + z < 48 := by omega
  have ipl := S.mi.a10 (8 * s + z)
  have hpl := S.pl (8 * s + z) hp8 (by omega) (by omega)
  have h10 : (kz v s z).2 10 (8 * s + z) = v.2 10 (8 * s + z) := by rw [kz_10, kzP_f (by omega)]; rfl
  have hflt : ∀ (l : List Int), (l.filter (fun x => !kzP s z x)).filter (fun x => !decide (x = ((8 * s + z : Nat) : Int))) = l.filter (fun x => !kzP s (z + 1) x) := fun l => by
    rw [List.filter_filter]
    refine List.filter_congr fun x _ => ?_
    rw [kzP_s]
    cases kzP s z x <;> cases decide (x = ((8 * s + z : Nat) : Int)) <;> rfl
  unfold kn1
  by_cases c45 : u.2 23 (8 * s + z) = 45
  · rw [if_pos c45]
    refine ⟨?_, H⟩
    have c0 : (kz v s z).2 10 (8 * s + z) = 0 := (plc_0 ipl).mp (hpl.symm.trans c45)
    have hne : ∀ f, f < 16 → v.2 12 f ≠ ((8 * s + z : Nat) : Int) := fun f hf e => by
      have e2 : (kz v s z).2 12 f = ((8 * s + z : Nat) : Int) := by rw [kz_12, e, kzP_f (by omega)]; rfl
      have w := (S.w.a f hf (by rw [e2]; omega)).2.2.2
      rw [e2, Int.toNat_natCast, c0] at w
      exact absurd w (by decide)
    have hP : ∀ f, f < 16 → kzP s (z + 1) (v.2 12 f) = kzP s z (v.2 12 f) := fun f hf => by rw [kzP_s, decide_eq_false (hne f hf), Bool.or_false]
    have hL : SL (kz v s (z + 1)) = SL (kz v s z) := by
      rw [SL_kz I.s16.1, ← hflt, ← SL_kz I.s16.1]
      refine List.filter_eq_self.mpr fun a ha => ?_
      have w := (S.w.e a ha).2.2.2
      have : a ≠ ((8 * s + z : Nat) : Int) := fun e => by
        rw [e, Int.toNat_natCast, c0] at w
        exact absurd w (by decide)
      simpa using this
    refine PG_ae S (MI_kz I) (by rw [kz_S (by decide), kz_S (by decide)]) (by rw [kz_S (by decide), kz_S (by decide)]) (by rw [kz_S (by decide), kz_S (by decide)]) ?_ (fun p => by rw [kz_A (by decide) (by decide) (by decide) (by decide), kz_A (by decide) (by decide) (by decide) (by decide)]) (fun f hf => by rw [kz_12, kz_12, hP f hf]) (fun f hf => by rw [kz_13, kz_13, hP f hf]) hL (fun p => ?_)
    · rw [kz_16 I, kz_16 I, ← SL_kz I.s16.1, hL, SL_kz I.s16.1]
    · rw [kz_10, kz_10, kzP_s]
      by_cases e : p = 8 * s + z
      · subst e
        rw [decide_eq_true rfl, Bool.or_true, if_pos rfl, ← kz_10]
        exact c0.symm
      · rw [decide_eq_false (by omega), Bool.or_false]
  · rw [if_neg c45]
    have c0 : (kz v s z).2 10 (8 * s + z) ≠ 0 := fun e => c45 (hpl.trans ((plc_0 ipl).mpr e))
    have hdet : HP (detM u (8 * s + z)) B := by
      refine HP_c H (detM_S (by decide) (by decide)) (detM_S (by decide) (by decide)) ?_ ?_
      · funext j; exact detM_A (by decide) (by decide)
      · funext j; exact detM_A (by decide) (by decide)
    have hrk : rkc 45 < rkc ((detM u (8 * s + z)).2 23 (8 * s + z)) := by
      rw [detM_A (by decide) (by decide), hpl]
      have : (kz v s z).2 10 (8 * s + z) = 1 ∨ (kz v s z).2 10 (8 * s + z) = 2 ∨ (kz v s z).2 10 (8 * s + z) = 3 := by omega
      rcases this with h | h | h <;> rw [h] <;> decide
    refine ⟨?_, HP_dn (CI_det S.ci _) hdet hB h48 (by rw [detM_S (by decide) (by decide), S.n]; exact hp8) (Or.inl rfl) hrk⟩
    by_cases c1 : (kz v s z).2 10 (8 * s + z) = 1
    · have c102 : u.2 23 (8 * s + z) = 102 := hpl.trans ((plc_1 ipl).mpr c1)
      obtain ⟨f, hf, h2⟩ := S.w.b (8 * s + z) hp8 (by omega) c1
      have hv : v.2 12 f = ((8 * s + z : Nat) : Int) := by
        rw [kz_12] at h2
        by_cases e : kzP s z (v.2 12 f) = true
        · rw [if_pos e] at h2; omega
        · rw [if_neg e] at h2; exact h2
      have h24 : u.2 24 (8 * s + z) = (f : Int) := by
        have := (S.fr f hf (by rw [h2]; omega)).1
        rw [h2, Int.toNat_natCast] at this
        exact this
      have S1 := PG_set (PG_out S hf h2) (by omega) hp8 (c := 0) (Or.inl rfl)
      have ed : detM u (8 * s + z) = stA u 2 f (-1) := by unfold detM; rw [if_pos c102, h24, Int.toNat_natCast]
      rw [ed]
      have hL : SL (kz v s (z + 1)) = SL (kz v s z) := by
        rw [SL_kz I.s16.1, ← hflt, ← SL_kz I.s16.1]
        refine List.filter_eq_self.mpr fun a ha => ?_
        have w := (S.w.e a ha).2.2.2
        have : a ≠ ((8 * s + z : Nat) : Int) := fun e => by
          rw [e, Int.toNat_natCast, c1] at w
          exact absurd w (by decide)
        simpa using this
      have hu : ∀ g, g < 16 → (v.2 12 g = ((8 * s + z : Nat) : Int) ↔ g = f) := fun g hg => ⟨fun e => by
        have e2 : (kz v s z).2 12 g = ((8 * s + z : Nat) : Int) := by rw [kz_12, e, kzP_f (by omega)]; rfl
        exact S.w.c g f hg hf (by rw [e2]; omega) (by rw [e2, h2]), fun e => by rw [e]; exact hv⟩
      have t12 : ∀ g, (stA (toA (kz v s z) f) 10 (8 * s + z) 0).2 12 g = if g = f then -1 else (kz v s z).2 12 g := fun g => by
        rw [stA_o (by decide)]; show (stA (stA _ 12 f (-1)) 13 f 0).2 12 g = _; rw [stA_o (by decide), stA_e]
      have t13 : ∀ g, (stA (toA (kz v s z) f) 10 (8 * s + z) 0).2 13 g = if g = f then 0 else (kz v s z).2 13 g := fun g => by
        rw [stA_o (by decide)]; show (stA (stA _ 12 f (-1)) 13 f 0).2 13 g = _; rw [stA_e, stA_o (by decide)]
      have tA : ∀ a j, a ≠ 10 → a ≠ 12 → a ≠ 13 → (stA (toA (kz v s z) f) 10 (8 * s + z) 0).2 a j = (kz v s z).2 a j := fun a j h1 h2 h3 => by
        rw [stA_o h1]; show (stA (stA _ 12 f (-1)) 13 f 0).2 a j = _; rw [stA_o h3, stA_o h2]
      refine PG_ae S1 (MI_kz I) ?_ ?_ ?_ ?_ (fun p => ?_) (fun g hg => ?_) (fun g hg => ?_) ?_ (fun p => ?_)
      · show _ = (kz v s z).1 0; rw [kz_S (by decide), kz_S (by decide)]
      · show _ = (kz v s z).1 11; rw [kz_S (by decide), kz_S (by decide)]
      · show _ = (kz v s z).1 15; rw [kz_S (by decide), kz_S (by decide)]
      · show _ = (kz v s z).1 16; rw [kz_16 I, kz_16 I, ← SL_kz I.s16.1, hL, SL_kz I.s16.1]
      · rw [tA _ _ (by decide) (by decide) (by decide), kz_A (by decide) (by decide) (by decide) (by decide), kz_A (by decide) (by decide) (by decide) (by decide)]
      · rw [t12, kz_12, kz_12, kzP_s]
        by_cases e : g = f
        · rw [if_pos e, decide_eq_true ((hu g hg).mpr e), Bool.or_true]; rfl
        · rw [if_neg e, decide_eq_false (fun h => e ((hu g hg).mp h)), Bool.or_false]
      · rw [t13, kz_13, kz_13, kzP_s]
        by_cases e : g = f
        · rw [if_pos e, decide_eq_true ((hu g hg).mpr e), Bool.or_true]; rfl
        · rw [if_neg e, decide_eq_false (fun h => e ((hu g hg).mp h)), Bool.or_false]
      · rw [hL]
        refine (SL_c rfl ?_).symm
        funext j; exact tA 17 j (by decide) (by decide) (by decide)
      · rw [kz_10, stA_e, kzP_s]
        by_cases e : p = 8 * s + z
        · subst e; rw [decide_eq_true rfl, Bool.or_true, if_pos rfl, if_pos rfl]
        · rw [decide_eq_false (by omega), Bool.or_false, if_neg e]
          show _ = (kz v s z).2 10 p
          rw [kz_10]
    · have S1 := PG_home (PG_lv S hp8 c1 (by rw [kz_S (by decide)]; exact hm)) (by rw [leM_S (by decide) (by decide)]; exact hp8)
      have hL : SL (kz v s (z + 1)) = SL (leM (kz v s z) ((8 * s + z : Nat) : Int)) := by
        rw [SL_kz I.s16.1, ← hflt, ← SL_kz I.s16.1, SL_le S.mi.s16.1]
      have hne : ∀ f, f < 16 → v.2 12 f ≠ ((8 * s + z : Nat) : Int) := fun f hf e => by
        have e2 : (kz v s z).2 12 f = ((8 * s + z : Nat) : Int) := by rw [kz_12, e, kzP_f (by omega)]; rfl
        have w := (S.w.a f hf (by rw [e2]; omega)).2.2.2
        rw [e2, Int.toNat_natCast] at w
        exact c1 w
      have hP : ∀ f, f < 16 → kzP s (z + 1) (v.2 12 f) = kzP s z (v.2 12 f) := fun f hf => by rw [kzP_s, decide_eq_false (hne f hf), Bool.or_false]
      have j16 := S1.mi.s16
      refine PG_ae S1 (MI_kz I) ?_ ?_ ?_ ?_ (fun p => ?_) (fun g hg => ?_) (fun g hg => ?_) hL (fun p => ?_)
      · rw [leM_S (by decide) (by decide), kz_S (by decide), kz_S (by decide)]
      · rw [leM_S (by decide) (by decide), kz_S (by decide), kz_S (by decide)]
      · rw [leM_S (by decide) (by decide), kz_S (by decide), kz_S (by decide)]
      · rw [kz_16 I, ← SL_kz I.s16.1, hL, SL_len]; omega
      · rw [leM_A (by decide) (by decide), kz_A (by decide) (by decide) (by decide) (by decide), kz_A (by decide) (by decide) (by decide) (by decide)]
      · rw [leM_A (by decide) (by decide), kz_12, kz_12, hP g hg]
      · rw [leM_A (by decide) (by decide), kz_13, kz_13, hP g hg]
      · rw [kz_10, kzP_s]
        show _ = (stA (rml _ _ _) 10 ((8 * s + z : Nat) : Int).toNat 0).2 10 p
        rw [stA_e, Int.toNat_natCast]
        by_cases e : p = 8 * s + z
        · subst e; rw [decide_eq_true rfl, Bool.or_true, if_pos rfl, if_pos rfl]
        · rw [decide_eq_false (by omega), Bool.or_false, if_neg e, rml_A (by decide)]
          show _ = (kz v s z).2 10 p
          rw [kz_10]
theorem mkL {u v : SS} {s : Nat} {B : Int} (hB : B ≤ 2048) (S : PG u v 99 99) (H : HP u B) (hs : (s : Int) < v.1 0) (hm : v.1 21 + 10 ≤ 100000000) : ∀ z : Nat, z ≤ 8 → PG (knL u s z) (kz v s z) 99 99 ∧ HP (knL u s z) B
  | 0, _ => by
    refine ⟨?_, H⟩
    have hL : SL (kz v s 0) = SL v := by
      rw [SL_kz S.mi.s16.1]
      exact List.filter_eq_self.mpr fun a _ => by rw [kzP_0]; rfl
    have h16 := S.mi.s16
    refine PG_ae S (MI_kz S.mi) (kz_S (by decide)) (kz_S (by decide)) (kz_S (by decide)) ?_ (fun p => kz_A (by decide) (by decide) (by decide) (by decide)) (fun f _ => by rw [kz_12, kzP_0]; rfl) (fun f _ => by rw [kz_13, kzP_0]; rfl) hL (fun p => by rw [kz_10, kzP_0]; rfl)
    rw [kz_16 S.mi, ← SL_kz S.mi.s16.1, hL, SL_len]
    omega
  | z + 1, h => by
    obtain ⟨a, b⟩ := mkL hB S H hs hm z (by omega)
    exact mk1 hB a S.mi b hs (by omega) hm
/-- the killing of a service, on both sides -/
theorem PG_kill {u v : SS} {s : Nat} {B : Int} (hB : B ≤ 2048) (S : PG u v 99 99) (H : HP u B) (hs : (s : Int) < v.1 0) (hm : v.1 21 + 10 ≤ 100000000) (hd : v.1 25 + 1 ≤ 1000000) (hd2 : u.1 2 + 1 ≤ 1000000) (hT : TK v) :
    PG (knM u s) (kM v (s : Int)) 99 99 ∧ HP (knM u s) B ∧ TK (kM v (s : Int)) := by
  have i0 := S.mi.s0
  have i11 := S.mi.s11
  have S0 : PG u (kl1 v (s : Int)) 99 99 := PG_c S S.ci (MI_kl1 S.mi hd) rfl rfl rfl rfl rfl rfl rfl rfl rfl rfl rfl rfl rfl rfl rfl rfl rfl rfl rfl
  obtain ⟨S1, H1⟩ := mkL hB S0 H (by exact hs) (by exact hm) 8 (by decide)
  have hP : ∀ x : Int, decide (x / 8 = (s : Int)) = kzP s 8 x := fun x => by
    by_cases h : kzP s 8 x = true
    · rw [h]; have := kzP_t.mp h; exact decide_eq_true (by omega)
    · have h2 : kzP s 8 x = false := by cases e : kzP s 8 x; rfl; exact absurd e h
      rw [h2]
      exact decide_eq_false fun h3 => h (kzP_t.mpr (by omega))
  have S2 : PG (knM u s) (kz (kl1 v (s : Int)) s 8) 99 99 := by
    refine PG_c S1 (CI_knM S.ci (by omega) (HP_fr S H) hd2) S1.mi rfl rfl rfl rfl rfl rfl rfl rfl rfl rfl rfl rfl rfl rfl rfl rfl rfl rfl rfl
  have eF : ∀ f, f < 16 → klH (kl1 v (s : Int)) (s : Int) (v.1 11).toNat f = kzP s 8 (v.2 12 f) := fun f hf => by
    show (decide (f < (v.1 11).toNat) && (decide (0 ≤ v.2 12 f) && decide (v.2 12 f / 8 = (s : Int)))) = _
    rw [hP]
    by_cases h0 : 0 ≤ v.2 12 f
    · have w := (S.w.a f hf h0).1
      rw [decide_eq_true h0, decide_eq_true (show f < (v.1 11).toNat by omega)]
      rfl
    · rw [decide_eq_false h0, kzP_f (by omega), Bool.false_and, Bool.and_false]
  have eL : SL (kM v (s : Int)) = SL (kz (kl1 v (s : Int)) s 8) := by
    have e1 : SL (kM v (s : Int)) = SL (klR (klF (kl1 v (s : Int)) (s : Int) (v.1 11).toNat) (s : Int)) := SL_c rfl rfl
    rw [e1, SL_kz S0.mi.s16.1]
    have e2 := SL_rm (P := fun x => decide (x / 8 = (s : Int))) (v := klF (kl1 v (s : Int)) (s : Int) (v.1 11).toNat) S.mi.s16.1
    refine e2.trans ?_
    show (SL (klF (kl1 v (s : Int)) (s : Int) (v.1 11).toNat)).filter _ = _
    rw [show SL (klF (kl1 v (s : Int)) (s : Int) (v.1 11).toNat) = SL (kl1 v (s : Int)) from rfl]
    exact List.filter_congr fun x _ => by rw [hP]
  have Ik := kM_I (s := (s : Int)) S.mi hd
  have S3 : PG (knM u s) (kM v (s : Int)) 99 99 := by
    refine PG_ae S2 Ik ?_ ?_ ?_ ?_ (fun p => ?_) (fun f hf => ?_) (fun f hf => ?_) eL (fun p => ?_)
    · rw [kM_S (by decide) (by decide), kz_S (by decide)]; rfl
    · rw [kM_S (by decide) (by decide), kz_S (by decide)]; rfl
    · rw [kM_S (by decide) (by decide), kz_S (by decide)]; rfl
    · have h1 := Ik.s16
      have h2 := SL_len (kM v (s : Int))
      rw [kz_16 S0.mi, ← SL_kz S0.mi.s16.1, ← eL, h2]
      omega
    · rw [kM_A (by decide) (by decide) (by decide) (by decide) (by decide) (by decide), kz_A (by decide) (by decide) (by decide) (by decide)]; rfl
    · show (rml _ _ _).2 12 f = _
      rw [rml_A (by decide), klF_12, kz_12, eF f hf]
      rfl
    · show (rml _ _ _).2 13 f = _
      rw [rml_A (by decide), klF_13, kz_13, eF f hf]
      rfl
    · rw [kz_10]
      show (if 8 * (s : Int).toNat ≤ p ∧ p < 8 * (s : Int).toNat + 8 then (0 : Int) else (klR _ _).2 10 p) = _
      rw [Int.toNat_natCast]
      by_cases h : 8 * s ≤ p ∧ p < 8 * s + 8
      · rw [if_pos h, if_pos (kzP_t.mpr (by omega))]
      · rw [if_neg h, kzP_f (by omega)]
        show (rml _ _ _).2 10 p = _
        rw [rml_A (by decide), klF_A (by decide) (by decide)]
        rfl
  refine ⟨S3, HP_c H1 rfl rfl rfl rfl, ?_⟩
  show tk (kM v (s : Int)) ≤ (kM v (s : Int)).1 15
  rw [kM_S (by decide) (by decide), tk_SL, eL, SL_kz S0.mi.s16.1]
  have e9 : ∀ j, (kM v (s : Int)).2 9 j = v.2 9 j := fun j => kM_A (by decide) (by decide) (by decide) (by decide) (by decide) (by decide)
  simp only [e9]
  refine Int.le_trans (sum_flt fun x _ => (S.mi.a9 _).1) ?_
  have : tk v ≤ v.1 15 := hT
  rw [tk_SL] at this
  exact this
