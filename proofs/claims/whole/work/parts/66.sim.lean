/-! TOGETHER: needs -/
theorem hb_nd {x : Int} {j : Nat} (hx : 0 ≤ x ∧ x ≤ 63) (hj : j < 31) : hb x (j : Int) = ndX x (j : Int) := by
  obtain ⟨m, rfl⟩ : ∃ m : Nat, x = (m : Int) := ⟨x.toNat, by omega⟩
  unfold hb ndX
  rw [tb_shr (by omega) hj, tb_and1 (by have := shr_le m j; omega), tb_bit]
  split <;> decide
theorem hb_bOr {x y : Int} {j : Nat} (hx : 0 ≤ x ∧ x ≤ 63) (hy : 0 ≤ y ∧ y ≤ 63) (hj : j < 31) : hb (bOr x y) (j : Int) = (hb x (j : Int) || hb y (j : Int)) := by
  obtain ⟨m, rfl⟩ : ∃ m : Nat, x = (m : Int) := ⟨x.toNat, by omega⟩
  obtain ⟨n, rfl⟩ : ∃ n : Nat, y = (n : Int) := ⟨y.toNat, by omega⟩
  have h6 : m ||| n < 2 ^ 6 := Nat.or_lt_two_pow (by omega) (by omega)
  rw [bOr_nat (by omega) (by omega), hb_tb (by omega) hj, hb_tb (by omega) hj, hb_tb (by omega) hj, Nat.testBit_or]
theorem bOr_6 {x y : Int} (hx : 0 ≤ x ∧ x ≤ 63) (hy : 0 ≤ y ∧ y ≤ 63) : 0 ≤ bOr x y ∧ bOr x y ≤ 63 := by
  obtain ⟨m, rfl⟩ : ∃ m : Nat, x = (m : Int) := ⟨x.toNat, by omega⟩
  obtain ⟨n, rfl⟩ : ∃ n : Nat, y = (n : Int) := ⟨y.toNat, by omega⟩
  have h6 : m ||| n < 2 ^ 6 := Nat.or_lt_two_pow (by omega) (by omega)
  rw [bOr_nat (by omega) (by omega)]
  omega
theorem hb_1 {s j : Nat} (hs : s < 6) (hj : j < 31) : hb (bShl 1 (s : Int)) (j : Int) = decide (j = s) := by
  rw [bShl_nat (by omega), hb_tb (by have : 2 ^ s ≤ 2 ^ 6 := Nat.pow_le_pow_right (by decide) (by omega); omega) hj, Nat.testBit_two_pow]
  exact decide_eq_decide.mpr ⟨fun h => h.symm, fun h => h.symm⟩
theorem bShl_6 {s : Nat} (hs : s < 6) : 0 ≤ bShl 1 (s : Int) ∧ bShl 1 (s : Int) ≤ 63 := by
  have : ∀ o : Fin 6, 0 ≤ bShl 1 (o.val : Int) ∧ bShl 1 (o.val : Int) ≤ 63 := by decide +kernel
  exact this ⟨s, hs⟩
/-- needs go to services that are there -/
def NB (v : SS) : Prop := ∀ s k : Nat, k < 31 → ndB v s k = true → (k : Int) < v.1 0
theorem ndB_x {v : SS} {s k : Nat} : ndB v (s : Int) k = ndX (v.2 7 s) k := by unfold ndB; rw [Int.toNat_natCast]
theorem ral_t {v : SS} {o d s k : Nat} (hk : (k : Int) < v.1 0) (h1 : ndB v s k = true) (h2 : k = o ∨ ral v o d k = true) : ral v o (d + 1) s = true := by
  rw [ral_s]
  exact anyN_t (z := k) (by omega) (raP_t h1 (by rcases h2 with h | h; · exact Or.inl (by rw [h])
                                                 · exact Or.inr h))
theorem ral_x {v : SS} {o d s : Nat} (h : ral v o (d + 1) s = true) : ∃ k : Nat, (k : Int) < v.1 0 ∧ ndB v s k = true ∧ (k = o ∨ ral v o d k = true) := by
  rw [ral_s] at h
  obtain ⟨k, hk, h2⟩ := anyN_e h
  unfold raP at h2
  rw [Bool.and_eq_true, Bool.or_eq_true] at h2
  refine ⟨k, by omega, h2.1, ?_⟩
  rcases h2.2 with h3 | h3
  · exact Or.inl (by have := of_decide_eq_true h3; omega)
  · exact Or.inr h3
theorem ral_0 {v : SS} {o s : Nat} : ral v o 0 s = false := rfl
theorem ral_up {v : SS} {o : Nat} : ∀ {d s : Nat}, ral v o d s = true → ral v o (d + 1) s = true
  | 0, s, h => by rw [ral_0] at h; cases h
  | d + 1, s, h => by
    obtain ⟨k, hk, h1, h2⟩ := ral_x h
    exact ral_t hk h1 (h2.imp id ral_up)
theorem ral_le {v : SS} {o s d : Nat} : ∀ {e : Nat}, d ≤ e → ral v o d s = true → ral v o e s = true
  | 0, h, h2 => by
    obtain rfl : d = 0 := by omega
    exact h2
  | e + 1, h, h2 => by
    by_cases c : d = e + 1
    · rw [← c]; exact h2
    · exact ral_up (ral_le (by omega) h2)
/-- a way is never longer than its start's rank -/
theorem ral_rk {v : SS} {rk : Nat → Nat} (hk : RK v rk) (I : MI v) {o : Nat} : ∀ {d s : Nat}, s < 6 → ral v o d s = true → ral v o (rk s) s = true
  | 0, s, _, h => by rw [ral_0] at h; cases h
  | d + 1, s, hs, h => by
    obtain ⟨k, h0, h1, h2⟩ := ral_x h
    have i0 := I.s0
    have hlt := hk.2 s k hs (by omega) h1
    obtain ⟨m, hm⟩ : ∃ m, rk s = m + 1 := ⟨rk s - 1, by omega⟩
    rw [hm]
    refine ral_t h0 h1 (h2.imp id fun h3 => ?_)
    exact ral_le (by omega) (ral_rk hk I (by omega) h3)
theorem ral_6 {v : SS} {rk : Nat → Nat} (hk : RK v rk) (I : MI v) {o d s : Nat} (hs : s < 6) (h : ral v o d s = true) : ral v o 5 s = true := by
  have := hk.1 s
  exact ral_le (by omega) (ral_rk hk I hs h)
theorem ral_tr {v : SS} {o k : Nat} (h0 : (k : Int) < v.1 0) (hok : ndB v o k = true) : ∀ {d s : Nat}, ral v o d s = true → ral v k (d + 1) s = true
  | 0, s, h => by rw [ral_0] at h; cases h
  | d + 1, s, h => by
    obtain ⟨m, hm, h1, h2⟩ := ral_x h
    refine ral_t hm h1 (Or.inr ?_)
    rcases h2 with rfl | h2
    · exact ral_t h0 hok (Or.inl rfl)
    · exact ral_tr h0 hok h2
/-- the last step of a way -/
theorem ral_last {v : SS} {j : Nat} (hj : (j : Int) < v.1 0) : ∀ {d s : Nat}, ral v j (d + 1) s = true → ndB v s j = true ∨ ∃ k : Nat, (k : Int) < v.1 0 ∧ ral v k d s = true ∧ ndB v k j = true
  | 0, s, h => by
    obtain ⟨k, hk, h1, h2⟩ := ral_x h
    rcases h2 with rfl | h2
    · exact Or.inl h1
    · rw [ral_0] at h2; cases h2
  | d + 1, s, h => by
    obtain ⟨k, hk, h1, h2⟩ := ral_x h
    rcases h2 with rfl | h2
    · exact Or.inl h1
    · rcases ral_last hj h2 with h3 | ⟨m, hm, h3, h4⟩
      · exact Or.inr ⟨k, hk, ral_t hk h1 (Or.inl rfl), h3⟩
      · exact Or.inr ⟨m, hm, ral_t hk h1 (Or.inr h3), h4⟩
section CLO
variable {u v : SS}
/-- the class's masks speak of the model's ways -/
theorem anS_b {z : Nat} {a : Int} (hu : ∀ s, 0 ≤ u.2 15 s ∧ u.2 15 s ≤ 63) (ha : 0 ≤ a ∧ a ≤ 63) : 0 ≤ anS u z a ∧ anS u z a ≤ 63 := by
  unfold anS
  split
  · exact bOr_6 ha (hu z)
  · exact ha
theorem anF_b (hu : ∀ s, 0 ≤ u.2 15 s ∧ u.2 15 s ≤ 63) : ∀ {z : Nat} {a : Int}, 0 ≤ a ∧ a ≤ 63 → 0 ≤ anF u z a ∧ anF u z a ≤ 63
  | 0, _, h => h
  | _ + 1, _, h => anS_b hu (anF_b hu h)
theorem anR_b (hu : ∀ s, 0 ≤ u.2 15 s ∧ u.2 15 s ≤ 63) {N : Nat} : ∀ {r : Nat} {a : Int}, 0 ≤ a ∧ a ≤ 63 → 0 ≤ anR u N r a ∧ anR u N r a ≤ 63
  | 0, _, h => h
  | _ + 1, _, h => anF_b hu (anR_b hu h)
theorem anS_hb {z : Nat} {a : Int} (hu : ∀ s, 0 ≤ u.2 15 s ∧ u.2 15 s ≤ 63) (ha : 0 ≤ a ∧ a ≤ 63) {j : Nat} (hj : j < 31) : hb (anS u z a) (j : Int) = (hb a (j : Int) || (hb a (z : Int) && hb (u.2 15 z) (j : Int))) := by
  unfold anS
  by_cases c : hb a (z : Int) = true
  · rw [if_pos c, hb_bOr ha (hu z) hj, c, Bool.true_and]
  · rw [if_neg c]
    have : hb a (z : Int) = false := by cases e : hb a (z : Int); rfl; exact absurd e c
    rw [this, Bool.false_and, Bool.or_false]
theorem anF_mono (hu : ∀ s, 0 ≤ u.2 15 s ∧ u.2 15 s ≤ 63) {j : Nat} (hj : j < 31) : ∀ {z : Nat} {a : Int}, 0 ≤ a ∧ a ≤ 63 → hb a (j : Int) = true → hb (anF u z a) (j : Int) = true
  | 0, _, _, h => h
  | z + 1, a, ha, h => by
    show hb (anS u z (anF u z a)) (j : Int) = true
    rw [anS_hb hu (anF_b hu ha) hj, anF_mono hu hj ha h]
    rfl
theorem anF_step (hu : ∀ s, 0 ≤ u.2 15 s ∧ u.2 15 s ≤ 63) {j k : Nat} (hj : j < 31) (hk31 : k < 31) : ∀ {z : Nat} {a : Int}, 0 ≤ a ∧ a ≤ 63 → k < z → hb a (k : Int) = true → hb (u.2 15 k) (j : Int) = true → hb (anF u z a) (j : Int) = true
  | 0, _, _, h, _, _ => absurd h (Nat.not_lt_zero _)
  | z + 1, a, ha, h, h1, h2 => by
    show hb (anS u z (anF u z a)) (j : Int) = true
    rw [anS_hb hu (anF_b hu ha) hj]
    by_cases e : k = z
    · subst e
      rw [anF_mono hu hk31 ha h1, h2]
      simp
    · rw [anF_step hu hj hk31 ha (by omega) h1 h2]
      rfl
variable {rk : Nat → Nat}
theorem anF_sound (hu : ∀ s, 0 ≤ u.2 15 s ∧ u.2 15 s ≤ 63) (e15 : ∀ s, u.2 15 s = v.2 7 s) (hk : RK v rk) (I : MI v) (hN : NB v) {s : Nat} (hs : s < 6) : ∀ {z : Nat} {a : Int}, 0 ≤ a ∧ a ≤ 63 → (z : Int) ≤ v.1 0 →
    (∀ j : Nat, j < 31 → hb a (j : Int) = true → ral v j 5 s = true) → ∀ j : Nat, j < 31 → hb (anF u z a) (j : Int) = true → ral v j 5 s = true
  | 0, _, _, _, h => h
  | z + 1, a, ha, hz, h => fun j hj hb1 => by
    have ih := anF_sound hu e15 hk I hN hs (z := z) ha (by omega) h
    have i0 := I.s0
    rw [show anF u (z + 1) a = anS u z (anF u z a) from rfl, anS_hb hu (anF_b hu ha) hj, Bool.or_eq_true, Bool.and_eq_true] at hb1
    rcases hb1 with h1 | ⟨h1, h2⟩
    · exact ih j hj h1
    · have r1 := ih z (by omega) h1
      rw [hb_nd (hu z) hj, e15, ← ndB_x] at h2
      exact ral_6 hk I hs (ral_tr (hN z j hj h2) h2 r1)
theorem ano_ral (hu : ∀ s, 0 ≤ u.2 15 s ∧ u.2 15 s ≤ 63) (e15 : ∀ s, u.2 15 s = v.2 7 s) (e14 : u.1 14 = v.1 0) (hk : RK v rk) (I : MI v) (hN : NB v) {s : Nat} (hs : (s : Int) < v.1 0) {j : Nat} (hj : j < 31) : hb (ano u s) (j : Int) = ral v j 5 s := by
  have i0 := I.s0
  have hs6 : s < 6 := by omega
  unfold ano
  rw [e14]
  have sound : ∀ r : Nat, ∀ j : Nat, j < 31 → hb (anR u (v.1 0).toNat r (u.2 15 s)) (j : Int) = true → ral v j 5 s = true := by
    intro r
    induction r with
    | zero =>
      intro j hj h
      rw [show anR u (v.1 0).toNat 0 (u.2 15 s) = u.2 15 s from rfl, hb_nd (hu s) hj, e15, ← ndB_x] at h
      exact ral_6 hk I hs6 (d := 1) (ral_t (hN s j hj h) h (Or.inl rfl))
    | succ r ih => exact fun j hj h => anF_sound hu e15 hk I hN hs6 (anR_b hu (hu s)) (by omega) ih j hj h
  have compl : ∀ r : Nat, ∀ j : Nat, j < 31 → (j : Int) < v.1 0 → ral v j (r + 1) s = true → hb (anR u (v.1 0).toNat r (u.2 15 s)) (j : Int) = true := by
    intro r
    induction r with
    | zero =>
      intro j hj hj0 h
      rcases ral_last hj0 h with h1 | ⟨k, -, h1, -⟩
      · rw [show anR u (v.1 0).toNat 0 (u.2 15 s) = u.2 15 s from rfl, hb_nd (hu s) hj, e15, ← ndB_x]; exact h1
      · rw [ral_0] at h1; cases h1
    | succ r ih =>
      intro j hj hj0 h
      have hb0 := anR_b (N := (v.1 0).toNat) (r := r) hu (hu s)
      show hb (anF u (v.1 0).toNat (anR u (v.1 0).toNat r (u.2 15 s))) (j : Int) = true
      rcases ral_last hj0 h with h1 | ⟨k, hk0, h1, h2⟩
      · exact anF_mono hu hj hb0 (ih j hj hj0 (ral_t hj0 h1 (Or.inl rfl)))
      · refine anF_step hu hj (k := k) (by omega) hb0 (by omega) (ih k (by omega) hk0 h1) ?_
        rw [hb_nd (hu k) hj, e15, ← ndB_x]
        exact h2
  cases e : ral v j 5 s with
  | true =>
    have hj0 : (j : Int) < v.1 0 := by
      rcases Int.lt_or_le (j : Int) (v.1 0) with h | h
      · exact h
      · exfalso
        have nx : ∀ d s' : Nat, ral v j d s' = false := by
          intro d
          induction d with
          | zero => intro s'; rfl
          | succ d ih =>
            intro s'
            cases e9 : ral v j (d + 1) s' with
            | false => rfl
            | true =>
              obtain ⟨k, g1, g2, g3⟩ := ral_x e9
              rcases g3 with rfl | g3
              · omega
              · rw [ih] at g3; cases g3
        rw [nx] at e; cases e
    exact compl 6 j hj hj0 (ral_le (by decide) e)
  | false =>
    cases e2 : hb (anR u (v.1 0).toNat 6 (u.2 15 s)) (j : Int) with
    | false => rfl
    | true => rw [sound 6 j hj e2] at e; cases e
theorem rn_al {d s : Nat} : rn v (d + 1) s = true ↔ v.2 4 s = 0 ∧ ∀ j : Nat, ral v j d s = true → v.2 4 j = 0 := by
  induction d generalizing s with
  | zero =>
    rw [rn_s, Bool.and_eq_true]
    constructor
    · rintro ⟨h, -⟩; exact ⟨of_decide_eq_true h, fun j h2 => by rw [ral_0] at h2; cases h2⟩
    · rintro ⟨h, -⟩
      refine ⟨decide_eq_true h, ?_⟩
      rw [anyN_0 (fun z _ => by unfold rnP; simp [rn])]
      rfl
  | succ d ih =>
    rw [rn_s, Bool.and_eq_true, Bool.not_eq_true']
    constructor
    · rintro ⟨h, h2⟩
      refine ⟨of_decide_eq_true h, fun j h3 => ?_⟩
      obtain ⟨k, hk, h4, h5⟩ := ral_x h3
      have h6 := anyN_f h2 k (by omega)
      unfold rnP at h6
      rw [h4, Bool.true_and, Bool.not_eq_false'] at h6
      obtain ⟨g1, g2⟩ := ih.mp h6
      rcases h5 with rfl | h5
      · exact g1
      · exact g2 j h5
    · rintro ⟨h, h2⟩
      refine ⟨decide_eq_true h, anyN_0 fun k hk => ?_⟩
      unfold rnP
      cases c : ndB v s k with
      | false => rfl
      | true =>
        rw [Bool.true_and, Bool.not_eq_false']
        exact ih.mpr ⟨h2 k (ral_t (by omega) c (Or.inl rfl)), fun j h3 => h2 j (ral_t (by omega) c (Or.inr h3))⟩
/-- a service runs on both sides alike -/
theorem irB_rn (hu : ∀ s, 0 ≤ u.2 15 s ∧ u.2 15 s ≤ 63) (e15 : ∀ s, u.2 15 s = v.2 7 s) (e16 : ∀ s, u.2 16 s = v.2 4 s) (e14 : u.1 14 = v.1 0) (hk : RK v rk) (I : MI v) (hN : NB v) {s : Nat} (hs : (s : Int) < v.1 0) : irB u s = rn v 6 s := by
  have i0 := I.s0
  have hs6 : s < 6 := by omega
  have hab : 0 ≤ ano u s ∧ ano u s ≤ 63 := anR_b (N := (u.1 14).toNat) (r := 6) hu (hu s)
  have key : ∀ j : Nat, j < (u.1 14).toNat → irP u (irR u s) j = ((ral v j 5 s || decide (j = s)) && decide (v.2 4 j ≠ 0)) := fun j hj => by
    unfold irP irR
    rw [hb_bOr hab (bShl_6 hs6) (by omega), ano_ral hu e15 e14 hk I hN hs (by omega), hb_1 hs6 (by omega), e16]
  unfold irB
  rw [anyN_c key]
  cases c : rn v 6 s with
  | true =>
    obtain ⟨h1, h2⟩ := rn_al.mp c
    rw [anyN_0 fun j _ => ?_]
    · rfl
    · by_cases e : j = s
      · subst e; simp [h1]
      · cases c2 : ral v j 5 s with
        | false => simp [e]
        | true => simp [h2 j c2]
  | false =>
    rw [Bool.not_eq_false']
    rw [show (rn v 6 s = false) = (¬ rn v 6 s = true) by simp, rn_al] at c
    by_cases h1 : v.2 4 s = 0
    · have : ∃ j : Nat, ral v j 5 s = true ∧ v.2 4 j ≠ 0 := Classical.byContradiction fun h => c ⟨h1, fun j h2 => Classical.byContradiction fun h3 => h ⟨j, h2, h3⟩⟩
      obtain ⟨j, h2, h3⟩ := this
      have hj : (j : Int) < v.1 0 := by
        have e := h2
        rcases Int.lt_or_le (j : Int) (v.1 0) with h | h
        · exact h
        · exfalso
          have nx : ∀ d s' : Nat, ral v j d s' = false := by
            intro d
            induction d with
            | zero => intro s'; rfl
            | succ d ih =>
              intro s'
              cases e9 : ral v j (d + 1) s' with
              | false => rfl
              | true =>
                obtain ⟨k, g1, g2, g3⟩ := ral_x e9
                rcases g3 with rfl | g3
                · omega
                · rw [ih] at g3; cases g3
          rw [nx] at e; cases e
      exact anyN_t (z := j) (by omega) (by rw [h2]; simp [h3])
    · exact anyN_t (z := s) (by omega) (by simp [h1])
end CLO
/-! a new need keeps the ranks -/
def kyc (ky : Nat → Nat) (x : Nat) : Nat := ((List.range 6).filter (fun y => decide (ky y < ky x))).length
theorem flt_len {p q : Nat → Bool} : ∀ {l : List Nat}, (∀ x ∈ l, p x = true → q x = true) → (l.filter p).length ≤ (l.filter q).length
  | [], _ => Nat.le_refl _
  | a :: l, h => by
    have h1 := flt_len (l := l) fun x hx => h x (List.mem_cons_of_mem _ hx)
    have h2 := h a List.mem_cons_self
    by_cases c : p a = true
    · rw [List.filter_cons_of_pos c, List.filter_cons_of_pos (h2 c), List.length_cons, List.length_cons]; omega
    · rw [List.filter_cons_of_neg c]
      by_cases c2 : q a = true
      · rw [List.filter_cons_of_pos c2, List.length_cons]; omega
      · rw [List.filter_cons_of_neg c2]; exact h1
theorem flt_lt {p q : Nat → Bool} {a : Nat} : ∀ {l : List Nat}, (∀ x ∈ l, p x = true → q x = true) → a ∈ l → p a = false → q a = true → (l.filter p).length < (l.filter q).length
  | [], _, h, _, _ => nomatch h
  | b :: l, h, hm, hp, hq => by
    have h1 := flt_len (l := l) fun x hx => h x (List.mem_cons_of_mem _ hx)
    rcases List.mem_cons.mp hm with rfl | hm
    · rw [List.filter_cons_of_neg (by rw [hp]; decide), List.filter_cons_of_pos hq, List.length_cons]; omega
    · have h3 := flt_lt (fun x hx => h x (List.mem_cons_of_mem _ hx)) hm hp hq
      have h2 := h b List.mem_cons_self
      by_cases c : p b = true
      · rw [List.filter_cons_of_pos c, List.filter_cons_of_pos (h2 c), List.length_cons, List.length_cons]; omega
      · rw [List.filter_cons_of_neg c]
        by_cases c2 : q b = true
        · rw [List.filter_cons_of_pos c2, List.length_cons]; omega
        · rw [List.filter_cons_of_neg c2]; exact h3
theorem kyc_lt {ky : Nat → Nat} {x y : Nat} (hy : y < 6) (h : ky y < ky x) : kyc ky y < kyc ky x := by
  refine flt_lt (a := y) (fun z _ hz => ?_) (List.mem_range.mpr hy) (decide_eq_false (Nat.lt_irrefl _)) (decide_eq_true h)
  have := of_decide_eq_true hz
  exact decide_eq_true (by omega)
theorem kyc_6 {ky : Nat → Nat} {x : Nat} (hx : x < 6) : kyc ky x < 6 := by
  have h : kyc ky x < ((List.range 6).filter (fun _ => true)).length := flt_lt (a := x) (fun z _ _ => rfl) (List.mem_range.mpr hx) (decide_eq_false (Nat.lt_irrefl _)) rfl
  exact h
theorem RK_of {v : SS} {ky : Nat → Nat} (h : ∀ s k : Nat, s < 6 → k < 6 → ndB v s k = true → ky k < ky s) : ∃ rk, RK v rk := by
  refine ⟨fun x => if x < 6 then kyc ky x else 0, fun s => ?_, fun s k hs hk h1 => ?_⟩
  · show (if s < 6 then kyc ky s else 0) < 6
    split
    · rename_i h1; exact kyc_6 h1
    · decide
  · show (if k < 6 then kyc ky k else 0) < (if s < 6 then kyc ky s else 0)
    rw [if_pos hk, if_pos hs]
    exact kyc_lt hk (h s k hs hk h1)
theorem RK_an {v : SS} {rk : Nat → Nat} (hk : RK v rk) (I : MI v) (hN : NB v) {s o : Nat} (hs : (s : Int) < v.1 0) (ho : (o : Int) < v.1 0) (hso : s ≠ o) (h2 : ral v s 6 o = false) : (∃ rk', RK (anM v s o) rk') ∧ NB (anM v s o) := by
  have i0 := I.s0
  have hnd : ∀ x k : Nat, k < 31 → ndB (anM v s o) x k = (ndB v x k || (decide (x = s) && decide (k = o))) := fun x k hk31 => by
    rw [ndB_x, ndB_x]
    show ndX ((stA (stS v 26 0) 7 s (bOr (v.2 7 s) (bShl 1 (o : Int)))).2 7 x) k = _
    rw [stA_e]
    by_cases e : x = s
    · subst e
      rw [if_pos rfl, decide_eq_true rfl, Bool.true_and, ← hb_nd (bOr_6 (I.a7 _) (bShl_6 (by omega))) hk31, hb_bOr (I.a7 _) (bShl_6 (by omega)) hk31, hb_1 (by omega) hk31, hb_nd (I.a7 _) hk31]
    · rw [if_neg e, decide_eq_false e, Bool.false_and, Bool.or_false]
      rfl
  refine ⟨?_, fun x k hk31 h => ?_⟩
  · refine RK_of (ky := fun x => if x = o ∨ ral v x 6 o = true then rk x else 6 + rk x) fun x k hx hk6 h => ?_
    rw [hnd x k (by omega), Bool.or_eq_true, Bool.and_eq_true] at h
    have b1 := hk.1 x
    have b2 := hk.1 k
    show (if k = o ∨ ral v k 6 o = true then rk k else 6 + rk k) < (if x = o ∨ ral v x 6 o = true then rk x else 6 + rk x)
    rcases h with h | ⟨h, h3⟩
    · have h4 := hk.2 x k hx hk6 h
      by_cases c : x = o ∨ ral v x 6 o = true
      · have hk0 := hN x k (by omega) h
        have c2 : k = o ∨ ral v k 6 o = true := by
          rcases c with rfl | c
          · exact Or.inr (ral_le (d := 1) (by decide) (ral_t hk0 h (Or.inl rfl)))
          · exact Or.inr (ral_le (by decide) (ral_6 hk I (by omega) (ral_tr hk0 h c)))
        rw [if_pos c, if_pos c2]
        exact h4
      · rw [if_neg c]
        split <;> omega
    · obtain rfl : x = s := of_decide_eq_true h
      obtain rfl : k = o := of_decide_eq_true h3
      rw [if_pos (Or.inl rfl), if_neg (fun c => by rcases c with c | c; exact hso c; rw [h2] at c; cases c)]
      omega
  · show (k : Int) < v.1 0
    rw [hnd x k hk31, Bool.or_eq_true, Bool.and_eq_true] at h
    rcases h with h | ⟨-, h⟩
    · exact hN x k hk31 h
    · obtain rfl : k = o := of_decide_eq_true h
      exact ho
/-- how many bits -/
theorem bcE_6 : ∀ x : Fin 64, bcE (x.val : Int) = sumN 6 (fun k : Nat => bI (ndX (x.val : Int) (k : Int))) := by decide +kernel
theorem sumN_tl {p : Nat → Int} {n : Nat} : ∀ {m : Nat}, n ≤ m → (∀ j, n ≤ j → j < m → p j = 0) → sumN m p = sumN n p
  | 0, h, _ => by
    obtain rfl : n = 0 := by omega
    rfl
  | m + 1, h, h2 => by
    by_cases e : n = m + 1
    · rw [e]
    · show sumN m p + p m = _
      rw [sumN_tl (by omega) (fun j h3 h4 => h2 j h3 (by omega)), h2 m (by omega) (by omega)]
      omega
theorem bcE_nd {v : SS} (I : MI v) (hN : NB v) (s : Nat) : bcE (v.2 7 s) = sumN (v.1 0).toNat (ndI v s) := by
  have i0 := I.s0
  have i7 := I.a7 s
  have h := bcE_6 ⟨(v.2 7 s).toNat, by omega⟩
  have e : (((v.2 7 s).toNat : Nat) : Int) = v.2 7 s := by omega
  simp only [e] at h
  rw [h]
  have e2 : sumN 6 (fun k : Nat => bI (ndX (v.2 7 s) (k : Int))) = sumN 6 (ndI v s) := sumN_c fun k _ => by unfold ndI; rw [ndB_x]
  rw [e2]
  refine sumN_tl (by omega) fun j h1 h2 => ?_
  unfold ndI
  cases c : ndB v s j with
  | false => rfl
  | true => have := hN s j (by omega) c; omega
