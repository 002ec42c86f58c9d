/-! THE MODEL: bounds, loops -/
def lS (k : Nat) : Int := match k with
  | 0 => 0
  | 11 => 1
  | 14 => 0
  | 15 => 0
  | 16 => 0
  | 18 => 0
  | 19 => 0
  | 21 => 0
  | 22 => 0
  | 23 => 0
  | 24 => 0
  | 25 => 0
  | 26 => 0
  | _ => 0
def hS (k : Nat) : Int := match k with
  | 0 => 6
  | 11 => 16
  | 14 => 15
  | 15 => 60
  | 16 => 48
  | 18 => 999
  | 19 => 1000000
  | 21 => 100000000
  | 22 => 1000000
  | 23 => 1000000
  | 24 => 1000000000
  | 25 => 1000000
  | 26 => 10
  | _ => 0
def lA (k : Nat) : Int := match k with
  | 1 => 0
  | 2 => 0
  | 3 => 0
  | 4 => 0
  | 5 => 0
  | 6 => 0
  | 7 => 0
  | 8 => 0
  | 9 => 0
  | 10 => 0
  | 12 => -1
  | 13 => 0
  | 17 => 0
  | 20 => 0
  | _ => 0
def hA (k : Nat) : Int := match k with
  | 1 => 100
  | 2 => 65535
  | 3 => 20
  | 4 => 1
  | 5 => 1000000
  | 6 => 1000000
  | 7 => 63
  | 8 => 1000000000
  | 9 => 4
  | 10 => 3
  | 12 => 47
  | 13 => 1
  | 17 => 47
  | 20 => 1000000
  | _ => 0
def MI (v : SS) : Prop := (∀ k, lS k ≤ v.1 k ∧ v.1 k ≤ hS k) ∧ ∀ a j, lA a ≤ v.2 a j ∧ v.2 a j ≤ hA a
theorem MI_S {v : SS} {k : Nat} {x : Int} (I : MI v) (h : lS k ≤ x ∧ x ≤ hS k) : MI (stS v k x) := by
  refine ⟨fun j => ?_, I.2⟩
  rw [stS_1]
  by_cases e : j = k
  · rw [if_pos e, e]; exact h
  · rw [if_neg e]; exact I.1 j
theorem MI_A {v : SS} {a i : Nat} {x : Int} (I : MI v) (h : lA a ≤ x ∧ x ≤ hA a) : MI (stA v a i x) := by
  refine ⟨I.1, fun b j => ?_⟩
  rw [stA_2]
  by_cases e : b = a
  · rw [if_pos e]
    by_cases e2 : j = i
    · rw [if_pos e2, e]; exact h
    · rw [if_neg e2]; exact I.2 b j
  · rw [if_neg e]; exact I.2 b j
def stF (v : SS) (a : Nat) (f : Nat → Int) : SS := (v.1, fun b => if b = a then f else v.2 b)
theorem MI_F {v : SS} {a : Nat} {f : Nat → Int} (I : MI v) (h : ∀ j, lA a ≤ f j ∧ f j ≤ hA a) : MI (stF v a f) := by
  refine ⟨I.1, fun b j => ?_⟩
  show lA b ≤ (if b = a then f else v.2 b) j ∧ (if b = a then f else v.2 b) j ≤ hA b
  by_cases e : b = a
  · rw [if_pos e, e]; exact h j
  · rw [if_neg e]; exact I.2 b j
theorem stF_A {v : SS} {a i : Nat} {x : Int} {f : Nat → Int} : stA (stF v a f) a i x = stF v a (fun j => if j = i then x else f j) := by
  unfold stA stF
  congr 1
  funext b j
  by_cases e : b = a <;> simp [e]
theorem stF_self {v : SS} {a : Nat} : stF v a (v.2 a) = v := by
  unfold stF
  obtain ⟨p, q⟩ := v
  congr 1
  funext b
  by_cases e : b = a
  · rw [if_pos e, e]
  · rw [if_neg e]
def sumN (n : Nat) (f : Nat → Int) : Int := match n with
  | 0 => 0
  | n + 1 => sumN n f + f n
theorem MI.s0 {v : SS} (I : MI v) : 0 ≤ v.1 0 ∧ v.1 0 ≤ 6 := I.1 0
theorem MI.s11 {v : SS} (I : MI v) : 1 ≤ v.1 11 ∧ v.1 11 ≤ 16 := I.1 11
theorem MI.s14 {v : SS} (I : MI v) : 0 ≤ v.1 14 ∧ v.1 14 ≤ 15 := I.1 14
theorem MI.s15 {v : SS} (I : MI v) : 0 ≤ v.1 15 ∧ v.1 15 ≤ 60 := I.1 15
theorem MI.s16 {v : SS} (I : MI v) : 0 ≤ v.1 16 ∧ v.1 16 ≤ 48 := I.1 16
theorem MI.s18 {v : SS} (I : MI v) : 0 ≤ v.1 18 ∧ v.1 18 ≤ 999 := I.1 18
theorem MI.s19 {v : SS} (I : MI v) : 0 ≤ v.1 19 ∧ v.1 19 ≤ 1000000 := I.1 19
theorem MI.s21 {v : SS} (I : MI v) : 0 ≤ v.1 21 ∧ v.1 21 ≤ 100000000 := I.1 21
theorem MI.s22 {v : SS} (I : MI v) : 0 ≤ v.1 22 ∧ v.1 22 ≤ 1000000 := I.1 22
theorem MI.s23 {v : SS} (I : MI v) : 0 ≤ v.1 23 ∧ v.1 23 ≤ 1000000 := I.1 23
theorem MI.s24 {v : SS} (I : MI v) : 0 ≤ v.1 24 ∧ v.1 24 ≤ 1000000000 := I.1 24
theorem MI.s25 {v : SS} (I : MI v) : 0 ≤ v.1 25 ∧ v.1 25 ≤ 1000000 := I.1 25
theorem MI.s26 {v : SS} (I : MI v) : 0 ≤ v.1 26 ∧ v.1 26 ≤ 10 := I.1 26
theorem MI.a1 {v : SS} (I : MI v) (j : Nat) : 0 ≤ v.2 1 j ∧ v.2 1 j ≤ 100 := I.2 1 j
theorem MI.a2 {v : SS} (I : MI v) (j : Nat) : 0 ≤ v.2 2 j ∧ v.2 2 j ≤ 65535 := I.2 2 j
theorem MI.a3 {v : SS} (I : MI v) (j : Nat) : 0 ≤ v.2 3 j ∧ v.2 3 j ≤ 20 := I.2 3 j
theorem MI.a4 {v : SS} (I : MI v) (j : Nat) : 0 ≤ v.2 4 j ∧ v.2 4 j ≤ 1 := I.2 4 j
theorem MI.a5 {v : SS} (I : MI v) (j : Nat) : 0 ≤ v.2 5 j ∧ v.2 5 j ≤ 1000000 := I.2 5 j
theorem MI.a6 {v : SS} (I : MI v) (j : Nat) : 0 ≤ v.2 6 j ∧ v.2 6 j ≤ 1000000 := I.2 6 j
theorem MI.a7 {v : SS} (I : MI v) (j : Nat) : 0 ≤ v.2 7 j ∧ v.2 7 j ≤ 63 := I.2 7 j
theorem MI.a8 {v : SS} (I : MI v) (j : Nat) : 0 ≤ v.2 8 j ∧ v.2 8 j ≤ 1000000000 := I.2 8 j
theorem MI.a9 {v : SS} (I : MI v) (j : Nat) : 0 ≤ v.2 9 j ∧ v.2 9 j ≤ 4 := I.2 9 j
theorem MI.a10 {v : SS} (I : MI v) (j : Nat) : 0 ≤ v.2 10 j ∧ v.2 10 j ≤ 3 := I.2 10 j
theorem MI.a12 {v : SS} (I : MI v) (j : Nat) : -1 ≤ v.2 12 j ∧ v.2 12 j ≤ 47 := I.2 12 j
theorem MI.a13 {v : SS} (I : MI v) (j : Nat) : 0 ≤ v.2 13 j ∧ v.2 13 j ≤ 1 := I.2 13 j
theorem MI.a17 {v : SS} (I : MI v) (j : Nat) : 0 ≤ v.2 17 j ∧ v.2 17 j ≤ 47 := I.2 17 j
theorem MI.a20 {v : SS} (I : MI v) (j : Nat) : 0 ≤ v.2 20 j ∧ v.2 20 j ≤ 1000000 := I.2 20 j
def tkf (v : SS) (j : Nat) : Int := v.2 9 (v.2 17 j).toNat
set_option maxHeartbeats 4000000 in
set_option maxRecDepth 100000 in
theorem l_X7_taken {k : Kx} (C : CX k RX7 cX7_taken 3) {u v : SS} {g : GH} (I : MI v) {N : Nat} (hN : v.1 16 = (N : Int)) : ∀ (m z : Nat), z ≤ N → N < z + m → EV k 32 [(0, vR (some 0)), (1, vI (sumN N (tkf v))), (2, vI (N : Int))] [] (mk u v g) 0 0 → EV k 4 [(0, vR (some 0)), (1, vI (sumN z (tkf v))), (2, vI (z : Int))] [] (mk u v g) 0 0 := by
  intro m
  induction m with
  | zero =>
    intros
    exfalso
    omega
  | succ m ih =>
    intro z h1 h2 kx
    have i16 := I.s16
    have ia := I.a17 z
    refine ev_s C dX7_taken_4 (q := 5) rfl rfl ?_
    refine ev_s C dX7_taken_5 (q := 6) rfl rfl ?_
    refine mg_16 C dX7_taken_6 (q := 9) rfl ?_
    refine ev_icmp_ge C dX7_taken_9 (tgt := 32) (q := 12) (by decide) rfl (by first | decide | (unfold rg; omega) | assumption) (by first | decide | (unfold rg; omega) | assumption) (fun b0 => ?_) (fun b0 => ?_)
    · obtain rfl : z = N := by omega
      exact kx
    · refine ev_s C dX7_taken_12 (q := 13) rfl rfl ?_
      refine ev_s C dX7_taken_13 (q := 14) rfl rfl ?_
      refine mg_9 C dX7_taken_14 (q := 17) rfl ?_
      refine ev_s C dX7_taken_17 (q := 18) rfl rfl ?_
      refine mg_17 C dX7_taken_18 (q := 21) rfl ?_
      refine ev_s C dX7_taken_21 (q := 22) rfl rfl ?_
      refine ml_17 C dX7_taken_22 (q := 23) rfl (by omega) ?_
      refine ml_9 C dX7_taken_23 (q := 24) rfl (by show 0 ≤ v.2 17 z ∧ v.2 17 z < 48; omega) ?_
      refine ev_s C dX7_taken_24 (q := 25) rfl rfl ?_
      refine ev_s C dX7_taken_25 (q := 26) rfl rfl ?_
      refine ev_s C dX7_taken_26 (q := 29) rfl rfl ?_
      refine ev_goto C dX7_taken_29 (tgt := 4) (by decide) ?_
      exact ih (z + 1) (by omega) (by omega) kx
set_option maxHeartbeats 4000000 in
set_option maxRecDepth 100000 in
theorem c_X7_taken {u v : SS} {g : GH} (I : MI v) : Cn yX7_taken (wsy yX7_taken cX7_taken 3 (some .int)) 0 0 0 nn [vR (some 0)] (mk u v g) (.inl (some (vI (sumN (v.1 16).toNat (tkf v))), mk u v g)) := by
  refine con_j (lv := [(0, vR (some 0))]) (by decide) (fun ad => Nat.le_of_ble_eq_true rfl) (fun ad => rfl) rfl ?_
  intro k C hr hlv hmc hms hPo hPx htab
  refine ev_s C dX7_taken_0 (q := 1) rfl rfl ?_
  refine ev_s C dX7_taken_1 (q := 2) rfl rfl ?_
  refine ev_s C dX7_taken_2 (q := 3) rfl rfl ?_
  refine ev_s C dX7_taken_3 (q := 4) rfl rfl ?_
  refine l_X7_taken C I (N := (v.1 16).toNat) (by have := I.s16; omega) ((v.1 16).toNat + 1) 0 (Nat.zero_le _) (by omega) ?_
  refine ev_s C dX7_taken_32 (q := 33) rfl rfl ?_
  exact ev_iret C hr dX7_taken_33 (Nat.zero_le _) (Nat.zero_le _) (po_1 hPo (by first | rfl | simp [*]) rfl)
def shf (s : Nat → Int) (p z : Nat) : Nat → Int := fun j => if p ≤ j ∧ j < z then s (j + 1) else s j
theorem shf_0 {s : Nat → Int} {p : Nat} : shf s p p = s := by
  funext j
  unfold shf
  rw [if_neg (by omega)]
theorem shf_1 {s : Nat → Int} {p z : Nat} (h : p ≤ z) : (fun j => if j = z then shf s p z (z + 1) else shf s p z j) = shf s p (z + 1) := by
  funext j
  unfold shf
  by_cases e : j = z
  · subst e
    rw [if_pos rfl, if_neg (by omega), if_pos (by omega)]
  · rw [if_neg e]
    by_cases h2 : p ≤ j ∧ j < z
    · rw [if_pos h2, if_pos (by omega)]
    · rw [if_neg h2, if_neg (by omega)]
def unsM (v : SS) (p : Nat) : SS := stF (stS v 16 (v.1 16 - 1)) 17 (shf (v.2 17) p (v.1 16 - 1).toNat)
set_option maxHeartbeats 4000000 in
set_option maxRecDepth 100000 in
theorem l_X7_unstores {k : Kx} (C : CX k RX7 cX7_unstores 3) {u w : SS} {g : GH} {s0 : Nat → Int} {p N : Nat} {pz : Int} (hN : w.1 16 = (N : Int)) (hN2 : N < 48) : ∀ (m z : Nat), p ≤ z → z ≤ N → N < z + m → EV k 40 [(0, vR (some 0)), (1, vI pz), (2, vI (N : Int))] [] (mk u (stF w 17 (shf s0 p N)) g) 0 0 → EV k 12 [(0, vR (some 0)), (1, vI pz), (2, vI (z : Int))] [] (mk u (stF w 17 (shf s0 p z)) g) 0 0 := by
  intro m
  induction m with
  | zero =>
    intros
    exfalso
    omega
  | succ m ih =>
    intro z h0 h1 h2 kx
    have i16 : (stF w 17 (shf s0 p z)).1 16 = (N : Int) := hN
    refine ev_s C dX7_unstores_12 (q := 13) rfl rfl ?_
    refine ev_s C dX7_unstores_13 (q := 14) rfl rfl ?_
    refine mg_16 C dX7_unstores_14 (q := 17) rfl ?_
    refine ev_icmp_ge C dX7_unstores_17 (tgt := 40) (q := 20) (by decide) rfl (by first | decide | (unfold rg; omega) | assumption) (by first | decide | (unfold rg; omega) | assumption) (fun b0 => ?_) (fun b0 => ?_)
    · obtain rfl : z = N := by omega
      exact kx
    · refine ev_s C dX7_unstores_20 (q := 21) rfl rfl ?_
      refine mg_17 C dX7_unstores_21 (q := 24) rfl ?_
      refine ev_s C dX7_unstores_24 (q := 25) rfl rfl ?_
      refine ev_s C dX7_unstores_25 (q := 26) rfl rfl ?_
      refine mg_17 C dX7_unstores_26 (q := 29) rfl ?_
      refine ev_s C dX7_unstores_29 (q := 30) rfl rfl ?_
      refine ev_s C dX7_unstores_30 (q := 31) rfl rfl ?_
      refine ev_s C dX7_unstores_31 (q := 32) rfl rfl ?_
      refine ml_17 C dX7_unstores_32 (q := 33) rfl (by omega) ?_
      refine ms_17 C dX7_unstores_33 (q := 34) rfl (by omega) ?_
      refine ev_s C dX7_unstores_34 (q := 37) rfl rfl ?_
      refine ev_goto C dX7_unstores_37 (tgt := 12) (by decide) ?_
      rw [stF_A]
      refine ev_eq (G := mk u (stF w 17 (shf s0 p (z + 1))) g) (by rw [← shf_1 h0]; rfl) ?_
      exact ih (z + 1) (by omega) (by omega) (by omega) kx
