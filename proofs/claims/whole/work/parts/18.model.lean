/-! THE MODEL: kills, ticks -/
def prs (v : SS) : Int := v.2 20 0 + v.2 20 1 + v.2 20 2 + v.2 20 3
set_option maxHeartbeats 4000000 in
set_option maxRecDepth 100000 in
theorem c_X7_pressing {u v : SS} {g : GH} (I : MI v) : Cn yX7_pressing (wsy yX7_pressing cX7_pressing 1 (some .int)) 0 0 0 nn [vR (some 0)] (mk u v g) (.inl (some (vI (prs v)), mk u v g)) := by
  refine con_j (lv := [(0, vR (some 0))]) (by decide) (fun ad => Nat.le_of_ble_eq_true rfl) (fun ad => rfl) rfl ?_
  intro k C hr hlv hmc hms hPo hPx htab
  have a0 := I.a20 0
  have a1 := I.a20 1
  have a2 := I.a20 2
  have a3 := I.a20 3
  refine ev_s C dX7_pressing_0 (q := 1) rfl rfl ?_
  refine mg_20 C dX7_pressing_1 (q := 4) rfl ?_
  refine ev_s C dX7_pressing_4 (q := 5) rfl rfl ?_
  refine ml_20 C dX7_pressing_5 (q := 6) rfl (by omega) ?_
  refine ev_s C dX7_pressing_6 (q := 7) rfl rfl ?_
  refine mg_20 C dX7_pressing_7 (q := 10) rfl ?_
  refine ev_s C dX7_pressing_10 (q := 11) rfl rfl ?_
  refine ml_20 C dX7_pressing_11 (q := 12) rfl (by omega) ?_
  refine ev_s C dX7_pressing_12 (q := 13) rfl rfl ?_
  refine ev_s C dX7_pressing_13 (q := 14) rfl rfl ?_
  refine mg_20 C dX7_pressing_14 (q := 17) rfl ?_
  refine ev_s C dX7_pressing_17 (q := 18) rfl rfl ?_
  refine ml_20 C dX7_pressing_18 (q := 19) rfl (by omega) ?_
  refine ev_s C dX7_pressing_19 (q := 20) rfl rfl ?_
  refine ev_s C dX7_pressing_20 (q := 21) rfl rfl ?_
  refine mg_20 C dX7_pressing_21 (q := 24) rfl ?_
  refine ev_s C dX7_pressing_24 (q := 25) rfl rfl ?_
  refine ml_20 C dX7_pressing_25 (q := 26) rfl (by omega) ?_
  refine ev_s C dX7_pressing_26 (q := 27) rfl rfl ?_
  exact ev_iret C hr dX7_pressing_27 (Nat.zero_le _) (Nat.zero_le _) (po_1 hPo rfl rfl)
def klH (v : SS) (s : Int) (n f : Nat) : Bool := decide (f < n) && (decide (0 ≤ v.2 12 f) && decide (v.2 12 f / 8 = s))
def kl1 (v : SS) (s : Int) : SS := stS (stA (stA v 4 s.toNat 1) 5 s.toNat (v.1 19)) 25 (v.1 25 + 1)
def klF (v : SS) (s : Int) (n : Nat) : SS := stF (stF v 12 (fun f => if klH v s n f then -1 else v.2 12 f)) 13 (fun f => if klH v s n f then 0 else v.2 13 f)
theorem klF_0 {v : SS} {s : Int} : klF v s 0 = v := by
  unfold klF
  have e1 : (fun f => if klH v s 0 f then (-1 : Int) else v.2 12 f) = v.2 12 := by funext f; simp [klH]
  have e2 : (fun f => if klH v s 0 f then (0 : Int) else v.2 13 f) = v.2 13 := by funext f; simp [klH]
  rw [e1, stF_self, e2, stF_self]
theorem stF_A2 {v : SS} {a b i : Nat} {x : Int} {f : Nat → Int} (h : a ≠ b) : stA (stF v b f) a i x = stF (stA v a i x) b f := by
  unfold stA stF
  congr 1
  funext c j
  by_cases e : c = a
  · subst e; simp [h]
  · by_cases e2 : c = b
    · subst e2; simp [e]
    · simp [e, e2]
theorem klF_s0 {v : SS} {s : Int} {n : Nat} (h : ¬ (0 ≤ v.2 12 n ∧ v.2 12 n / 8 = s)) : klF v s (n + 1) = klF v s n := by
  have e : klH v s (n + 1) = klH v s n := by
    funext f
    unfold klH
    by_cases e : f = n
    · subst e
      have : (decide (0 ≤ v.2 12 f) && decide (v.2 12 f / 8 = s)) = false := by simpa using h
      rw [this]; simp
    · have : decide (f < n + 1) = decide (f < n) := by
        by_cases h2 : f < n
        · have h3 : f < n + 1 := by omega
          simp [h2, h3]
        · have h3 : ¬ f < n + 1 := by omega
          simp [h2, h3]
      rw [this]
  unfold klF
  rw [e]
theorem klF_s1 {v : SS} {s : Int} {n : Nat} (h : 0 ≤ v.2 12 n) (h2 : v.2 12 n / 8 = s) : klF v s (n + 1) = stA (stA (klF v s n) 12 n (-1)) 13 n 0 := by
  have e : ∀ f, klH v s (n + 1) f = (decide (f = n) || klH v s n f) := by
    intro f
    unfold klH
    by_cases e : f = n
    · subst e
      simp [h, h2]
    · have h3 : (f < n + 1) = (f < n) := by apply propext; omega
      simp [e, h3]
  unfold klF
  rw [stF_A2 (a := 12) (b := 13) (by decide), stF_A, stF_A]
  have e1 : (fun f => if klH v s (n + 1) f then (-1 : Int) else v.2 12 f) = (fun j => if j = n then -1 else if klH v s n j then -1 else v.2 12 j) := by
    funext f
    rw [e f]
    by_cases e : f = n <;> simp [e]
  have e2 : (fun f => if klH v s (n + 1) f then (0 : Int) else v.2 13 f) = (fun j => if j = n then 0 else if klH v s n j then 0 else v.2 13 j) := by
    funext f
    rw [e f]
    by_cases e : f = n <;> simp [e]
  rw [e1, e2]
theorem klF_S {v : SS} {s : Int} {n k : Nat} : (klF v s n).1 k = v.1 k := rfl
theorem klF_A {v : SS} {s : Int} {n a j : Nat} (h1 : a ≠ 12) (h2 : a ≠ 13) : (klF v s n).2 a j = v.2 a j := by
  show (if a = 13 then _ else (if a = 12 then _ else v.2 a)) j = _
  rw [if_neg h2, if_neg h1]
theorem klF_12 {v : SS} {s : Int} {n j : Nat} : (klF v s n).2 12 j = if klH v s n j then -1 else v.2 12 j := rfl
theorem klF_13 {v : SS} {s : Int} {n j : Nat} : (klF v s n).2 13 j = if klH v s n j then 0 else v.2 13 j := rfl
theorem MI_klF {v : SS} {s : Int} {n : Nat} (I : MI v) : MI (klF v s n) := by
  refine MI_F (MI_F I (fun j => ?_)) (fun j => ?_)
  · by_cases e : klH v s n j = true
    · rw [if_pos e]; decide
    · rw [if_neg e]; exact I.a12 j
  · by_cases e : klH v s n j = true
    · rw [if_pos e]; decide
    · rw [if_neg e]; exact I.a13 j
def klQ (v : SS) (s : Int) (z : Nat) : SS := stF v 10 (fun j => if 8 * s.toNat ≤ j ∧ j < z then 0 else v.2 10 j)
theorem klQ_0 {v : SS} {s : Int} : klQ v s (8 * s.toNat) = v := by
  unfold klQ
  have : (fun j => if 8 * s.toNat ≤ j ∧ j < 8 * s.toNat then (0 : Int) else v.2 10 j) = v.2 10 := by
    funext j
    rw [if_neg (by omega)]
  rw [this, stF_self]
theorem klQ_s {v : SS} {s : Int} {z : Nat} (h : 8 * s.toNat ≤ z) : stA (klQ v s z) 10 z 0 = klQ v s (z + 1) := by
  unfold klQ
  rw [stF_A]
  congr 1
  funext j
  by_cases e : j = z
  · subst e
    rw [if_pos rfl, if_pos (by omega)]
  · rw [if_neg e]
    by_cases h2 : 8 * s.toNat ≤ j ∧ j < z
    · rw [if_pos h2, if_pos (by omega)]
    · rw [if_neg h2, if_neg (by omega)]
def klR (v : SS) (s : Int) : SS := rml (fun x => decide (x / 8 = s)) (v.1 16).toNat v
def kM (v : SS) (s : Int) : SS := klQ (klR (klF (kl1 v s) s (v.1 11).toNat) s) s (8 * s.toNat + 8)
theorem MI_kl1 {v : SS} {s : Int} (I : MI v) (h : v.1 25 + 1 ≤ 1000000) : MI (kl1 v s) := by
  have i19 := I.s19
  have i25 := I.s25
  exact MI_S (MI_A (MI_A I (by decide)) (by show 0 ≤ v.1 19 ∧ v.1 19 ≤ 1000000; omega)) (by show 0 ≤ v.1 25 + 1 ∧ v.1 25 + 1 ≤ 1000000; omega)
theorem MI_klR {v : SS} {s : Int} (I : MI v) : MI (klR v s) ∧ (klR v s).1 16 ≤ v.1 16 := rml_I _ v I (by have := I.s16; omega)
theorem MI_klQ {v : SS} {s : Int} {z : Nat} (I : MI v) : MI (klQ v s z) := by
  refine MI_F I (fun j => ?_)
  by_cases h2 : 8 * s.toNat ≤ j ∧ j < z
  · rw [if_pos h2]; decide
  · rw [if_neg h2]; exact I.a10 j
theorem kM_I {v : SS} {s : Int} (I : MI v) (h : v.1 25 + 1 ≤ 1000000) : MI (kM v s) := MI_klQ (MI_klR (MI_klF (MI_kl1 I h))).1
theorem kM_S {v : SS} {s : Int} {k : Nat} (h1 : k ≠ 16) (h2 : k ≠ 25) : (kM v s).1 k = v.1 k := by
  show (rml _ _ _).1 k = _
  rw [rml_S h1]
  show (stS _ 25 _).1 k = _
  rw [stS_1, if_neg h2]; rfl
theorem kM_A {v : SS} {s : Int} {a j : Nat} (h1 : a ≠ 10) (h2 : a ≠ 17) (h3 : a ≠ 12) (h4 : a ≠ 13) (h5 : a ≠ 4) (h6 : a ≠ 5) : (kM v s).2 a j = v.2 a j := by
  show (if a = 10 then _ else (klR _ s).2 a) j = _
  rw [if_neg h1]
  show (rml _ _ _).2 a j = _
  rw [rml_A h2, klF_A h3 h4]
  show (stA (stA v 4 _ 1) 5 _ _).2 a j = _
  rw [stA_2, if_neg h6, stA_2, if_neg h5]
theorem kM_25 {v : SS} {s : Int} : (kM v s).1 25 = v.1 25 + 1 := by
  show (rml _ _ _).1 25 = _
  rw [rml_S (by decide)]; rfl
set_option maxHeartbeats 4000000 in
set_option maxRecDepth 100000 in
theorem l_X7_kills1 {k : Kx} (C : CX k RX7 cX7_kills 3) {u v : SS} {g : GH} (I : MI v) {s : Int} (hs : 0 ≤ s ∧ s < 6) {N : Nat} (hN : v.1 11 = (N : Int)) : ∀ (m z : Nat), z ≤ N → N < z + m → EV k 82 [(0, vR (some 0)), (1, vI s), (2, vI (N : Int))] [] (mk u (klF v s N) g) 0 0 → EV k 29 [(0, vR (some 0)), (1, vI s), (2, vI (z : Int))] [] (mk u (klF v s z) g) 0 0 := by
  intro m
  induction m with
  | zero =>
    intros
    exfalso
    omega
  | succ m ih =>
    intro z h1 h2 kx
    have i11 := I.s11
    have ia := I.a12 z
    have ez0 : (klF v s z).2 12 z = v.2 12 z := by rw [klF_12]; simp [klH]
    have ez : (klF v s z).2 12 ((z : Int)).toNat = v.2 12 z := ez0
    refine ev_s C dX7_kills_29 (q := 30) rfl rfl ?_
    refine ev_s C dX7_kills_30 (q := 31) rfl rfl ?_
    refine mg_11 C dX7_kills_31 (q := 34) rfl ?_
    show EV k 34 _ (vI (v.1 11) :: vI (z : Int) :: []) _ _ _
    refine ev_icmp_ge C dX7_kills_34 (tgt := 82) (q := 37) (by decide) rfl (by first | decide | (unfold rg; omega) | assumption | exact bAnd_rg _ _) (by first | decide | (unfold rg; omega) | assumption | exact bAnd_rg _ _) (fun b0 => ?_) (fun b0 => ?_)
    · have b9 : v.1 11 ≤ z := b0
      obtain rfl : z = N := by omega
      exact kx
    · have b9 : ¬ v.1 11 ≤ z := b0
      refine ev_s C dX7_kills_37 (q := 38) rfl rfl ?_
      refine mg_12 C dX7_kills_38 (q := 41) rfl ?_
      refine ev_s C dX7_kills_41 (q := 42) rfl rfl ?_
      refine ml_12 C dX7_kills_42 (q := 43) rfl (by omega) ?_
      refine ev_if_lt C dX7_kills_43 (tgt := 76) (q := 46) (by decide) rfl (by first | decide | (unfold rg; omega) | assumption | exact bAnd_rg _ _) (fun b1 => ?_) (fun b1 => ?_)
      · have hc : ¬ (0 ≤ v.2 12 z ∧ v.2 12 z / 8 = s) := by omega
        refine ev_s C dX7_kills_76 (q := 79) rfl rfl ?_
        refine ev_goto C dX7_kills_79 (tgt := 29) (by decide) ?_
        first
          | exact ev_eq (G := mk u (klF v s (z + 1)) g) (by rw [klF_s1 hc1 hc2]; rfl) (ih (z + 1) (by omega) (by omega) kx)
          | exact ev_eq (G := mk u (klF v s (z + 1)) g) (by rw [klF_s0 hc]) (ih (z + 1) (by omega) (by omega) kx)
      · have hc0 : 0 ≤ v.2 12 z := by omega
        refine ev_s C dX7_kills_46 (q := 47) rfl rfl ?_
        refine mg_12 C dX7_kills_47 (q := 50) rfl ?_
        
        refine ev_s C dX7_kills_50 (q := 51) rfl rfl ?_
        refine ml_12 C dX7_kills_51 (q := 52) rfl (by omega) ?_
        refine ev_s C dX7_kills_52 (q := 54) rfl rfl ?_
        refine ev_idiv C dX7_kills_54 (q := 55) rfl (by first | decide | (unfold rg; omega) | assumption | exact bAnd_rg _ _) (by first | decide | (unfold rg; omega) | assumption | exact bAnd_rg _ _) (by omega) (by omega) ?_
        refine ev_s C dX7_kills_55 (q := 56) rfl rfl ?_
        refine ev_icmp_eq C dX7_kills_56 (tgt := 62) (q := 59) (by decide) rfl (by first | decide | (unfold rg; omega) | assumption | exact bAnd_rg _ _) (by first | decide | (unfold rg; omega) | assumption | exact bAnd_rg _ _) (fun b2 => ?_) (fun b2 => ?_)
        · have hc1 : 0 ≤ v.2 12 z := hc0
          have hc2 : v.2 12 z / 8 = s := by omega
          refine ev_s C dX7_kills_62 (q := 63) rfl rfl ?_
          refine mg_12 C dX7_kills_63 (q := 66) rfl ?_
          refine ev_s C dX7_kills_66 (q := 67) rfl rfl ?_
          refine ev_s C dX7_kills_67 (q := 68) rfl rfl ?_
          refine ms_12 C dX7_kills_68 (q := 69) rfl (by omega) ?_
          refine ev_s C dX7_kills_69 (q := 70) rfl rfl ?_
          refine mg_13 C dX7_kills_70 (q := 73) rfl ?_
          refine ev_s C dX7_kills_73 (q := 74) rfl rfl ?_
          refine ev_s C dX7_kills_74 (q := 75) rfl rfl ?_
          refine ms_13 C dX7_kills_75 (q := 76) rfl (by omega) (by omega) ?_
          refine ev_s C dX7_kills_76 (q := 79) rfl rfl ?_
          refine ev_goto C dX7_kills_79 (tgt := 29) (by decide) ?_
          first
            | exact ev_eq (G := mk u (klF v s (z + 1)) g) (by rw [klF_s1 hc1 hc2]; rfl) (ih (z + 1) (by omega) (by omega) kx)
            | exact ev_eq (G := mk u (klF v s (z + 1)) g) (by rw [klF_s0 hc]) (ih (z + 1) (by omega) (by omega) kx)
        · have hc : ¬ (0 ≤ v.2 12 z ∧ v.2 12 z / 8 = s) := by omega
          refine ev_goto C dX7_kills_59 (tgt := 76) (by decide) ?_
          refine ev_s C dX7_kills_76 (q := 79) rfl rfl ?_
          refine ev_goto C dX7_kills_79 (tgt := 29) (by decide) ?_
          first
            | exact ev_eq (G := mk u (klF v s (z + 1)) g) (by rw [klF_s1 hc1 hc2]; rfl) (ih (z + 1) (by omega) (by omega) kx)
            | exact ev_eq (G := mk u (klF v s (z + 1)) g) (by rw [klF_s0 hc]) (ih (z + 1) (by omega) (by omega) kx)
set_option maxHeartbeats 4000000 in
set_option maxRecDepth 100000 in
theorem l_X7_kills2 {k : Kx} (C : CX k RX7 cX7_kills 3) (hlv : klev k = 1) {u : SS} {g : GH} {s : Int} (hs : 0 ≤ s ∧ s < 6) : ∀ (m z : Nat) (v : SS) (iz : Int), iz = (z : Int) - 1 → z < m → MI v → z ≤ v.1 16 → EV k 117 [(0, vR (some 0)), (1, vI s), (2, vI (-1))] [] (mk u (rml (fun x => decide (x / 8 = s)) z v) g) 0 0 → EV k 89 [(0, vR (some 0)), (1, vI s), (2, vI iz)] [] (mk u v g) 0 0 := by
  intro m
  induction m with
  | zero =>
    intros
    exfalso
    omega
  | succ m ih =>
    intro z v iz e0 h1 I h2 kx
    have i16 := I.s16
    have ia := I.a17 iz.toNat
    refine ev_s C dX7_kills_89 (q := 90) rfl rfl ?_
    refine ev_if_lt C dX7_kills_90 (tgt := 117) (q := 93) (by decide) rfl (by first | decide | (unfold rg; omega) | assumption | exact bAnd_rg _ _) (fun b0 => ?_) (fun b0 => ?_)
    · obtain rfl : z = 0 := by omega
      subst e0
      exact kx
    · refine ev_s C dX7_kills_93 (q := 94) rfl rfl ?_
      refine mg_17 C dX7_kills_94 (q := 97) rfl ?_
      refine ev_s C dX7_kills_97 (q := 98) rfl rfl ?_
      refine ml_17 C dX7_kills_98 (q := 99) rfl (by omega) ?_
      refine ev_s C dX7_kills_99 (q := 101) rfl rfl ?_
      refine ev_idiv C dX7_kills_101 (q := 102) rfl (by first | decide | (unfold rg; omega) | assumption | exact bAnd_rg _ _) (by first | decide | (unfold rg; omega) | assumption | exact bAnd_rg _ _) (by omega) (by omega) ?_
      refine ev_s C dX7_kills_102 (q := 103) rfl rfl ?_
      refine ev_icmp_ne C dX7_kills_103 (tgt := 111) (q := 106) (by decide) rfl (by first | decide | (unfold rg; omega) | assumption | exact bAnd_rg _ _) (by first | decide | (unfold rg; omega) | assumption | exact bAnd_rg _ _) (fun b1 => ?_) (fun b1 => ?_)
      · refine ev_s C dX7_kills_111 (q := 114) rfl rfl ?_
        refine ev_goto C dX7_kills_114 (tgt := 89) (by decide) ?_
        obtain ⟨y, rfl⟩ : ∃ y, z = y + 1 := ⟨z - 1, by omega⟩
        rw [rml_s] at kx
        obtain rfl : iz = (y : Int) := by omega
        first
          | (rw [if_pos (by simpa using b1)] at kx
             exact ih y _ _ (by omega) (by omega) (MI_uns I (by omega)) (by show (y : Int) ≤ v.1 16 - 1; omega) kx)
          | (rw [if_neg (by simpa using b1)] at kx
             exact ih y _ _ (by omega) (by omega) I (by omega) kx)
      · refine ev_s C dX7_kills_106 (q := 107) rfl rfl ?_
        refine ev_s C dX7_kills_107 (q := 108) rfl rfl ?_
        refine ev_cV C dX7_kills_108 (q := 111) rfl km_X7_101 kv_X7_unstores kc_X7_unstores (c_X7_unstores I (p := iz.toNat) (by omega) (by omega)) rfl rfl vcX7 go_0 (by rw [hlv]; first | decide | omega) (by decide) (Nat.le_of_ble_eq_true rfl) (Nat.zero_le _) (Nat.zero_le _) ?_
        refine ev_s C dX7_kills_111 (q := 114) rfl rfl ?_
        refine ev_goto C dX7_kills_114 (tgt := 89) (by decide) ?_
        obtain ⟨y, rfl⟩ : ∃ y, z = y + 1 := ⟨z - 1, by omega⟩
        rw [rml_s] at kx
        obtain rfl : iz = (y : Int) := by omega
        first
          | (rw [if_pos (by simpa using b1)] at kx
             exact ih y _ _ (by omega) (by omega) (MI_uns I (by omega)) (by show (y : Int) ≤ v.1 16 - 1; omega) kx)
          | (rw [if_neg (by simpa using b1)] at kx
             exact ih y _ _ (by omega) (by omega) I (by omega) kx)
set_option maxHeartbeats 4000000 in
set_option maxRecDepth 100000 in
theorem l_X7_kills3 {k : Kx} (C : CX k RX7 cX7_kills 3) {u v : SS} {g : GH} {s : Int} (hs : 0 ≤ s ∧ s < 6) : ∀ (m z : Nat) (iz : Int), iz = z → 8 * s.toNat ≤ z → z ≤ 8 * s.toNat + 8 → 8 * s.toNat + 8 < z + m → EV k 146 [(0, vR (some 0)), (1, vI s), (2, vI (((8 * s.toNat + 8 : Nat)) : Int))] [] (mk u (klQ v s (8 * s.toNat + 8)) g) 0 0 → EV k 122 [(0, vR (some 0)), (1, vI s), (2, vI iz)] [] (mk u (klQ v s z) g) 0 0 := by
  intro m
  induction m with
  | zero =>
    intros
    exfalso
    omega
  | succ m ih =>
    intro z iz e0 h0 h1 h2 kx
    refine ev_s C dX7_kills_122 (q := 123) rfl rfl ?_
    refine ev_s C dX7_kills_123 (q := 125) rfl rfl ?_
    refine ev_s C dX7_kills_125 (q := 126) rfl rfl ?_
    refine ev_s C dX7_kills_126 (q := 127) rfl rfl ?_
    refine ev_s C dX7_kills_127 (q := 129) rfl rfl ?_
    refine ev_s C dX7_kills_129 (q := 130) rfl rfl ?_
    refine ev_icmp_ge C dX7_kills_130 (tgt := 146) (q := 133) (by decide) rfl (by first | decide | (unfold rg; omega) | assumption | exact bAnd_rg _ _) (by first | decide | (unfold rg; omega) | assumption | exact bAnd_rg _ _) (fun b0 => ?_) (fun b0 => ?_)
    · obtain rfl : z = 8 * s.toNat + 8 := by omega
      subst e0
      exact kx
    · refine ev_s C dX7_kills_133 (q := 134) rfl rfl ?_
      refine mg_10 C dX7_kills_134 (q := 137) rfl ?_
      refine ev_s C dX7_kills_137 (q := 138) rfl rfl ?_
      refine ev_s C dX7_kills_138 (q := 139) rfl rfl ?_
      refine ms_10 C dX7_kills_139 (q := 140) rfl (by omega) ?_
      refine ev_s C dX7_kills_140 (q := 143) rfl rfl ?_
      refine ev_goto C dX7_kills_143 (tgt := 122) (by decide) ?_
      subst e0
      refine ev_eq (G := mk u (klQ v s (z + 1)) g) (by rw [← klQ_s h0]; rfl) ?_
      exact ih (z + 1) _ (by omega) (by omega) (by omega) (by omega) kx
set_option maxHeartbeats 4000000 in
set_option maxRecDepth 100000 in
theorem c_X7_kills {u v : SS} {g : GH} (I : MI v) {s : Int} (hs : 0 ≤ s ∧ s < 6) (hb : v.1 25 + 1 ≤ 1000000) : Cn yX7_kills (wsy yX7_kills cX7_kills 3 none) 1 0 0 nn [vR (some 0), vI s] (mk u v g) (.inl (none, mk u (kM v s) g)) := by
  refine con_j (lv := [(0, vR (some 0)), (1, vI s)]) (by decide) (fun ad => Nat.le_of_ble_eq_true rfl) (fun ad => rfl) rfl ?_
  intro k C hr hlv hmc hms hPo hPx htab
  have i11 := I.s11
  have i16 := I.s16
  have i25 := I.s25
  refine ev_s C dX7_kills_0 (q := 1) rfl rfl ?_
  refine mg_4 C dX7_kills_1 (q := 4) rfl ?_
  refine ev_s C dX7_kills_4 (q := 5) rfl rfl ?_
  refine ev_s C dX7_kills_5 (q := 6) rfl rfl ?_
  refine ms_4 C dX7_kills_6 (q := 7) rfl (by omega) (by omega) ?_
  refine ev_s C dX7_kills_7 (q := 8) rfl rfl ?_
  refine mg_5 C dX7_kills_8 (q := 11) rfl ?_
  refine ev_s C dX7_kills_11 (q := 12) rfl rfl ?_
  refine ev_s C dX7_kills_12 (q := 13) rfl rfl ?_
  refine mg_19 C dX7_kills_13 (q := 16) rfl ?_
  refine ms_5 C dX7_kills_16 (q := 17) rfl (by omega) ?_
  refine ev_s C dX7_kills_17 (q := 18) rfl rfl ?_
  refine ev_s C dX7_kills_18 (q := 19) rfl rfl ?_
  refine mg_25 C dX7_kills_19 (q := 22) rfl ?_
  refine ev_s C dX7_kills_22 (q := 23) rfl rfl ?_
  refine ev_s C dX7_kills_23 (q := 24) rfl rfl ?_
  refine mp_25 C dX7_kills_24 (q := 27) rfl ?_
  refine ev_s C dX7_kills_27 (q := 28) rfl rfl ?_
  refine ev_s C dX7_kills_28 (q := 29) rfl rfl ?_
  have J := MI_kl1 (s := s) I hb
  refine ev_eq (G := mk u (klF (kl1 v s) s 0) g) (by rw [klF_0]; rfl) ?_
  refine l_X7_kills1 C J hs (N := (v.1 11).toNat) (by show v.1 11 = _; omega) ((v.1 11).toNat + 1) 0 (Nat.zero_le _) (by omega) ?_
  have J2 := MI_klF (s := s) (n := (v.1 11).toNat) J
  refine ev_s C dX7_kills_82 (q := 83) rfl rfl ?_
  refine mg_16 C dX7_kills_83 (q := 86) rfl ?_
  refine ev_s C dX7_kills_86 (q := 87) rfl rfl ?_
  refine ev_s C dX7_kills_87 (q := 88) rfl rfl ?_
  refine ev_s C dX7_kills_88 (q := 89) rfl rfl ?_
  refine l_X7_kills2 C hlv hs ((v.1 16).toNat + 1) (v.1 16).toNat (klF (kl1 v s) s (v.1 11).toNat) _ (by show v.1 16 - 1 = _; omega) (by omega) J2 (by show (((v.1 16).toNat : Nat) : Int) ≤ v.1 16; omega) ?_
  refine ev_s C dX7_kills_117 (q := 119) rfl rfl ?_
  refine ev_s C dX7_kills_119 (q := 120) rfl rfl ?_
  refine ev_s C dX7_kills_120 (q := 121) rfl rfl ?_
  refine ev_s C dX7_kills_121 (q := 122) rfl rfl ?_
  refine ev_eq (G := mk u (klQ (klR (klF (kl1 v s) s (v.1 11).toNat) s) s (8 * s.toNat)) g) (by rw [klQ_0]; rfl) ?_
  refine l_X7_kills3 C hs (8 * s.toNat + 9) (8 * s.toNat) _ (by omega) (Nat.le_refl _) (by omega) (by omega) ?_
  exact ev_vret C hr dX7_kills_146 (Nat.zero_le _) (Nat.zero_le _) (po_0 hPo rfl)
def zr : Nat → SS → SS
  | 0, v => v
  | z + 1, v => stA (zr z v) 20 z 0
theorem zr_S {k : Nat} : ∀ {z : Nat} {v : SS}, (zr z v).1 k = v.1 k
  | 0, _ => rfl
  | z + 1, v => by show (zr z v).1 k = _; exact zr_S
theorem zr_A {a j : Nat} (h : a ≠ 20) : ∀ {z : Nat} {v : SS}, (zr z v).2 a j = v.2 a j
  | 0, _ => rfl
  | z + 1, v => by show (stA (zr z v) 20 z 0).2 a j = _; rw [stA_2, if_neg h]; exact zr_A h
theorem MI_zr : ∀ {z : Nat} {v : SS}, MI v → MI (zr z v)
  | 0, _, I => I
  | z + 1, v, I => MI_A (MI_zr I) (by decide)
def tkA (v : SS) : SS := if v.1 18 < prs v then zr 4 (if 0 ≤ wst v (v.1 0).toNat then kM v (wst v (v.1 0).toNat) else v) else v
def tkB (a : SS) : SS := stA (stS a 19 (a.1 19 + 1)) 20 ((a.1 19 + 1) % 4).toNat 0
def stQ (v : SS) (z : Nat) : Bool := decide (v.2 4 z = 0) || (decide (v.1 19 - v.2 5 z < v.2 3 z) || (decide (v.2 2 z = 110) && !anyN (v.1 0).toNat (wtB v z)))
theorem stQ_1 {v : SS} {z : Nat} (h : v.2 4 z = 0) : stQ v z = true := by simp [stQ, h]
theorem stQ_2 {v : SS} {z : Nat} (h : v.1 19 - v.2 5 z < v.2 3 z) : stQ v z = true := by simp [stQ, h]
theorem stQ_3 {v : SS} {z : Nat} (h1 : v.2 2 z = 110) (h2 : anyN (v.1 0).toNat (wtB v z) = false) : stQ v z = true := by simp [stQ, h1, h2]
theorem stQ_f1 {v : SS} {z : Nat} (h1 : ¬ v.2 4 z = 0) (h2 : ¬ v.1 19 - v.2 5 z < v.2 3 z) (h3 : ¬ v.2 2 z = 110) : ¬ stQ v z = true := by simp [stQ, h1, h2, h3]
theorem stQ_f2 {v : SS} {z : Nat} (h1 : ¬ v.2 4 z = 0) (h2 : ¬ v.1 19 - v.2 5 z < v.2 3 z) (h3 : anyN (v.1 0).toNat (wtB v z) = true) : ¬ stQ v z = true := by simp [stQ, h1, h2, h3]
def stp (z : Nat) (v : SS) : SS := if stQ v z then v else stA (stA v 4 z 0) 6 z (v.2 6 z + 1)
def stl : Nat → Nat → SS → SS
  | 0, _, v => v
  | m + 1, z, v => stl m (z + 1) (stp z v)
theorem stl_s {m z : Nat} {v : SS} : stl (m + 1) z v = stl m (z + 1) (stp z v) := rfl
def tkM (v : SS) : SS := stl (v.1 0).toNat 0 (tkB (tkA v))
theorem stp_S {z k : Nat} {v : SS} : (stp z v).1 k = v.1 k := by unfold stp; split <;> rfl
theorem stp_A {z a j : Nat} {v : SS} (h1 : a ≠ 4) (h2 : a ≠ 6) : (stp z v).2 a j = v.2 a j := by
  unfold stp
  split
  · rfl
  · rw [stA_2, if_neg h2, stA_2, if_neg h1]
theorem stp_6 {z j : Nat} {v : SS} : v.2 6 j ≤ (stp z v).2 6 j ∧ (stp z v).2 6 j ≤ v.2 6 j + (if j = z then 1 else 0) := by
  unfold stp
  split
  · split <;> omega
  · rw [stA_2, if_pos rfl]
    by_cases e : j = z
    · rw [if_pos e, if_pos e, e]; omega
    · rw [if_neg e, if_neg e]
      show v.2 6 j ≤ (stA v 4 z 0).2 6 j ∧ _
      rw [stA_2, if_neg (by decide)]; omega
theorem MI_stp {z : Nat} {v : SS} (I : MI v) (h : v.2 6 z + 1 ≤ 1000000) : MI (stp z v) := by
  have i6 := I.a6 z
  unfold stp
  split
  · exact I
  · exact MI_A (MI_A I (by decide)) (by show 0 ≤ v.2 6 z + 1 ∧ v.2 6 z + 1 ≤ 1000000; omega)
theorem stl_S {k : Nat} : ∀ {m z : Nat} {v : SS}, (stl m z v).1 k = v.1 k
  | 0, _, _ => rfl
  | m + 1, z, v => by rw [stl_s, stl_S, stp_S]
theorem stl_A {a j : Nat} (h1 : a ≠ 4) (h2 : a ≠ 6) : ∀ {m z : Nat} {v : SS}, (stl m z v).2 a j = v.2 a j
  | 0, _, _ => rfl
  | m + 1, z, v => by rw [stl_s, stl_A h1 h2, stp_A h1 h2]
theorem stl_lo {j : Nat} : ∀ {m z : Nat} {v : SS}, j < z → (stl m z v).2 6 j = v.2 6 j
  | 0, _, _, _ => rfl
  | m + 1, z, v, h => by
    have := stp_6 (z := z) (j := j) (v := v)
    rw [if_neg (by omega)] at this
    rw [stl_s, stl_lo (by omega)]
    omega
theorem stl_6 {j : Nat} : ∀ {m z : Nat} {v : SS}, (stl m z v).2 6 j ≤ v.2 6 j + 1
  | 0, _, _ => by show _ ≤ _; unfold stl; omega
  | m + 1, z, v => by
    have h := stp_6 (z := z) (j := j) (v := v)
    rw [stl_s]
    by_cases e : j = z
    · rw [if_pos e] at h
      rw [stl_lo (by omega)]; omega
    · rw [if_neg e] at h
      have := stl_6 (j := j) (m := m) (z := z + 1) (v := stp z v)
      omega
theorem MI_stl : ∀ {m z : Nat} {v : SS}, MI v → (∀ j, z ≤ j → v.2 6 j + 1 ≤ 1000000) → MI (stl m z v)
  | 0, _, _, I, _ => I
  | m + 1, z, v, I, h => by
    rw [stl_s]
    refine MI_stl (MI_stp I (h z (Nat.le_refl _))) (fun j hj => ?_)
    have h6 := stp_6 (z := z) (j := j) (v := v)
    rw [if_neg (by omega)] at h6
    have := h j (by omega)
    omega
theorem tkA_I {v : SS} (I : MI v) (hb : v.1 25 + 1 ≤ 1000000) : MI (tkA v) := by
  unfold tkA
  split
  · refine MI_zr ?_
    split
    · exact kM_I I hb
    · exact I
  · exact I
theorem tkA_S {v : SS} {k : Nat} (h1 : k ≠ 16) (h2 : k ≠ 25) : (tkA v).1 k = v.1 k := by
  unfold tkA
  split
  · rw [zr_S]
    split
    · exact kM_S h1 h2
    · rfl
  · rfl
theorem tkA_A {v : SS} {a j : Nat} (h0 : a ≠ 20) (h1 : a ≠ 10) (h2 : a ≠ 17) (h3 : a ≠ 12) (h4 : a ≠ 13) (h5 : a ≠ 4) (h6 : a ≠ 5) : (tkA v).2 a j = v.2 a j := by
  unfold tkA
  split
  · rw [zr_A h0]
    split
    · exact kM_A h1 h2 h3 h4 h5 h6
    · rfl
  · rfl
theorem tkA_25 {v : SS} : v.1 25 ≤ (tkA v).1 25 ∧ (tkA v).1 25 ≤ v.1 25 + 1 := by
  unfold tkA
  split
  · rw [zr_S]
    split
    · rw [kM_25]; omega
    · omega
  · omega
theorem MI_tkB {a : SS} (I : MI a) (h : a.1 19 + 1 ≤ 1000000) : MI (tkB a) := by
  have i19 := I.s19
  exact MI_A (MI_S I (by show 0 ≤ a.1 19 + 1 ∧ a.1 19 + 1 ≤ 1000000; omega)) (by decide)
theorem tkM_I {v : SS} {b : Int} (I : MI v) (hb : BG v (b + 1)) (hb0 : 0 ≤ b) : MI (tkM v) ∧ BG (tkM v) b := by
  obtain ⟨h1, h2, h3⟩ := hb
  have J := MI_tkB (tkA_I I (by omega)) (by rw [tkA_S (by decide) (by decide)]; omega)
  have e6 : ∀ j, (tkB (tkA v)).2 6 j = v.2 6 j := fun j => by
    show (stA _ 20 _ 0).2 6 j = _
    rw [stA_2, if_neg (by decide)]
    show (tkA v).2 6 j = _
    rw [tkA_A (by decide) (by decide) (by decide) (by decide) (by decide) (by decide) (by decide)]
  refine ⟨MI_stl J (fun j _ => by rw [e6]; have := h3 j; omega), ?_, ?_, ?_⟩
  · show (stl _ _ _).1 19 + b ≤ _
    rw [stl_S]
    show (tkA v).1 19 + 1 + b ≤ _
    rw [tkA_S (by decide) (by decide)]; omega
  · show (stl _ _ _).1 25 + b ≤ _
    rw [stl_S]
    show (tkA v).1 25 + b ≤ _
    have := tkA_25 (v := v); omega
  · intro j
    have := stl_6 (j := j) (m := (v.1 0).toNat) (z := 0) (v := tkB (tkA v))
    rw [e6] at this
    have := h3 j
    show (stl _ _ _).2 6 j + b ≤ _
    omega
theorem tkM_S {v : SS} {k : Nat} (h1 : k ≠ 16) (h2 : k ≠ 25) (h3 : k ≠ 19) : (tkM v).1 k = v.1 k := by
  show (stl _ _ _).1 k = _
  rw [stl_S]
  show (stS (tkA v) 19 _).1 k = _
  rw [stS_1, if_neg h3, tkA_S h1 h2]
set_option maxHeartbeats 4000000 in
set_option maxRecDepth 100000 in
theorem l_X7_ticks1 {k : Kx} (C : CX k RX7 cX7_ticks 3) {u v : SS} {g : GH} {d : Int} : ∀ (m z : Nat), z ≤ 4 → 4 < z + m → EV k 51 [(0, vR (some 0)), (1, vI d), (2, vI 4)] [] (mk u (zr 4 v) g) 0 0 → EV k 33 [(0, vR (some 0)), (1, vI d), (2, vI (z : Int))] [] (mk u (zr z v) g) 0 0 := by
  intro m
  induction m with
  | zero =>
    intros
    exfalso
    omega
  | succ m ih =>
    intro z h1 h2 kx
    refine ev_s C dX7_ticks_33 (q := 34) rfl rfl ?_
    refine ev_s C dX7_ticks_34 (q := 35) rfl rfl ?_
    refine ev_icmp_ge C dX7_ticks_35 (tgt := 51) (q := 38) (by decide) rfl (by first | decide | (unfold rg; omega) | assumption | exact bAnd_rg _ _) (by first | decide | (unfold rg; omega) | assumption | exact bAnd_rg _ _) (fun b0 => ?_) (fun b0 => ?_)
    · obtain rfl : z = 4 := by omega
      exact kx
    · refine ev_s C dX7_ticks_38 (q := 39) rfl rfl ?_
      refine mg_20 C dX7_ticks_39 (q := 42) rfl ?_
      refine ev_s C dX7_ticks_42 (q := 43) rfl rfl ?_
      refine ev_s C dX7_ticks_43 (q := 44) rfl rfl ?_
      refine ms_20 C dX7_ticks_44 (q := 45) rfl (by omega) ?_
      refine ev_s C dX7_ticks_45 (q := 48) rfl rfl ?_
      refine ev_goto C dX7_ticks_48 (tgt := 33) (by decide) ?_
      exact ih (z + 1) (by omega) (by omega) kx
set_option maxHeartbeats 4000000 in
set_option maxRecDepth 100000 in
theorem l_X7_ticks2 {k : Kx} (C : CX k RX7 cX7_ticks 3) (hlv : klev k = 3) {u : SS} {g : GH} {d : Int} {N : Nat} (hN6 : N ≤ 6) : ∀ (m z : Nat) (v : SS), m = N - z + 1 → z ≤ N → v.1 0 = (N : Int) → MI v → (∀ j, z ≤ j → v.2 6 j + 1 ≤ 1000000) → EV k 157 [(0, vR (some 0)), (1, vI d), (2, vI (N : Int))] [] (mk u (stl (N - z) z v) g) 0 0 → EV k 75 [(0, vR (some 0)), (1, vI d), (2, vI (z : Int))] [] (mk u v g) 0 0 := by
  intro m
  induction m with
  | zero =>
    intros
    exfalso
    omega
  | succ m ih =>
    intro z v hm h1 hN I h6 kx
    have i0 := I.s0
    have ia := I.a4 z
    have ib := I.a5 z
    have ic := I.a3 z
    have id := I.a2 z
    have ie := I.a6 z
    have eb : v.2 5 ((z : Int)).toNat = v.2 5 z := rfl
    have ec : v.2 3 ((z : Int)).toNat = v.2 3 z := rfl
    have ed : v.2 2 ((z : Int)).toNat = v.2 2 z := rfl
    have i19 := I.s19
    have hz := h6 z (Nat.le_refl _)
    refine ev_s C dX7_ticks_75 (q := 76) rfl rfl ?_
    refine ev_s C dX7_ticks_76 (q := 77) rfl rfl ?_
    refine mg_0 C dX7_ticks_77 (q := 80) rfl ?_
    refine ev_icmp_ge C dX7_ticks_80 (tgt := 157) (q := 83) (by decide) rfl (by first | decide | (unfold rg; omega) | assumption | exact bAnd_rg _ _) (by first | decide | (unfold rg; omega) | assumption | exact bAnd_rg _ _) (fun b0 => ?_) (fun b0 => ?_)
    · obtain rfl : z = N := by omega
      rw [Nat.sub_self] at kx
      exact kx
    · refine ev_s C dX7_ticks_83 (q := 84) rfl rfl ?_
      refine mg_4 C dX7_ticks_84 (q := 87) rfl ?_
      refine ev_s C dX7_ticks_87 (q := 88) rfl rfl ?_
      refine ml_4 C dX7_ticks_88 (q := 89) rfl (by omega) ?_
      show EV k 89 _ (vI (v.2 4 z) :: []) _ _ _
      refine ev_if_eq C dX7_ticks_89 (tgt := 151) (q := 92) (by decide) rfl (by first | decide | (unfold rg; omega) | assumption | exact bAnd_rg _ _) (fun b1 => ?_) (fun b1 => ?_)
      · refine ev_s C dX7_ticks_151 (q := 154) rfl rfl ?_
        refine ev_goto C dX7_ticks_154 (tgt := 75) (by decide) ?_
        rw [show N - z = (N - (z + 1)) + 1 by omega, stl_s] at kx
        have hz6 := h6 z (Nat.le_refl _)
        have J := MI_stp (z := z) I hz6
        have J6 : ∀ j, z + 1 ≤ j → (stp z v).2 6 j + 1 ≤ 1000000 := fun j hj => by
          have h7 := stp_6 (z := z) (j := j) (v := v)
          rw [if_neg (by omega)] at h7
          have := h6 j (by omega)
          omega
        first
          | (have hq : stQ v z = true := (by first | exact stQ_1 b1 | exact stQ_2 bt | exact stQ_3 bq b4)
             have eq : stp z v = v := by unfold stp; rw [if_pos hq]
             rw [eq] at kx J J6
             exact ih (z + 1) v (by omega) (by omega) hN J J6 kx)
          | (have hq : ¬ stQ v z = true := (by first | exact stQ_f1 b1 bt bq | exact stQ_f2 b1 bt b4)
             have eq : stp z v = stA (stA v 4 z 0) 6 z (v.2 6 z + 1) := by unfold stp; rw [if_neg hq]
             rw [eq] at kx J J6
             exact ih (z + 1) _ (by omega) (by omega) hN J J6 kx)
      · refine ev_s C dX7_ticks_92 (q := 93) rfl rfl ?_
        refine mg_19 C dX7_ticks_93 (q := 96) rfl ?_
        refine ev_s C dX7_ticks_96 (q := 97) rfl rfl ?_
        refine mg_5 C dX7_ticks_97 (q := 100) rfl ?_
        refine ev_s C dX7_ticks_100 (q := 101) rfl rfl ?_
        refine ml_5 C dX7_ticks_101 (q := 102) rfl (by omega) ?_
        refine ev_s C dX7_ticks_102 (q := 103) rfl rfl ?_
        refine ev_s C dX7_ticks_103 (q := 104) rfl rfl ?_
        refine mg_3 C dX7_ticks_104 (q := 107) rfl ?_
        refine ev_s C dX7_ticks_107 (q := 108) rfl rfl ?_
        refine ml_3 C dX7_ticks_108 (q := 109) rfl (by omega) ?_
        refine ev_icmp_lt C dX7_ticks_109 (tgt := 151) (q := 112) (by decide) rfl (by first | decide | (unfold rg; omega) | assumption | exact bAnd_rg _ _) (by first | decide | (unfold rg; omega) | assumption | exact bAnd_rg _ _) (fun b2 => ?_) (fun b2 => ?_)
        · have bt : v.1 19 - v.2 5 z < v.2 3 z := by omega
          refine ev_s C dX7_ticks_151 (q := 154) rfl rfl ?_
          refine ev_goto C dX7_ticks_154 (tgt := 75) (by decide) ?_
          rw [show N - z = (N - (z + 1)) + 1 by omega, stl_s] at kx
          have hz6 := h6 z (Nat.le_refl _)
          have J := MI_stp (z := z) I hz6
          have J6 : ∀ j, z + 1 ≤ j → (stp z v).2 6 j + 1 ≤ 1000000 := fun j hj => by
            have h7 := stp_6 (z := z) (j := j) (v := v)
            rw [if_neg (by omega)] at h7
            have := h6 j (by omega)
            omega
          first
            | (have hq : stQ v z = true := (by first | exact stQ_1 b1 | exact stQ_2 bt | exact stQ_3 bq b4)
               have eq : stp z v = v := by unfold stp; rw [if_pos hq]
               rw [eq] at kx J J6
               exact ih (z + 1) v (by omega) (by omega) hN J J6 kx)
            | (have hq : ¬ stQ v z = true := (by first | exact stQ_f1 b1 bt bq | exact stQ_f2 b1 bt b4)
               have eq : stp z v = stA (stA v 4 z 0) 6 z (v.2 6 z + 1) := by unfold stp; rw [if_neg hq]
               rw [eq] at kx J J6
               exact ih (z + 1) _ (by omega) (by omega) hN J J6 kx)
        · have bt : ¬ v.1 19 - v.2 5 z < v.2 3 z := by omega
          refine ev_s C dX7_ticks_112 (q := 113) rfl rfl ?_
          refine mg_2 C dX7_ticks_113 (q := 116) rfl ?_
          refine ev_s C dX7_ticks_116 (q := 117) rfl rfl ?_
          refine ml_2 C dX7_ticks_117 (q := 118) rfl (by omega) ?_
          refine ev_s C dX7_ticks_118 (q := 120) rfl rfl ?_
          refine ev_icmp_ne C dX7_ticks_120 (tgt := 134) (q := 123) (by decide) rfl (by first | decide | (unfold rg; omega) | assumption | exact bAnd_rg _ _) (by first | decide | (unfold rg; omega) | assumption | exact bAnd_rg _ _) (fun b3 => ?_) (fun b3 => ?_)
          · have bq : ¬ v.2 2 z = 110 := by omega
            refine ev_s C dX7_ticks_134 (q := 135) rfl rfl ?_
            refine mg_4 C dX7_ticks_135 (q := 138) rfl ?_
            refine ev_s C dX7_ticks_138 (q := 139) rfl rfl ?_
            refine ev_s C dX7_ticks_139 (q := 140) rfl rfl ?_
            refine ms_4 C dX7_ticks_140 (q := 141) rfl (by omega) (by omega) ?_
            refine ev_s C dX7_ticks_141 (q := 142) rfl rfl ?_
            refine mg_6 C dX7_ticks_142 (q := 145) rfl ?_
            refine ev_s C dX7_ticks_145 (q := 146) rfl rfl ?_
            refine ev_s C dX7_ticks_146 (q := 147) rfl rfl ?_
            refine ml_6 C dX7_ticks_147 (q := 148) rfl (by omega) ?_
            refine ev_s C dX7_ticks_148 (q := 149) rfl rfl ?_
            refine ev_s C dX7_ticks_149 (q := 150) rfl rfl ?_
            refine ms_6 C dX7_ticks_150 (q := 151) rfl (by omega) ?_
            refine ev_s C dX7_ticks_151 (q := 154) rfl rfl ?_
            refine ev_goto C dX7_ticks_154 (tgt := 75) (by decide) ?_
            rw [show N - z = (N - (z + 1)) + 1 by omega, stl_s] at kx
            have hz6 := h6 z (Nat.le_refl _)
            have J := MI_stp (z := z) I hz6
            have J6 : ∀ j, z + 1 ≤ j → (stp z v).2 6 j + 1 ≤ 1000000 := fun j hj => by
              have h7 := stp_6 (z := z) (j := j) (v := v)
              rw [if_neg (by omega)] at h7
              have := h6 j (by omega)
              omega
            first
              | (have hq : stQ v z = true := (by first | exact stQ_1 b1 | exact stQ_2 bt | exact stQ_3 bq b4)
                 have eq : stp z v = v := by unfold stp; rw [if_pos hq]
                 rw [eq] at kx J J6
                 exact ih (z + 1) v (by omega) (by omega) hN J J6 kx)
              | (have hq : ¬ stQ v z = true := (by first | exact stQ_f1 b1 bt bq | exact stQ_f2 b1 bt b4)
                 have eq : stp z v = stA (stA v 4 z 0) 6 z (v.2 6 z + 1) := by unfold stp; rw [if_neg hq]
                 rw [eq] at kx J J6
                 exact ih (z + 1) _ (by omega) (by omega) hN J J6 kx)
          · have bq : v.2 2 z = 110 := by omega
            refine ev_s C dX7_ticks_123 (q := 124) rfl rfl ?_
            refine ev_s C dX7_ticks_124 (q := 125) rfl rfl ?_
            refine ev_cV C dX7_ticks_125 (q := 128) rfl km_X7_165 kv_X7_isWanted kc_X7_isWanted (c_X7_isWanted I) rfl rfl vcX7 go_0 (by rw [hlv]; first | decide | omega) (by decide) (Nat.le_of_ble_eq_true rfl) (Nat.zero_le _) (Nat.zero_le _) ?_
            refine ev_ifB_ne C dX7_ticks_128 (tgt := 134) (q := 131) (by decide) rfl (fun b4 => ?_) (fun b4 => ?_)
            · refine ev_s C dX7_ticks_134 (q := 135) rfl rfl ?_
              refine mg_4 C dX7_ticks_135 (q := 138) rfl ?_
              refine ev_s C dX7_ticks_138 (q := 139) rfl rfl ?_
              refine ev_s C dX7_ticks_139 (q := 140) rfl rfl ?_
              refine ms_4 C dX7_ticks_140 (q := 141) rfl (by omega) (by omega) ?_
              refine ev_s C dX7_ticks_141 (q := 142) rfl rfl ?_
              refine mg_6 C dX7_ticks_142 (q := 145) rfl ?_
              refine ev_s C dX7_ticks_145 (q := 146) rfl rfl ?_
              refine ev_s C dX7_ticks_146 (q := 147) rfl rfl ?_
              refine ml_6 C dX7_ticks_147 (q := 148) rfl (by omega) ?_
              refine ev_s C dX7_ticks_148 (q := 149) rfl rfl ?_
              refine ev_s C dX7_ticks_149 (q := 150) rfl rfl ?_
              refine ms_6 C dX7_ticks_150 (q := 151) rfl (by omega) ?_
              refine ev_s C dX7_ticks_151 (q := 154) rfl rfl ?_
              refine ev_goto C dX7_ticks_154 (tgt := 75) (by decide) ?_
              rw [show N - z = (N - (z + 1)) + 1 by omega, stl_s] at kx
              have hz6 := h6 z (Nat.le_refl _)
              have J := MI_stp (z := z) I hz6
              have J6 : ∀ j, z + 1 ≤ j → (stp z v).2 6 j + 1 ≤ 1000000 := fun j hj => by
                have h7 := stp_6 (z := z) (j := j) (v := v)
                rw [if_neg (by omega)] at h7
                have := h6 j (by omega)
                omega
              first
                | (have hq : stQ v z = true := (by first | exact stQ_1 b1 | exact stQ_2 bt | exact stQ_3 bq b4)
                   have eq : stp z v = v := by unfold stp; rw [if_pos hq]
                   rw [eq] at kx J J6
                   exact ih (z + 1) v (by omega) (by omega) hN J J6 kx)
                | (have hq : ¬ stQ v z = true := (by first | exact stQ_f1 b1 bt bq | exact stQ_f2 b1 bt b4)
                   have eq : stp z v = stA (stA v 4 z 0) 6 z (v.2 6 z + 1) := by unfold stp; rw [if_neg hq]
                   rw [eq] at kx J J6
                   exact ih (z + 1) _ (by omega) (by omega) hN J J6 kx)
            · refine ev_goto C dX7_ticks_131 (tgt := 151) (by decide) ?_
              refine ev_s C dX7_ticks_151 (q := 154) rfl rfl ?_
              refine ev_goto C dX7_ticks_154 (tgt := 75) (by decide) ?_
              rw [show N - z = (N - (z + 1)) + 1 by omega, stl_s] at kx
              have hz6 := h6 z (Nat.le_refl _)
              have J := MI_stp (z := z) I hz6
              have J6 : ∀ j, z + 1 ≤ j → (stp z v).2 6 j + 1 ≤ 1000000 := fun j hj => by
                have h7 := stp_6 (z := z) (j := j) (v := v)
                rw [if_neg (by omega)] at h7
                have := h6 j (by omega)
                omega
              first
                | (have hq : stQ v z = true := (by first | exact stQ_1 b1 | exact stQ_2 bt | exact stQ_3 bq b4)
                   have eq : stp z v = v := by unfold stp; rw [if_pos hq]
                   rw [eq] at kx J J6
                   exact ih (z + 1) v (by omega) (by omega) hN J J6 kx)
                | (have hq : ¬ stQ v z = true := (by first | exact stQ_f1 b1 bt bq | exact stQ_f2 b1 bt b4)
                   have eq : stp z v = stA (stA v 4 z 0) 6 z (v.2 6 z + 1) := by unfold stp; rw [if_neg hq]
                   rw [eq] at kx J J6
                   exact ih (z + 1) _ (by omega) (by omega) hN J J6 kx)
set_option maxHeartbeats 4000000 in
set_option maxRecDepth 100000 in
theorem l_X7_ticks3a {k : Kx} (C : CX k RX7 cX7_ticks 3) (hlv : klev k = 3) {u v : SS} {g : GH} (I : MI v) (hb : BG v 1) (hr : (kmeth k).sig.returnType = some .int) (hPo : kPo k = PoR (.inl (some (vI ((tkM v).1 25 - v.1 25)), mk u (tkM v) g))) : EV k 51 [(0, vR (some 0)), (1, vI (v.1 25))] [] (mk u (tkA v) g) 0 0 := by
  have i18 := I.s18
  have i0 := I.s0
  have i19 := I.s19
  have i25 := I.s25
  have hb1 := hb.1
  have hb2 := hb.2.1
  have JA := tkA_I I hb2
  have e19 : (tkA v).1 19 = v.1 19 := tkA_S (by decide) (by decide)
  have e0 : (tkA v).1 0 = v.1 0 := tkA_S (by decide) (by decide)
  have e25 := tkA_25 (v := v)
  have JB := MI_tkB JA (by omega)
  refine ev_s C dX7_ticks_51 (q := 52) rfl rfl ?_
  refine ev_s C dX7_ticks_52 (q := 53) rfl rfl ?_
  refine mg_19 C dX7_ticks_53 (q := 56) rfl ?_
  refine ev_s C dX7_ticks_56 (q := 57) rfl rfl ?_
  refine ev_s C dX7_ticks_57 (q := 58) rfl rfl ?_
  refine mp_19 C dX7_ticks_58 (q := 61) rfl ?_
  refine ev_s C dX7_ticks_61 (q := 62) rfl rfl ?_
  refine mg_20 C dX7_ticks_62 (q := 65) rfl ?_
  refine ev_s C dX7_ticks_65 (q := 66) rfl rfl ?_
  refine mg_19 C dX7_ticks_66 (q := 69) rfl ?_
  refine ev_s C dX7_ticks_69 (q := 70) rfl rfl ?_
  refine ev_irem C dX7_ticks_70 (q := 71) rfl (by show rg ((tkA v).1 19 + 1); unfold rg; omega) (by unfold rg; decide) (by show 0 ≤ (tkA v).1 19 + 1; omega) (by decide) ?_
  refine ev_s C dX7_ticks_71 (q := 72) rfl rfl ?_
  refine ms_20 C dX7_ticks_72 (q := 73) rfl (by omega) ?_
  refine ev_s C dX7_ticks_73 (q := 74) rfl rfl ?_
  refine ev_s C dX7_ticks_74 (q := 75) rfl rfl ?_
  have e6 : ∀ j, (tkB (tkA v)).2 6 j = v.2 6 j := fun j => by
    show (stA _ 20 _ 0).2 6 j = _
    rw [stA_2, if_neg (by decide)]
    show (tkA v).2 6 j = _
    rw [tkA_A (by decide) (by decide) (by decide) (by decide) (by decide) (by decide) (by decide)]
  refine l_X7_ticks2 C hlv (N := (v.1 0).toNat) (by omega) ((v.1 0).toNat - 0 + 1) 0 (tkB (tkA v)) rfl (Nat.zero_le _) (by show (tkA v).1 0 = _; omega) JB (fun j _ => by rw [e6]; have := hb.2.2 j; omega) ?_
  have et : (stl ((v.1 0).toNat - 0) 0 (tkB (tkA v))) = tkM v := by rw [Nat.sub_zero]; rfl
  rw [et]
  have er : (tkM v).1 25 = (tkA v).1 25 := by show (stl _ _ _).1 25 = _; rw [stl_S]; rfl
  refine ev_s C dX7_ticks_157 (q := 158) rfl rfl ?_
  refine mg_25 C dX7_ticks_158 (q := 161) rfl ?_
  refine ev_s C dX7_ticks_161 (q := 162) rfl rfl ?_
  refine ev_s C dX7_ticks_162 (q := 163) rfl rfl ?_
  exact ev_iret C hr dX7_ticks_163 (Nat.zero_le _) (Nat.zero_le _) (po_1 hPo rfl rfl)
set_option maxHeartbeats 4000000 in
set_option maxRecDepth 100000 in
theorem l_X7_ticks3b {k : Kx} (C : CX k RX7 cX7_ticks 3) (hlv : klev k = 3) {u v : SS} {g : GH} (I : MI v) (hb : BG v 1) (hr : (kmeth k).sig.returnType = some .int) (hPo : kPo k = PoR (.inl (some (vI ((tkM v).1 25 - v.1 25)), mk u (tkM v) g))) {x : AV} : EV k 51 [(0, vR (some 0)), (1, vI (v.1 25)), (2, x)] [] (mk u (tkA v) g) 0 0 := by
  have i18 := I.s18
  have i0 := I.s0
  have i19 := I.s19
  have i25 := I.s25
  have hb1 := hb.1
  have hb2 := hb.2.1
  have JA := tkA_I I hb2
  have e19 : (tkA v).1 19 = v.1 19 := tkA_S (by decide) (by decide)
  have e0 : (tkA v).1 0 = v.1 0 := tkA_S (by decide) (by decide)
  have e25 := tkA_25 (v := v)
  have JB := MI_tkB JA (by omega)
  refine ev_s C dX7_ticks_51 (q := 52) rfl rfl ?_
  refine ev_s C dX7_ticks_52 (q := 53) rfl rfl ?_
  refine mg_19 C dX7_ticks_53 (q := 56) rfl ?_
  refine ev_s C dX7_ticks_56 (q := 57) rfl rfl ?_
  refine ev_s C dX7_ticks_57 (q := 58) rfl rfl ?_
  refine mp_19 C dX7_ticks_58 (q := 61) rfl ?_
  refine ev_s C dX7_ticks_61 (q := 62) rfl rfl ?_
  refine mg_20 C dX7_ticks_62 (q := 65) rfl ?_
  refine ev_s C dX7_ticks_65 (q := 66) rfl rfl ?_
  refine mg_19 C dX7_ticks_66 (q := 69) rfl ?_
  refine ev_s C dX7_ticks_69 (q := 70) rfl rfl ?_
  refine ev_irem C dX7_ticks_70 (q := 71) rfl (by show rg ((tkA v).1 19 + 1); unfold rg; omega) (by unfold rg; decide) (by show 0 ≤ (tkA v).1 19 + 1; omega) (by decide) ?_
  refine ev_s C dX7_ticks_71 (q := 72) rfl rfl ?_
  refine ms_20 C dX7_ticks_72 (q := 73) rfl (by omega) ?_
  refine ev_s C dX7_ticks_73 (q := 74) rfl rfl ?_
  refine ev_s C dX7_ticks_74 (q := 75) rfl rfl ?_
  have e6 : ∀ j, (tkB (tkA v)).2 6 j = v.2 6 j := fun j => by
    show (stA _ 20 _ 0).2 6 j = _
    rw [stA_2, if_neg (by decide)]
    show (tkA v).2 6 j = _
    rw [tkA_A (by decide) (by decide) (by decide) (by decide) (by decide) (by decide) (by decide)]
  refine l_X7_ticks2 C hlv (N := (v.1 0).toNat) (by omega) ((v.1 0).toNat - 0 + 1) 0 (tkB (tkA v)) rfl (Nat.zero_le _) (by show (tkA v).1 0 = _; omega) JB (fun j _ => by rw [e6]; have := hb.2.2 j; omega) ?_
  have et : (stl ((v.1 0).toNat - 0) 0 (tkB (tkA v))) = tkM v := by rw [Nat.sub_zero]; rfl
  rw [et]
  have er : (tkM v).1 25 = (tkA v).1 25 := by show (stl _ _ _).1 25 = _; rw [stl_S]; rfl
  refine ev_s C dX7_ticks_157 (q := 158) rfl rfl ?_
  refine mg_25 C dX7_ticks_158 (q := 161) rfl ?_
  refine ev_s C dX7_ticks_161 (q := 162) rfl rfl ?_
  refine ev_s C dX7_ticks_162 (q := 163) rfl rfl ?_
  exact ev_iret C hr dX7_ticks_163 (Nat.zero_le _) (Nat.zero_le _) (po_1 hPo rfl rfl)
set_option maxHeartbeats 4000000 in
set_option maxRecDepth 100000 in
theorem c_X7_ticks {u v : SS} {g : GH} (I : MI v) (hb : BG v 1) : Cn yX7_ticks (wsy yX7_ticks cX7_ticks 3 (some .int)) 3 0 0 nn [vR (some 0)] (mk u v g) (.inl (some (vI ((tkM v).1 25 - v.1 25)), mk u (tkM v) g)) := by
  refine con_j (lv := [(0, vR (some 0))]) (by decide) (fun ad => Nat.le_of_ble_eq_true rfl) (fun ad => rfl) rfl ?_
  intro k C hr hlv hmc hms hPo hPx htab
  have i18 := I.s18
  have i0 := I.s0
  have i25 := I.s25
  have iw := wst_bd v (v.1 0).toNat
  have a0 := I.a20 0
  have a1 := I.a20 1
  have a2 := I.a20 2
  have a3 := I.a20 3
  have ep : 0 ≤ prs v ∧ prs v ≤ 4000000 := by unfold prs; omega
  refine ev_s C dX7_ticks_0 (q := 1) rfl rfl ?_
  refine mg_25 C dX7_ticks_1 (q := 4) rfl ?_
  refine ev_s C dX7_ticks_4 (q := 5) rfl rfl ?_
  refine ev_s C dX7_ticks_5 (q := 6) rfl rfl ?_
  refine ev_cV C dX7_ticks_6 (q := 9) rfl km_X7_156 kv_X7_pressing kc_X7_pressing (c_X7_pressing I) rfl rfl vcX7 go_0 (by rw [hlv]; first | decide | omega) (by decide) (Nat.le_of_ble_eq_true rfl) (Nat.zero_le _) (Nat.zero_le _) ?_
  refine ev_s C dX7_ticks_9 (q := 10) rfl rfl ?_
  refine mg_18 C dX7_ticks_10 (q := 13) rfl ?_
  refine ev_icmp_le C dX7_ticks_13 (tgt := 51) (q := 16) (by decide) rfl (by first | decide | (unfold rg; omega) | assumption | exact bAnd_rg _ _) (by first | decide | (unfold rg; omega) | assumption | exact bAnd_rg _ _) (fun b0 => ?_) (fun b0 => ?_)
  · refine ev_eq (G := mk u (tkA v) g) (by unfold tkA; rw [if_neg (show ¬ v.1 18 < prs v by omega)]) ?_
    exact l_X7_ticks3a C hlv I hb hr hPo
  · refine ev_s C dX7_ticks_16 (q := 17) rfl rfl ?_
    refine ev_cV C dX7_ticks_17 (q := 20) rfl km_X7_159 kv_X7_worst kc_X7_worst (c_X7_worst I) rfl rfl vcX7 go_0 (by rw [hlv]; first | decide | omega) (by decide) (Nat.le_of_ble_eq_true rfl) (Nat.zero_le _) (Nat.zero_le _) ?_
    refine ev_if_lt C dX7_ticks_20 (tgt := 31) (q := 23) (by decide) rfl (by first | decide | (unfold rg; omega) | assumption | exact bAnd_rg _ _) (fun b1 => ?_) (fun b1 => ?_)
    · refine ev_s C dX7_ticks_31 (q := 32) rfl rfl ?_
      refine ev_s C dX7_ticks_32 (q := 33) rfl rfl ?_
      refine ev_eq (G := mk u (zr 0 (if 0 ≤ wst v (v.1 0).toNat then kM v (wst v (v.1 0).toNat) else v)) g) (by first | (rw [if_pos (by omega)]; rfl) | (rw [if_neg (by omega)]; rfl)) ?_
      refine l_X7_ticks1 C 5 0 (by decide) (by decide) ?_
      refine ev_eq (G := mk u (tkA v) g) (by unfold tkA; rw [if_pos (show v.1 18 < prs v by omega)]) ?_
      exact l_X7_ticks3b C hlv I hb hr hPo
    · refine ev_s C dX7_ticks_23 (q := 24) rfl rfl ?_
      refine ev_s C dX7_ticks_24 (q := 25) rfl rfl ?_
      refine ev_cV C dX7_ticks_25 (q := 28) rfl km_X7_159 kv_X7_worst kc_X7_worst (c_X7_worst I) rfl rfl vcX7 go_0 (by rw [hlv]; first | decide | omega) (by decide) (Nat.le_of_ble_eq_true rfl) (Nat.zero_le _) (Nat.zero_le _) ?_
      refine ev_cV C dX7_ticks_28 (q := 31) rfl km_X7_162 kv_X7_kills kc_X7_kills (c_X7_kills I (by have := wst_bd v (v.1 0).toNat; omega) (by have := hb.2.1; omega)) rfl rfl vcX7 go_0 (by rw [hlv]; first | decide | omega) (by decide) (Nat.le_of_ble_eq_true rfl) (Nat.zero_le _) (Nat.zero_le _) ?_
      refine ev_s C dX7_ticks_31 (q := 32) rfl rfl ?_
      refine ev_s C dX7_ticks_32 (q := 33) rfl rfl ?_
      refine ev_eq (G := mk u (zr 0 (if 0 ≤ wst v (v.1 0).toNat then kM v (wst v (v.1 0).toNat) else v)) g) (by first | (rw [if_pos (by omega)]; rfl) | (rw [if_neg (by omega)]; rfl)) ?_
      refine l_X7_ticks1 C 5 0 (by decide) (by decide) ?_
      refine ev_eq (G := mk u (tkA v) g) (by unfold tkA; rw [if_pos (show v.1 18 < prs v by omega)]) ?_
      exact l_X7_ticks3b C hlv I hb hr hPo
def tki (v : SS) : Nat → SS
  | 0 => v
  | n + 1 => tkM (tki v n)
theorem tki_I {v : SS} (I : MI v) : ∀ (n : Nat) (b : Int), 0 ≤ b → BG v (b + n) → MI (tki v n) ∧ BG (tki v n) b
  | 0, b, _, h => ⟨I, by rw [show b + ((0 : Nat) : Int) = b by omega] at h; exact h⟩
  | n + 1, b, h0, h => by
    have := tki_I I n (b + 1) (by omega) (by rw [show b + 1 + (n : Int) = b + ((n + 1 : Nat) : Int) by omega]; exact h)
    exact tkM_I this.1 this.2 h0
theorem tkM_25 {v : SS} : v.1 25 ≤ (tkM v).1 25 ∧ (tkM v).1 25 ≤ v.1 25 + 1 := by
  have := tkA_25 (v := v)
  have e : (tkM v).1 25 = (tkA v).1 25 := by show (stl _ _ _).1 25 = _; rw [stl_S]; rfl
  omega
theorem tki_25 {v : SS} : ∀ n : Nat, v.1 25 ≤ (tki v n).1 25 ∧ (tki v n).1 25 ≤ v.1 25 + n
  | 0 => by unfold tki; omega
  | n + 1 => by
    have := tki_25 (v := v) n
    have := tkM_25 (v := tki v n)
    unfold tki
    omega
set_option maxHeartbeats 4000000 in
set_option maxRecDepth 100000 in
theorem c_X7_tick_x {u v : SS} {g : GH} (I : MI v) {x : Int} (hx : rg x) (h : inB x 1 50 = false) : Cn yX7_tick (wsy yX7_tick cX7_tick 4 (some .int)) 6 0 0 nn [vR (some 0), vI x] (mk u v g) (.inl (some (vI 0), mk u (stS v 26 1) g)) := by
  refine con_j (lv := [(0, vR (some 0)), (1, vI x)]) (by decide) (fun ad => Nat.le_of_ble_eq_true rfl) (fun ad => rfl) rfl ?_
  intro k C hr hlv hmc hms hPo hPx htab
  refine ev_s C dX7_tick_0 (q := 1) rfl rfl ?_
  refine ev_s C dX7_tick_1 (q := 2) rfl rfl ?_
  refine ev_s C dX7_tick_2 (q := 3) rfl rfl ?_
  refine ev_s C dX7_tick_3 (q := 5) rfl rfl ?_
  refine ev_cS C dX7_tick_5 (q := 8) rfl km_X7_71 ks_X7_in kc_X7_in (c_X7_in (by first | decide | (unfold rg; omega) | assumption | exact bAnd_rg _ _) (by first | decide | (unfold rg; omega) | assumption | exact bAnd_rg _ _) (by first | decide | (unfold rg; omega) | assumption | exact bAnd_rg _ _)) rfl rfl (by rw [hlv]; first | decide | omega) (by decide) (Nat.le_of_ble_eq_true rfl) (Nat.zero_le _) (Nat.zero_le _) ?_
  refine ev_ifB_eq C dX7_tick_8 (tgt := 15) (q := 11) (by decide) rfl (fun b0 => ?_) (fun b0 => ?_)
  · refine ev_s C dX7_tick_15 (q := 16) rfl rfl ?_
    refine ev_cV C dX7_tick_16 (q := 19) rfl km_X7_79 kv_X7_fails kc_X7_fails (c_X7_fails (by first | decide | (unfold rg; omega) | assumption | exact bAnd_rg _ _)) rfl rfl vcX7 go_0 (by rw [hlv]; first | decide | omega) (by decide) (Nat.le_of_ble_eq_true rfl) (Nat.zero_le _) (Nat.zero_le _) ?_
    refine ev_ifB_eq C dX7_tick_19 (tgt := 24) (q := 22) (by decide) rfl (fun b1 => ?_) (fun b1 => ?_)
    · exact absurd b1 (by decide)
    · refine ev_s C dX7_tick_22 (q := 23) rfl rfl ?_
      exact ev_iret C hr dX7_tick_23 (Nat.zero_le _) (Nat.zero_le _) (po_1 hPo (by first | rfl | simp [*]) rfl)
  · exact absurd (h.symm.trans b0) (by decide)
set_option maxHeartbeats 4000000 in
set_option maxRecDepth 100000 in
theorem l_X7_tick {k : Kx} (C : CX k RX7 cX7_tick 4) (hlv : klev k = 4) {u v : SS} {g : GH} (I : MI v) {N : Nat} (hN : N ≤ 50) (hb : BG v 51) (hr : (kmeth k).sig.returnType = some .int) (hPo : kPo k = PoR (.inl (some (vI ((tki v N).1 25 - v.1 25)), mk u (tki v N) g))) : ∀ (m z : Nat) (a : Int), z ≤ N → N < z + m → a = (tki v z).1 25 - v.1 25 → EV k 28 [(0, vR (some 0)), (1, vI (N : Int)), (2, vI a), (3, vI (z : Int))] [] (mk u (tki v z) g) 0 0 := by
  intro m
  induction m with
  | zero =>
    intros
    exfalso
    omega
  | succ m ih =>
    intro z a h1 h2 ea
    have i25 := I.s25
    have e1 := tki_25 (v := v) z
    have J := tki_I I z 1 (by decide) (by obtain ⟨q1, q2, q3⟩ := hb; refine ⟨by omega, by omega, fun j => ?_⟩; have := q3 j; omega)
    have e2 := tkM_25 (v := tki v z)
    refine ev_s C dX7_tick_28 (q := 29) rfl rfl ?_
    refine ev_s C dX7_tick_29 (q := 30) rfl rfl ?_
    refine ev_icmp_ge C dX7_tick_30 (tgt := 46) (q := 33) (by decide) rfl (by first | decide | (unfold rg; omega) | assumption | exact bAnd_rg _ _) (by first | decide | (unfold rg; omega) | assumption | exact bAnd_rg _ _) (fun b0 => ?_) (fun b0 => ?_)
    · refine ev_s C dX7_tick_46 (q := 47) rfl rfl ?_
      exact ev_iret C hr dX7_tick_47 (Nat.zero_le _) (Nat.zero_le _) (po_1 hPo (by (obtain rfl : z = N := (by omega)); rw [ea]) (by (obtain rfl : z = N := (by omega)); rfl))
    · refine ev_s C dX7_tick_33 (q := 34) rfl rfl ?_
      refine ev_s C dX7_tick_34 (q := 35) rfl rfl ?_
      refine ev_cV C dX7_tick_35 (q := 38) rfl km_X7_168 kv_X7_ticks kc_X7_ticks (c_X7_ticks J.1 J.2) rfl rfl vcX7 go_0 (by rw [hlv]; first | decide | omega) (by decide) (Nat.le_of_ble_eq_true rfl) (Nat.zero_le _) (Nat.zero_le _) ?_
      refine ev_s C dX7_tick_38 (q := 39) rfl rfl ?_
      refine ev_s C dX7_tick_39 (q := 40) rfl rfl ?_
      refine ev_s C dX7_tick_40 (q := 43) rfl rfl ?_
      refine ev_goto C dX7_tick_43 (tgt := 28) (by decide) ?_
      exact ih (z + 1) _ (by omega) (by omega) (by show _ = (tkM (tki v z)).1 25 - v.1 25; omega)
set_option maxHeartbeats 4000000 in
set_option maxRecDepth 100000 in
theorem c_X7_tick {u v : SS} {g : GH} (I : MI v) {x : Int} (hx : 1 ≤ x ∧ x ≤ 50) (hb : BG v 51) : Cn yX7_tick (wsy yX7_tick cX7_tick 4 (some .int)) 4 0 0 nn [vR (some 0), vI x] (mk u v g) (.inl (some (vI ((tki (stS v 26 0) x.toNat).1 25 - v.1 25)), mk u (tki (stS v 26 0) x.toNat) g)) := by
  refine con_j (lv := [(0, vR (some 0)), (1, vI x)]) (by decide) (fun ad => Nat.le_of_ble_eq_true rfl) (fun ad => rfl) rfl ?_
  intro k C hr hlv hmc hms hPo hPx htab
  refine ev_s C dX7_tick_0 (q := 1) rfl rfl ?_
  refine ev_s C dX7_tick_1 (q := 2) rfl rfl ?_
  refine ev_s C dX7_tick_2 (q := 3) rfl rfl ?_
  refine ev_s C dX7_tick_3 (q := 5) rfl rfl ?_
  refine ev_cS C dX7_tick_5 (q := 8) rfl km_X7_71 ks_X7_in kc_X7_in (c_X7_in (by first | decide | (unfold rg; omega) | assumption | exact bAnd_rg _ _) (by first | decide | (unfold rg; omega) | assumption | exact bAnd_rg _ _) (by first | decide | (unfold rg; omega) | assumption | exact bAnd_rg _ _)) rfl rfl (by rw [hlv]; first | decide | omega) (by decide) (Nat.le_of_ble_eq_true rfl) (Nat.zero_le _) (Nat.zero_le _) ?_
  refine ev_ifB_eq C dX7_tick_8 (tgt := 15) (q := 11) (by decide) rfl (fun b0 => ?_) (fun b0 => ?_)
  · exact absurd b0 (by unfold inB; simp; omega)
  · refine ev_s C dX7_tick_11 (q := 12) rfl rfl ?_
    refine ev_goto C dX7_tick_12 (tgt := 16) (by decide) ?_
    refine ev_cV C dX7_tick_16 (q := 19) rfl km_X7_79 kv_X7_fails kc_X7_fails (c_X7_fails (by first | decide | (unfold rg; omega) | assumption | exact bAnd_rg _ _)) rfl rfl vcX7 go_0 (by rw [hlv]; first | decide | omega) (by decide) (Nat.le_of_ble_eq_true rfl) (Nat.zero_le _) (Nat.zero_le _) ?_
    refine ev_ifB_eq C dX7_tick_19 (tgt := 24) (q := 22) (by decide) rfl (fun b1 => ?_) (fun b1 => ?_)
    · refine ev_s C dX7_tick_24 (q := 25) rfl rfl ?_
      refine ev_s C dX7_tick_25 (q := 26) rfl rfl ?_
      refine ev_s C dX7_tick_26 (q := 27) rfl rfl ?_
      refine ev_s C dX7_tick_27 (q := 28) rfl rfl ?_
      have hxx : x = (x.toNat : Int) := by omega
      refine ev_eqL (lv := [(0, vR (some 0)), (1, vI ((x.toNat : Nat) : Int)), (2, vI 0), (3, vI ((0 : Nat) : Int))]) (by rw [← hxx]; rfl) ?_
      refine ev_eq (G := mk u (tki (stS v 26 0) 0) g) rfl ?_
      exact l_X7_tick C hlv (v := stS v 26 0) (MI_S I (by decide)) (N := x.toNat) (by omega) hb hr hPo (x.toNat + 1) 0 0 (Nat.zero_le _) (by omega) (by show (0 : Int) = v.1 25 - v.1 25; omega)
    · exact absurd b1 (by decide)
