/-! THE MODEL: questions -/
theorem bAnd_rg (x y : Int) : rg (bAnd x y) := by
  unfold rg bAnd
  have h1 := Int32.le_toInt (iI x &&& iI y)
  have h2 := Int32.toInt_lt (iI x &&& iI y)
  omega
def anyN (n : Nat) (p : Nat → Bool) : Bool := match n with
  | 0 => false
  | n + 1 => anyN n p || p n
theorem anyN_t {p : Nat → Bool} {z : Nat} : ∀ {N : Nat}, z < N → p z = true → anyN N p = true
  | 0, h, _ => absurd h (Nat.not_lt_zero _)
  | N + 1, h, hp => by
    unfold anyN
    by_cases e : z = N
    · subst e; rw [hp, Bool.or_true]
    · rw [anyN_t (by omega) hp, Bool.true_or]
theorem anyN_s {p : Nat → Bool} {z : Nat} (h : anyN z p = false) (hp : p z = false) : anyN (z + 1) p = false := by
  unfold anyN
  rw [h, hp]
  rfl
theorem anyN_f {p : Nat → Bool} : ∀ {N : Nat}, anyN N p = false → ∀ z, z < N → p z = false
  | 0, _, z, h => absurd h (Nat.not_lt_zero _)
  | N + 1, h, z, hz => by
    unfold anyN at h
    rw [Bool.or_eq_false_iff] at h
    by_cases e : z = N
    · subst e; exact h.2
    · exact anyN_f h.1 z (by omega)
theorem anyN_0 {p : Nat → Bool} : ∀ {N : Nat}, (∀ z, z < N → p z = false) → anyN N p = false
  | 0, _ => rfl
  | N + 1, h => by
    unfold anyN
    rw [anyN_0 (fun z hz => h z (by omega)), h N (by omega)]
    rfl
theorem anyN_e {p : Nat → Bool} : ∀ {N : Nat}, anyN N p = true → ∃ z, z < N ∧ p z = true
  | 0, h => by cases h
  | N + 1, h => by
    unfold anyN at h
    rcases Bool.or_eq_true_iff.mp h with h | h
    · obtain ⟨z, h1, h2⟩ := anyN_e h
      exact ⟨z, by omega, h2⟩
    · exact ⟨N, by omega, h⟩
theorem anyN_c {p q : Nat → Bool} : ∀ {N : Nat}, (∀ z, z < N → p z = q z) → anyN N p = anyN N q
  | 0, _ => rfl
  | N + 1, h => by
    unfold anyN
    rw [anyN_c (fun z hz => h z (by omega)), h N (by omega)]
/-- the first place of p below n, or -1 -/
def fnd (p : Nat → Bool) (n : Nat) : Int := match n with
  | 0 => -1
  | n + 1 => if 0 ≤ fnd p n then fnd p n else if p n then (n : Int) else -1
theorem fnd_none {p : Nat → Bool} : ∀ {N : Nat}, (∀ j, j < N → p j = false) → fnd p N = -1
  | 0, _ => rfl
  | N + 1, h => by
    unfold fnd
    rw [fnd_none (fun j hj => h j (by omega)), h N (by omega)]
    rfl
theorem fnd_hit {p : Nat → Bool} {z : Nat} (h0 : ∀ j, j < z → p j = false) (hp : p z = true) : ∀ {N : Nat}, z < N → fnd p N = z
  | 0, h => absurd h (Nat.not_lt_zero _)
  | N + 1, h => by
    unfold fnd
    by_cases e : z = N
    · subst e
      rw [fnd_none h0, hp]
      simp
    · rw [fnd_hit h0 hp (by omega)]
      rw [if_pos (by omega)]
theorem fnd_bd {p : Nat → Bool} : ∀ (N : Nat), -1 ≤ fnd p N ∧ fnd p N < N
  | 0 => by unfold fnd; omega
  | N + 1 => by
    have := fnd_bd (p := p) N
    unfold fnd
    split
    · omega
    · split <;> omega
theorem fnd_at {p : Nat → Bool} : ∀ {N : Nat}, 0 ≤ fnd p N → p (fnd p N).toNat = true
  | 0, h => by unfold fnd at h; omega
  | N + 1, h => by
    unfold fnd at h ⊢
    by_cases h1 : 0 ≤ fnd p N
    · rw [if_pos h1]; exact fnd_at h1
    · rw [if_neg h1] at h ⊢
      by_cases h2 : p N = true
      · rw [if_pos h2]; exact h2
      · rw [if_neg h2] at h; omega
theorem fnd_all {p : Nat → Bool} : ∀ {N : Nat}, fnd p N < 0 → ∀ j, j < N → p j = false
  | 0, _, j, hj => absurd hj (Nat.not_lt_zero _)
  | N + 1, h, j, hj => by
    unfold fnd at h
    by_cases h1 : 0 ≤ fnd p N
    · rw [if_pos h1] at h; omega
    · rw [if_neg h1] at h
      by_cases h2 : p N = true
      · rw [if_pos h2] at h; omega
      · by_cases e : j = N
        · subst e; simpa using h2
        · exact fnd_all (N := N) (by omega) j (by omega)
theorem fnd_c {p q : Nat → Bool} : ∀ {N : Nat}, (∀ z, z < N → p z = q z) → fnd p N = fnd q N
  | 0, _ => rfl
  | N + 1, h => by
    unfold fnd
    rw [fnd_c (fun z hz => h z (by omega)), h N (by omega)]
theorem sumN_c {p q : Nat → Int} : ∀ {N : Nat}, (∀ z, z < N → p z = q z) → sumN N p = sumN N q
  | 0, _ => rfl
  | N + 1, h => by
    unfold sumN
    rw [sumN_c (fun z hz => h z (by omega)), h N (by omega)]
theorem sumN_bd {p : Nat → Int} {a b : Int} : ∀ {N : Nat}, (∀ z, z < N → a ≤ p z ∧ p z ≤ b) → a * N ≤ sumN N p ∧ sumN N p ≤ b * N
  | 0, _ => by unfold sumN; omega
  | N + 1, h => by
    have h1 := sumN_bd (N := N) (fun z hz => h z (by omega))
    have h2 := h N (by omega)
    unfold sumN
    have e1 : a * ((N + 1 : Nat) : Int) = a * N + a := by rw [Int.natCast_add, Int.mul_add]; omega
    have e2 : b * ((N + 1 : Nat) : Int) = b * N + b := by rw [Int.natCast_add, Int.mul_add]; omega
    omega
def nonB (v : SS) (s : Int) : Bool := !inB s 0 (v.1 0 - 1)
def noPg (v : SS) (s p : Int) : Bool := nonB v s || !inB p 0 7
def ndX (x : Int) (j : Int) : Bool := decide (bAnd (bShr x j) 1 = 1)
def ndB (v : SS) (i j : Int) : Bool := ndX (v.2 7 i.toNat) j
theorem nonB_f {v : SS} {s : Int} (h : nonB v s = false) : 0 ≤ s ∧ s < v.1 0 := by
  unfold nonB inB at h
  simp at h
  omega
set_option maxHeartbeats 4000000 in
set_option maxRecDepth 100000 in
theorem c_X7_isNone {u v : SS} {g : GH} (I : MI v) {s : Int} (hs : rg s) : Cn yX7_isNone (wsy yX7_isNone cX7_isNone 2 (some .boolean)) 1 0 0 nn [vR (some 0), vI s] (mk u v g) (.inl (some (vI (bI (nonB v s))), mk u v g)) := by
  refine con_j (lv := [(0, vR (some 0)), (1, vI s)]) (by decide) (fun ad => Nat.le_of_ble_eq_true rfl) (fun ad => rfl) rfl ?_
  intro k C hr hlv hmc hms hPo hPx htab
  have i0 := I.s0
  refine ev_s C dX7_isNone_0 (q := 1) rfl rfl ?_
  refine ev_s C dX7_isNone_1 (q := 2) rfl rfl ?_
  refine ev_s C dX7_isNone_2 (q := 3) rfl rfl ?_
  refine mg_0 C dX7_isNone_3 (q := 6) rfl ?_
  refine ev_s C dX7_isNone_6 (q := 7) rfl rfl ?_
  refine ev_s C dX7_isNone_7 (q := 8) rfl rfl ?_
  refine ev_cS C dX7_isNone_8 (q := 11) rfl km_X7_71 ks_X7_in kc_X7_in (c_X7_in (by first | decide | (unfold rg; omega) | assumption | exact bAnd_rg _ _) (by first | decide | (unfold rg; omega) | assumption | exact bAnd_rg _ _) (by first | decide | (unfold rg; omega) | assumption | exact bAnd_rg _ _)) rfl rfl (by rw [hlv]; decide) (by decide) (Nat.le_of_ble_eq_true rfl) (Nat.zero_le _) (Nat.zero_le _) ?_
  refine ev_ifB_ne C dX7_isNone_11 (tgt := 18) (q := 14) (by decide) rfl (fun b0 => ?_) (fun b0 => ?_)
  · refine ev_s C dX7_isNone_18 (q := 19) rfl rfl ?_
    exact ev_zret C hr (fit_Z (by first | decide | exact bI_01 _ | assumption)) dX7_isNone_19 (Nat.zero_le _) (Nat.zero_le _) (po_1 hPo (by simp [nonB, bI, *]) rfl)
  · refine ev_s C dX7_isNone_14 (q := 15) rfl rfl ?_
    refine ev_goto C dX7_isNone_15 (tgt := 19) (by decide) ?_
    exact ev_zret C hr (fit_Z (by first | decide | exact bI_01 _ | assumption)) dX7_isNone_19 (Nat.zero_le _) (Nat.zero_le _) (po_1 hPo (by simp [nonB, bI, *]) rfl)
set_option maxHeartbeats 4000000 in
set_option maxRecDepth 100000 in
theorem c_X7_isNoPage {u v : SS} {g : GH} (I : MI v) {s p : Int} (hs : rg s) (hp : rg p) : Cn yX7_isNoPage (wsy yX7_isNoPage cX7_isNoPage 3 (some .boolean)) 2 0 0 nn [vR (some 0), vI s, vI p] (mk u v g) (.inl (some (vI (bI (noPg v s p))), mk u (stS v 26 (bI (noPg v s p))) g)) := by
  refine con_j (lv := [(0, vR (some 0)), (1, vI s), (2, vI p)]) (by decide) (fun ad => Nat.le_of_ble_eq_true rfl) (fun ad => rfl) rfl ?_
  intro k C hr hlv hmc hms hPo hPx htab
  have i0 := I.s0
  refine ev_s C dX7_isNoPage_0 (q := 1) rfl rfl ?_
  refine ev_s C dX7_isNoPage_1 (q := 2) rfl rfl ?_
  refine ev_s C dX7_isNoPage_2 (q := 3) rfl rfl ?_
  refine ev_cV C dX7_isNoPage_3 (q := 6) rfl km_X7_75 kv_X7_isNone kc_X7_isNone (c_X7_isNone I (by first | decide | (unfold rg; omega) | assumption | exact bAnd_rg _ _)) rfl rfl vcX7 go_0 (by rw [hlv]; decide) (by decide) (Nat.le_of_ble_eq_true rfl) (Nat.zero_le _) (Nat.zero_le _) ?_
  refine ev_ifB_ne C dX7_isNoPage_6 (tgt := 19) (q := 9) (by decide) rfl (fun b0 => ?_) (fun b0 => ?_)
  · refine ev_s C dX7_isNoPage_19 (q := 20) rfl rfl ?_
    refine ev_goto C dX7_isNoPage_20 (tgt := 24) (by decide) ?_
    refine ev_cV C dX7_isNoPage_24 (q := 27) rfl km_X7_79 kv_X7_fails kc_X7_fails (c_X7_fails (by first | decide | (unfold rg; omega) | assumption | exact bAnd_rg _ _)) rfl rfl vcX7 go_0 (by rw [hlv]; decide) (by decide) (Nat.le_of_ble_eq_true rfl) (Nat.zero_le _) (Nat.zero_le _) ?_
    exact ev_zret C hr (fit_Z (by first | decide | exact bI_01 _ | assumption)) dX7_isNoPage_27 (Nat.zero_le _) (Nat.zero_le _) (po_1 hPo (by simp [noPg, bI, *]) (by simp [noPg, bI, *]))
  · refine ev_s C dX7_isNoPage_9 (q := 10) rfl rfl ?_
    refine ev_s C dX7_isNoPage_10 (q := 11) rfl rfl ?_
    refine ev_s C dX7_isNoPage_11 (q := 13) rfl rfl ?_
    refine ev_cS C dX7_isNoPage_13 (q := 16) rfl km_X7_71 ks_X7_in kc_X7_in (c_X7_in (by first | decide | (unfold rg; omega) | assumption | exact bAnd_rg _ _) (by first | decide | (unfold rg; omega) | assumption | exact bAnd_rg _ _) (by first | decide | (unfold rg; omega) | assumption | exact bAnd_rg _ _)) rfl rfl (by rw [hlv]; decide) (by decide) (Nat.le_of_ble_eq_true rfl) (Nat.zero_le _) (Nat.zero_le _) ?_
    refine ev_ifB_ne C dX7_isNoPage_16 (tgt := 23) (q := 19) (by decide) rfl (fun b1 => ?_) (fun b1 => ?_)
    · refine ev_s C dX7_isNoPage_23 (q := 24) rfl rfl ?_
      refine ev_cV C dX7_isNoPage_24 (q := 27) rfl km_X7_79 kv_X7_fails kc_X7_fails (c_X7_fails (by first | decide | (unfold rg; omega) | assumption | exact bAnd_rg _ _)) rfl rfl vcX7 go_0 (by rw [hlv]; decide) (by decide) (Nat.le_of_ble_eq_true rfl) (Nat.zero_le _) (Nat.zero_le _) ?_
      exact ev_zret C hr (fit_Z (by first | decide | exact bI_01 _ | assumption)) dX7_isNoPage_27 (Nat.zero_le _) (Nat.zero_le _) (po_1 hPo (by simp [noPg, bI, *]) (by simp [noPg, bI, *]))
    · refine ev_s C dX7_isNoPage_19 (q := 20) rfl rfl ?_
      refine ev_goto C dX7_isNoPage_20 (tgt := 24) (by decide) ?_
      refine ev_cV C dX7_isNoPage_24 (q := 27) rfl km_X7_79 kv_X7_fails kc_X7_fails (c_X7_fails (by first | decide | (unfold rg; omega) | assumption | exact bAnd_rg _ _)) rfl rfl vcX7 go_0 (by rw [hlv]; decide) (by decide) (Nat.le_of_ble_eq_true rfl) (Nat.zero_le _) (Nat.zero_le _) ?_
      exact ev_zret C hr (fit_Z (by first | decide | exact bI_01 _ | assumption)) dX7_isNoPage_27 (Nat.zero_le _) (Nat.zero_le _) (po_1 hPo (by simp [noPg, bI, *]) (by simp [noPg, bI, *]))
set_option maxHeartbeats 4000000 in
set_option maxRecDepth 100000 in
theorem c_X7_isNobody {u v : SS} {g : GH} (I : MI v) {s : Int} (hs : rg s) : Cn yX7_isNobody (wsy yX7_isNobody cX7_isNobody 2 (some .boolean)) 2 0 0 nn [vR (some 0), vI s] (mk u v g) (.inl (some (vI (bI (nonB v s))), mk u (stS v 26 (bI (nonB v s))) g)) := by
  refine con_j (lv := [(0, vR (some 0)), (1, vI s)]) (by decide) (fun ad => Nat.le_of_ble_eq_true rfl) (fun ad => rfl) rfl ?_
  intro k C hr hlv hmc hms hPo hPx htab
  have i0 := I.s0
  refine ev_s C dX7_isNobody_0 (q := 1) rfl rfl ?_
  refine ev_s C dX7_isNobody_1 (q := 2) rfl rfl ?_
  refine ev_s C dX7_isNobody_2 (q := 3) rfl rfl ?_
  refine ev_cV C dX7_isNobody_3 (q := 6) rfl km_X7_75 kv_X7_isNone kc_X7_isNone (c_X7_isNone I (by first | decide | (unfold rg; omega) | assumption | exact bAnd_rg _ _)) rfl rfl vcX7 go_0 (by rw [hlv]; decide) (by decide) (Nat.le_of_ble_eq_true rfl) (Nat.zero_le _) (Nat.zero_le _) ?_
  refine ev_ifB_eq C dX7_isNobody_6 (tgt := 13) (q := 9) (by decide) rfl (fun b0 => ?_) (fun b0 => ?_)
  · refine ev_s C dX7_isNobody_13 (q := 14) rfl rfl ?_
    refine ev_cV C dX7_isNobody_14 (q := 17) rfl km_X7_79 kv_X7_fails kc_X7_fails (c_X7_fails (by first | decide | (unfold rg; omega) | assumption | exact bAnd_rg _ _)) rfl rfl vcX7 go_0 (by rw [hlv]; decide) (by decide) (Nat.le_of_ble_eq_true rfl) (Nat.zero_le _) (Nat.zero_le _) ?_
    exact ev_zret C hr (fit_Z (by first | decide | exact bI_01 _ | assumption)) dX7_isNobody_17 (Nat.zero_le _) (Nat.zero_le _) (po_1 hPo (by simp [bI, *]) (by simp [bI, *]))
  · refine ev_s C dX7_isNobody_9 (q := 10) rfl rfl ?_
    refine ev_goto C dX7_isNobody_10 (tgt := 14) (by decide) ?_
    refine ev_cV C dX7_isNobody_14 (q := 17) rfl km_X7_79 kv_X7_fails kc_X7_fails (c_X7_fails (by first | decide | (unfold rg; omega) | assumption | exact bAnd_rg _ _)) rfl rfl vcX7 go_0 (by rw [hlv]; decide) (by decide) (Nat.le_of_ble_eq_true rfl) (Nat.zero_le _) (Nat.zero_le _) ?_
    exact ev_zret C hr (fit_Z (by first | decide | exact bI_01 _ | assumption)) dX7_isNobody_17 (Nat.zero_le _) (Nat.zero_le _) (po_1 hPo (by simp [bI, *]) (by simp [bI, *]))
set_option maxHeartbeats 4000000 in
set_option maxRecDepth 100000 in
theorem c_X7_needs {u v : SS} {g : GH} {i j : Int} (hi : 0 ≤ i ∧ i < 6) : Cn yX7_needs (wsy yX7_needs cX7_needs 3 (some .boolean)) 0 0 0 nn [vR (some 0), vI i, vI j] (mk u v g) (.inl (some (vI (bI (ndB v i j))), mk u v g)) := by
  refine con_j (lv := [(0, vR (some 0)), (1, vI i), (2, vI j)]) (by decide) (fun ad => Nat.le_of_ble_eq_true rfl) (fun ad => rfl) rfl ?_
  intro k C hr hlv hmc hms hPo hPx htab
  refine ev_s C dX7_needs_0 (q := 1) rfl rfl ?_
  refine mg_7 C dX7_needs_1 (q := 4) rfl ?_
  refine ev_s C dX7_needs_4 (q := 5) rfl rfl ?_
  refine ml_7 C dX7_needs_5 (q := 6) rfl (by omega) ?_
  refine ev_s C dX7_needs_6 (q := 7) rfl rfl ?_
  refine ev_s C dX7_needs_7 (q := 8) rfl rfl ?_
  refine ev_s C dX7_needs_8 (q := 9) rfl rfl ?_
  refine ev_s C dX7_needs_9 (q := 10) rfl rfl ?_
  refine ev_s C dX7_needs_10 (q := 11) rfl rfl ?_
  refine ev_icmp_ne C dX7_needs_11 (tgt := 18) (q := 14) (by decide) rfl (by first | decide | (unfold rg; omega) | assumption | exact bAnd_rg _ _) (by first | decide | (unfold rg; omega) | assumption | exact bAnd_rg _ _) (fun b0 => ?_) (fun b0 => ?_)
  · refine ev_s C dX7_needs_18 (q := 19) rfl rfl ?_
    exact ev_zret C hr (fit_Z (by first | decide | exact bI_01 _ | assumption)) dX7_needs_19 (Nat.zero_le _) (Nat.zero_le _) (po_1 hPo (by simp [ndB, ndX, bI, *]) rfl)
  · refine ev_s C dX7_needs_14 (q := 15) rfl rfl ?_
    refine ev_goto C dX7_needs_15 (tgt := 19) (by decide) ?_
    exact ev_zret C hr (fit_Z (by first | decide | exact bI_01 _ | assumption)) dX7_needs_19 (Nat.zero_le _) (Nat.zero_le _) (po_1 hPo (by simp [ndB, ndX, bI, *]) rfl)
def wtB (v : SS) (s : Int) (k : Nat) : Bool := decide (v.2 4 k = 0) && ndB v k s
set_option maxHeartbeats 4000000 in
set_option maxRecDepth 100000 in
theorem l_X7_isWanted {k : Kx} (C : CX k RX7 cX7_isWanted 3) (hlv : klev k = 1) {u v : SS} {g : GH} (I : MI v) {s : Int} {N : Nat} (hN : v.1 0 = (N : Int)) (hr : (kmeth k).sig.returnType = some .boolean) (hPo : kPo k = PoR (.inl (some (vI (bI (anyN N (wtB v s)))), mk u v g))) : ∀ (m z : Nat), z ≤ N → N < z + m → anyN z (wtB v s) = false → EV k 2 [(0, vR (some 0)), (1, vI s), (2, vI (z : Int))] [] (mk u v g) 0 0 := by
  intro m
  induction m with
  | zero =>
    intros
    exfalso
    omega
  | succ m ih =>
    intro z h1 h2 h3
    have i0 := I.s0
    have ia := I.a4 z
    refine ev_s C dX7_isWanted_2 (q := 3) rfl rfl ?_
    refine ev_s C dX7_isWanted_3 (q := 4) rfl rfl ?_
    refine mg_0 C dX7_isWanted_4 (q := 7) rfl ?_
    refine ev_icmp_ge C dX7_isWanted_7 (tgt := 36) (q := 10) (by decide) rfl (by first | decide | (unfold rg; omega) | assumption | exact bAnd_rg _ _) (by first | decide | (unfold rg; omega) | assumption | exact bAnd_rg _ _) (fun b0 => ?_) (fun b0 => ?_)
    · refine ev_s C dX7_isWanted_36 (q := 37) rfl rfl ?_
      exact ev_zret C hr (fit_Z (by first | decide | exact bI_01 _ | assumption)) dX7_isWanted_37 (Nat.zero_le _) (Nat.zero_le _) (po_1 hPo (by (obtain rfl : z = N := (by omega)); rw [h3]; rfl) rfl)
    · refine ev_s C dX7_isWanted_10 (q := 11) rfl rfl ?_
      refine mg_4 C dX7_isWanted_11 (q := 14) rfl ?_
      refine ev_s C dX7_isWanted_14 (q := 15) rfl rfl ?_
      refine ml_4 C dX7_isWanted_15 (q := 16) rfl (by omega) ?_
      show EV k 16 _ (vI (v.2 4 z) :: []) _ _ _
      refine ev_if_ne C dX7_isWanted_16 (tgt := 30) (q := 19) (by decide) rfl (by first | decide | (unfold rg; omega) | assumption | exact bAnd_rg _ _) (fun b1 => ?_) (fun b1 => ?_)
      · refine ev_s C dX7_isWanted_30 (q := 33) rfl rfl ?_
        refine ev_goto C dX7_isWanted_33 (tgt := 2) (by decide) ?_
        exact ih (z + 1) (by omega) (by omega) (anyN_s h3 (by unfold wtB; simp [*]))
      · refine ev_s C dX7_isWanted_19 (q := 20) rfl rfl ?_
        refine ev_s C dX7_isWanted_20 (q := 21) rfl rfl ?_
        refine ev_s C dX7_isWanted_21 (q := 22) rfl rfl ?_
        refine ev_cV C dX7_isWanted_22 (q := 25) rfl km_X7_82 kv_X7_needs kc_X7_needs (c_X7_needs (by omega)) rfl rfl vcX7 go_0 (by rw [hlv]; decide) (by decide) (Nat.le_of_ble_eq_true rfl) (Nat.zero_le _) (Nat.zero_le _) ?_
        refine ev_ifB_eq C dX7_isWanted_25 (tgt := 30) (q := 28) (by decide) rfl (fun b2 => ?_) (fun b2 => ?_)
        · refine ev_s C dX7_isWanted_30 (q := 33) rfl rfl ?_
          refine ev_goto C dX7_isWanted_33 (tgt := 2) (by decide) ?_
          exact ih (z + 1) (by omega) (by omega) (anyN_s h3 (by unfold wtB; simp [*]))
        · refine ev_s C dX7_isWanted_28 (q := 29) rfl rfl ?_
          exact ev_zret C hr (fit_Z (by first | decide | exact bI_01 _ | assumption)) dX7_isWanted_29 (Nat.zero_le _) (Nat.zero_le _) (po_1 hPo (by rw [anyN_t (z := z) (by omega) (by unfold wtB; simp [*])]; rfl) rfl)
set_option maxHeartbeats 4000000 in
set_option maxRecDepth 100000 in
theorem c_X7_isWanted {u v : SS} {g : GH} (I : MI v) {s : Int} : Cn yX7_isWanted (wsy yX7_isWanted cX7_isWanted 3 (some .boolean)) 1 0 0 nn [vR (some 0), vI s] (mk u v g) (.inl (some (vI (bI (anyN (v.1 0).toNat (wtB v s)))), mk u v g)) := by
  refine con_j (lv := [(0, vR (some 0)), (1, vI s)]) (by decide) (fun ad => Nat.le_of_ble_eq_true rfl) (fun ad => rfl) rfl ?_
  intro k C hr hlv hmc hms hPo hPx htab
  have i0 := I.s0
  refine ev_s C dX7_isWanted_0 (q := 1) rfl rfl ?_
  refine ev_s C dX7_isWanted_1 (q := 2) rfl rfl ?_
  exact l_X7_isWanted C hlv I (N := (v.1 0).toNat) (by omega) hr hPo ((v.1 0).toNat + 1) 0 (Nat.zero_le _) (by omega) rfl
def frB (v : SS) (f : Nat) : Bool := decide (v.2 12 f < 0)
def fwB (v : SS) (p : Int) (f : Nat) : Bool := decide (v.2 12 f = p)
set_option maxHeartbeats 4000000 in
set_option maxRecDepth 100000 in
theorem l_X7_freeFrame {k : Kx} (C : CX k RX7 cX7_freeFrame 2) {u v : SS} {g : GH} (I : MI v) {N : Nat} (hN : v.1 11 = (N : Int)) (hr : (kmeth k).sig.returnType = some .int) (hPo : kPo k = PoR (.inl (some (vI (fnd (frB v) N)), mk u v g))) : ∀ (m z : Nat), z ≤ N → N < z + m → (∀ j, j < z → (frB v) j = false) → EV k 2 [(0, vR (some 0)), (1, vI (z : Int))] [] (mk u v g) 0 0 := by
  intro m
  induction m with
  | zero =>
    intros
    exfalso
    omega
  | succ m ih =>
    intro z h1 h2 h3
    have i0 := I.s11
    have ia := I.a12 z
    refine ev_s C dX7_freeFrame_2 (q := 3) rfl rfl ?_
    refine ev_s C dX7_freeFrame_3 (q := 4) rfl rfl ?_
    refine mg_11 C dX7_freeFrame_4 (q := 7) rfl ?_
    refine ev_icmp_ge C dX7_freeFrame_7 (tgt := 27) (q := 10) (by decide) rfl (by first | decide | (unfold rg; omega) | assumption | exact bAnd_rg _ _) (by first | decide | (unfold rg; omega) | assumption | exact bAnd_rg _ _) (fun b0 => ?_) (fun b0 => ?_)
    · refine ev_s C dX7_freeFrame_27 (q := 28) rfl rfl ?_
      exact ev_iret C hr dX7_freeFrame_28 (Nat.zero_le _) (Nat.zero_le _) (po_1 hPo (by (obtain rfl : z = N := (by omega)); rw [fnd_none h3]) rfl)
    · refine ev_s C dX7_freeFrame_10 (q := 11) rfl rfl ?_
      refine mg_12 C dX7_freeFrame_11 (q := 14) rfl ?_
      refine ev_s C dX7_freeFrame_14 (q := 15) rfl rfl ?_
      refine ml_12 C dX7_freeFrame_15 (q := 16) rfl (by omega) ?_
      show EV k 16 _ (vI (v.2 12 z) :: []) _ _ _
      refine ev_if_ge C dX7_freeFrame_16 (tgt := 21) (q := 19) (by decide) rfl (by first | decide | (unfold rg; omega) | assumption | exact bAnd_rg _ _) (fun b1 => ?_) (fun b1 => ?_)
      · refine ev_s C dX7_freeFrame_21 (q := 24) rfl rfl ?_
        refine ev_goto C dX7_freeFrame_24 (tgt := 2) (by decide) ?_
        exact ih (z + 1) (by omega) (by omega) (fun j hj => by
          by_cases e : j = z
          · subst e; simp [frB, fwB]; omega
          · exact h3 j (by omega))
      · refine ev_s C dX7_freeFrame_19 (q := 20) rfl rfl ?_
        exact ev_iret C hr dX7_freeFrame_20 (Nat.zero_le _) (Nat.zero_le _) (po_1 hPo (by rw [fnd_hit (z := z) h3 (by simp [frB, fwB]; omega) (by omega)]) rfl)
set_option maxHeartbeats 4000000 in
set_option maxRecDepth 100000 in
theorem l_X7_frameWith {k : Kx} (C : CX k RX7 cX7_frameWith 3) {u v : SS} {g : GH} (I : MI v) {p : Int} (hp : rg p) {N : Nat} (hN : v.1 11 = (N : Int)) (hr : (kmeth k).sig.returnType = some .int) (hPo : kPo k = PoR (.inl (some (vI (fnd (fwB v p) N)), mk u v g))) : ∀ (m z : Nat), z ≤ N → N < z + m → (∀ j, j < z → (fwB v p) j = false) → EV k 2 [(0, vR (some 0)), (1, vI p), (2, vI (z : Int))] [] (mk u v g) 0 0 := by
  intro m
  induction m with
  | zero =>
    intros
    exfalso
    omega
  | succ m ih =>
    intro z h1 h2 h3
    have i0 := I.s11
    have ia := I.a12 z
    refine ev_s C dX7_frameWith_2 (q := 3) rfl rfl ?_
    refine ev_s C dX7_frameWith_3 (q := 4) rfl rfl ?_
    refine mg_11 C dX7_frameWith_4 (q := 7) rfl ?_
    refine ev_icmp_ge C dX7_frameWith_7 (tgt := 28) (q := 10) (by decide) rfl (by first | decide | (unfold rg; omega) | assumption | exact bAnd_rg _ _) (by first | decide | (unfold rg; omega) | assumption | exact bAnd_rg _ _) (fun b0 => ?_) (fun b0 => ?_)
    · refine ev_s C dX7_frameWith_28 (q := 29) rfl rfl ?_
      exact ev_iret C hr dX7_frameWith_29 (Nat.zero_le _) (Nat.zero_le _) (po_1 hPo (by (obtain rfl : z = N := (by omega)); rw [fnd_none h3]) rfl)
    · refine ev_s C dX7_frameWith_10 (q := 11) rfl rfl ?_
      refine mg_12 C dX7_frameWith_11 (q := 14) rfl ?_
      refine ev_s C dX7_frameWith_14 (q := 15) rfl rfl ?_
      refine ml_12 C dX7_frameWith_15 (q := 16) rfl (by omega) ?_
      show EV k 16 _ (vI (v.2 12 z) :: _) _ _ _
      refine ev_s C dX7_frameWith_16 (q := 17) rfl rfl ?_
      refine ev_icmp_ne C dX7_frameWith_17 (tgt := 22) (q := 20) (by decide) rfl (by first | decide | (unfold rg; omega) | assumption | exact bAnd_rg _ _) (by first | decide | (unfold rg; omega) | assumption | exact bAnd_rg _ _) (fun b1 => ?_) (fun b1 => ?_)
      · refine ev_s C dX7_frameWith_22 (q := 25) rfl rfl ?_
        refine ev_goto C dX7_frameWith_25 (tgt := 2) (by decide) ?_
        exact ih (z + 1) (by omega) (by omega) (fun j hj => by
          by_cases e : j = z
          · subst e; simp [frB, fwB]; omega
          · exact h3 j (by omega))
      · refine ev_s C dX7_frameWith_20 (q := 21) rfl rfl ?_
        exact ev_iret C hr dX7_frameWith_21 (Nat.zero_le _) (Nat.zero_le _) (po_1 hPo (by rw [fnd_hit (z := z) h3 (by simp [frB, fwB]; omega) (by omega)]) rfl)
set_option maxHeartbeats 4000000 in
set_option maxRecDepth 100000 in
theorem c_X7_freeFrame {u v : SS} {g : GH} (I : MI v) : Cn yX7_freeFrame (wsy yX7_freeFrame cX7_freeFrame 2 (some .int)) 0 0 0 nn [vR (some 0)] (mk u v g) (.inl (some (vI (fnd (frB v) (v.1 11).toNat)), mk u v g)) := by
  refine con_j (lv := [(0, vR (some 0))]) (by decide) (fun ad => Nat.le_of_ble_eq_true rfl) (fun ad => rfl) rfl ?_
  intro k C hr hlv hmc hms hPo hPx htab
  have i0 := I.s11
  refine ev_s C dX7_freeFrame_0 (q := 1) rfl rfl ?_
  refine ev_s C dX7_freeFrame_1 (q := 2) rfl rfl ?_
  exact l_X7_freeFrame C I (N := (v.1 11).toNat) (by omega) hr hPo ((v.1 11).toNat + 1) 0 (Nat.zero_le _) (by omega) (fun j hj => absurd hj (Nat.not_lt_zero _))
set_option maxHeartbeats 4000000 in
set_option maxRecDepth 100000 in
theorem c_X7_frameWith {u v : SS} {g : GH} (I : MI v) {p : Int} (hp : rg p) : Cn yX7_frameWith (wsy yX7_frameWith cX7_frameWith 3 (some .int)) 0 0 0 nn [vR (some 0), vI p] (mk u v g) (.inl (some (vI (fnd (fwB v p) (v.1 11).toNat)), mk u v g)) := by
  refine con_j (lv := [(0, vR (some 0)), (1, vI p)]) (by decide) (fun ad => Nat.le_of_ble_eq_true rfl) (fun ad => rfl) rfl ?_
  intro k C hr hlv hmc hms hPo hPx htab
  have i0 := I.s11
  refine ev_s C dX7_frameWith_0 (q := 1) rfl rfl ?_
  refine ev_s C dX7_frameWith_1 (q := 2) rfl rfl ?_
  exact l_X7_frameWith C I hp (N := (v.1 11).toNat) (by omega) hr hPo ((v.1 11).toNat + 1) 0 (Nat.zero_le _) (by omega) (fun j hj => absurd hj (Nat.not_lt_zero _))
def ipf (v : SS) (s pl : Int) (j : Nat) : Int := bI (decide (v.2 10 (8 * s.toNat + j) = pl))
set_option maxHeartbeats 4000000 in
set_option maxRecDepth 100000 in
theorem l_X7_inPlace {k : Kx} (C : CX k RX7 cX7_inPlace 5) {u v : SS} {g : GH} (I : MI v) {s pl : Int} (hs : 0 ≤ s ∧ s < 6) (hpl : rg pl) (hr : (kmeth k).sig.returnType = some .int) (hPo : kPo k = PoR (.inl (some (vI (sumN 8 (ipf v s pl))), mk u v g))) : ∀ (m z : Nat) (a iz : Int), a = sumN z (ipf v s pl) → iz = 8 * s + z → z ≤ 8 → 8 < z + m → EV k 8 [(0, vR (some 0)), (1, vI s), (2, vI pl), (3, vI a), (4, vI iz)] [] (mk u v g) 0 0 := by
  intro m
  induction m with
  | zero =>
    intros
    exfalso
    omega
  | succ m ih =>
    intro z a iz ea ei h1 h2
    have ia := I.a10 iz.toNat
    refine ev_s C dX7_inPlace_8 (q := 10) rfl rfl ?_
    refine ev_s C dX7_inPlace_10 (q := 12) rfl rfl ?_
    refine ev_s C dX7_inPlace_12 (q := 13) rfl rfl ?_
    refine ev_s C dX7_inPlace_13 (q := 14) rfl rfl ?_
    refine ev_s C dX7_inPlace_14 (q := 16) rfl rfl ?_
    refine ev_s C dX7_inPlace_16 (q := 17) rfl rfl ?_
    refine ev_icmp_ge C dX7_inPlace_17 (tgt := 45) (q := 20) (by decide) rfl (by first | decide | (unfold rg; omega) | assumption | exact bAnd_rg _ _) (by first | decide | (unfold rg; omega) | assumption | exact bAnd_rg _ _) (fun b0 => ?_) (fun b0 => ?_)
    · refine ev_s C dX7_inPlace_45 (q := 46) rfl rfl ?_
      exact ev_iret C hr dX7_inPlace_46 (Nat.zero_le _) (Nat.zero_le _) (po_1 hPo (by (obtain rfl : z = 8 := (by omega)); rw [ea]) rfl)
    · refine ev_s C dX7_inPlace_20 (q := 21) rfl rfl ?_
      refine ev_s C dX7_inPlace_21 (q := 22) rfl rfl ?_
      refine mg_10 C dX7_inPlace_22 (q := 25) rfl ?_
      refine ev_s C dX7_inPlace_25 (q := 27) rfl rfl ?_
      refine ml_10 C dX7_inPlace_27 (q := 28) rfl (by omega) ?_
      refine ev_s C dX7_inPlace_28 (q := 29) rfl rfl ?_
      refine ev_icmp_ne C dX7_inPlace_29 (tgt := 36) (q := 32) (by decide) rfl (by first | decide | (unfold rg; omega) | assumption | exact bAnd_rg _ _) (by first | decide | (unfold rg; omega) | assumption | exact bAnd_rg _ _) (fun b1 => ?_) (fun b1 => ?_)
      · refine ev_s C dX7_inPlace_36 (q := 37) rfl rfl ?_
        refine ev_s C dX7_inPlace_37 (q := 38) rfl rfl ?_
        refine ev_s C dX7_inPlace_38 (q := 39) rfl rfl ?_
        refine ev_s C dX7_inPlace_39 (q := 42) rfl rfl ?_
        refine ev_goto C dX7_inPlace_42 (tgt := 8) (by decide) ?_
        exact ih (z + 1) _ _ (by
          have e1 : sumN (z + 1) (ipf v s pl) = sumN z (ipf v s pl) + ipf v s pl z := rfl
          have e2 : iz.toNat = 8 * s.toNat + z := by omega
          have e4 : ipf v s pl z = bI (decide (v.2 10 iz.toNat = pl)) := by unfold ipf; rw [← e2]
          rw [e1, ea, e4]
          by_cases hc : v.2 10 iz.toNat = pl <;> simp [bI, hc] <;> contradiction) (by omega) (by omega) (by omega)
      · refine ev_s C dX7_inPlace_32 (q := 33) rfl rfl ?_
        refine ev_goto C dX7_inPlace_33 (tgt := 37) (by decide) ?_
        refine ev_s C dX7_inPlace_37 (q := 38) rfl rfl ?_
        refine ev_s C dX7_inPlace_38 (q := 39) rfl rfl ?_
        refine ev_s C dX7_inPlace_39 (q := 42) rfl rfl ?_
        refine ev_goto C dX7_inPlace_42 (tgt := 8) (by decide) ?_
        exact ih (z + 1) _ _ (by
          have e1 : sumN (z + 1) (ipf v s pl) = sumN z (ipf v s pl) + ipf v s pl z := rfl
          have e2 : iz.toNat = 8 * s.toNat + z := by omega
          have e4 : ipf v s pl z = bI (decide (v.2 10 iz.toNat = pl)) := by unfold ipf; rw [← e2]
          rw [e1, ea, e4]
          by_cases hc : v.2 10 iz.toNat = pl <;> simp [bI, hc] <;> contradiction) (by omega) (by omega) (by omega)
set_option maxHeartbeats 4000000 in
set_option maxRecDepth 100000 in
theorem c_X7_inPlace {u v : SS} {g : GH} (I : MI v) {s pl : Int} (hs : 0 ≤ s ∧ s < 6) (hpl : rg pl) : Cn yX7_inPlace (wsy yX7_inPlace cX7_inPlace 5 (some .int)) 0 0 0 nn [vR (some 0), vI s, vI pl] (mk u v g) (.inl (some (vI (sumN 8 (ipf v s pl))), mk u v g)) := by
  refine con_j (lv := [(0, vR (some 0)), (1, vI s), (2, vI pl)]) (by decide) (fun ad => Nat.le_of_ble_eq_true rfl) (fun ad => rfl) rfl ?_
  intro k C hr hlv hmc hms hPo hPx htab
  refine ev_s C dX7_inPlace_0 (q := 1) rfl rfl ?_
  refine ev_s C dX7_inPlace_1 (q := 2) rfl rfl ?_
  refine ev_s C dX7_inPlace_2 (q := 4) rfl rfl ?_
  refine ev_s C dX7_inPlace_4 (q := 5) rfl rfl ?_
  refine ev_s C dX7_inPlace_5 (q := 6) rfl rfl ?_
  refine ev_s C dX7_inPlace_6 (q := 8) rfl rfl ?_
  exact l_X7_inPlace C I hs hpl hr hPo 9 0 _ _ rfl (by omega) (by omega) (by omega)
def scM (v : SS) (s : Int) : Int := 10 * sumN 8 (ipf v s 1) + 3 * sumN 8 (ipf v s 2) + sumN 8 (ipf v s 3) - v.2 1 s.toNat - 20 * v.2 6 s.toNat
theorem ipf_bd (v : SS) (s pl : Int) : 0 ≤ sumN 8 (ipf v s pl) ∧ sumN 8 (ipf v s pl) ≤ 8 := by
  have := sumN_bd (N := 8) (p := ipf v s pl) (a := 0) (b := 1) (fun z _ => by unfold ipf; have := bI_01 (decide (v.2 10 (8 * s.toNat + z) = pl)); omega)
  omega
theorem scM_bd {v : SS} (I : MI v) (s : Int) : -20000200 ≤ scM v s ∧ scM v s ≤ 200 := by
  have h1 := ipf_bd v s 1
  have h2 := ipf_bd v s 2
  have h3 := ipf_bd v s 3
  have h4 := I.a1 s.toNat
  have h5 := I.a6 s.toNat
  unfold scM
  omega
set_option maxHeartbeats 4000000 in
set_option maxRecDepth 100000 in
theorem c_X7_scoreOf {u v : SS} {g : GH} (I : MI v) {s : Int} (hs : 0 ≤ s ∧ s < 6) : Cn yX7_scoreOf (wsy yX7_scoreOf cX7_scoreOf 2 (some .int)) 1 0 0 nn [vR (some 0), vI s] (mk u v g) (.inl (some (vI (scM v s)), mk u v g)) := by
  refine con_j (lv := [(0, vR (some 0)), (1, vI s)]) (by decide) (fun ad => Nat.le_of_ble_eq_true rfl) (fun ad => rfl) rfl ?_
  intro k C hr hlv hmc hms hPo hPx htab
  refine ev_s C dX7_scoreOf_0 (q := 2) rfl rfl ?_
  refine ev_s C dX7_scoreOf_2 (q := 3) rfl rfl ?_
  refine ev_s C dX7_scoreOf_3 (q := 4) rfl rfl ?_
  refine ev_s C dX7_scoreOf_4 (q := 5) rfl rfl ?_
  refine ev_cV C dX7_scoreOf_5 (q := 8) rfl km_X7_146 kv_X7_inPlace kc_X7_inPlace (c_X7_inPlace I (by omega) (by first | decide | (unfold rg; omega) | assumption | exact bAnd_rg _ _)) rfl rfl vcX7 go_0 (by rw [hlv]; decide) (by decide) (Nat.le_of_ble_eq_true rfl) (Nat.zero_le _) (Nat.zero_le _) ?_
  refine ev_s C dX7_scoreOf_8 (q := 9) rfl rfl ?_
  refine ev_s C dX7_scoreOf_9 (q := 10) rfl rfl ?_
  refine ev_s C dX7_scoreOf_10 (q := 11) rfl rfl ?_
  refine ev_s C dX7_scoreOf_11 (q := 12) rfl rfl ?_
  refine ev_s C dX7_scoreOf_12 (q := 13) rfl rfl ?_
  refine ev_cV C dX7_scoreOf_13 (q := 16) rfl km_X7_146 kv_X7_inPlace kc_X7_inPlace (c_X7_inPlace I (by omega) (by first | decide | (unfold rg; omega) | assumption | exact bAnd_rg _ _)) rfl rfl vcX7 go_0 (by rw [hlv]; decide) (by decide) (Nat.le_of_ble_eq_true rfl) (Nat.zero_le _) (Nat.zero_le _) ?_
  refine ev_s C dX7_scoreOf_16 (q := 17) rfl rfl ?_
  refine ev_s C dX7_scoreOf_17 (q := 18) rfl rfl ?_
  refine ev_s C dX7_scoreOf_18 (q := 19) rfl rfl ?_
  refine ev_s C dX7_scoreOf_19 (q := 20) rfl rfl ?_
  refine ev_s C dX7_scoreOf_20 (q := 21) rfl rfl ?_
  refine ev_cV C dX7_scoreOf_21 (q := 24) rfl km_X7_146 kv_X7_inPlace kc_X7_inPlace (c_X7_inPlace I (by omega) (by first | decide | (unfold rg; omega) | assumption | exact bAnd_rg _ _)) rfl rfl vcX7 go_0 (by rw [hlv]; decide) (by decide) (Nat.le_of_ble_eq_true rfl) (Nat.zero_le _) (Nat.zero_le _) ?_
  refine ev_s C dX7_scoreOf_24 (q := 25) rfl rfl ?_
  refine ev_s C dX7_scoreOf_25 (q := 26) rfl rfl ?_
  refine mg_1 C dX7_scoreOf_26 (q := 29) rfl ?_
  refine ev_s C dX7_scoreOf_29 (q := 30) rfl rfl ?_
  refine ml_1 C dX7_scoreOf_30 (q := 31) rfl (by omega) ?_
  refine ev_s C dX7_scoreOf_31 (q := 32) rfl rfl ?_
  refine ev_s C dX7_scoreOf_32 (q := 34) rfl rfl ?_
  refine ev_s C dX7_scoreOf_34 (q := 35) rfl rfl ?_
  refine mg_6 C dX7_scoreOf_35 (q := 38) rfl ?_
  refine ev_s C dX7_scoreOf_38 (q := 39) rfl rfl ?_
  refine ml_6 C dX7_scoreOf_39 (q := 40) rfl (by omega) ?_
  refine ev_s C dX7_scoreOf_40 (q := 41) rfl rfl ?_
  refine ev_s C dX7_scoreOf_41 (q := 42) rfl rfl ?_
  exact ev_iret C hr dX7_scoreOf_42 (Nat.zero_le _) (Nat.zero_le _) (po_1 hPo (by first | rfl | simp [*]) rfl)
def wst (v : SS) (n : Nat) : Int := match n with
  | 0 => -1
  | n + 1 => if v.2 4 n = 0 ∧ (wst v n < 0 ∨ scM v (wst v n) < scM v n) then (n : Int) else wst v n
theorem wst_bd (v : SS) : ∀ n : Nat, -1 ≤ wst v n ∧ wst v n < n
  | 0 => by unfold wst; omega
  | n + 1 => by
    have := wst_bd v n
    unfold wst
    split <;> omega
set_option maxHeartbeats 4000000 in
set_option maxRecDepth 100000 in
theorem l_X7_worst {k : Kx} (C : CX k RX7 cX7_worst 3) (hlv : klev k = 2) {u v : SS} {g : GH} (I : MI v) {N : Nat} (hN : v.1 0 = (N : Int)) (hr : (kmeth k).sig.returnType = some .int) (hPo : kPo k = PoR (.inl (some (vI (wst v N)), mk u v g))) : ∀ (m z : Nat) (a iz : Int), a = wst v z → iz = z → z ≤ N → N < z + m → EV k 4 [(0, vR (some 0)), (1, vI a), (2, vI iz)] [] (mk u v g) 0 0 := by
  intro m
  induction m with
  | zero =>
    intros
    exfalso
    omega
  | succ m ih =>
    intro z a iz ea ei h1 h2
    subst ei
    have i0 := I.s0
    have ia := I.a4 z
    have iw := wst_bd v z
    have is1 := scM_bd I z
    subst ea
    have is2 := scM_bd I (wst v z)
    have e1 : wst v (z + 1) = if v.2 4 z = 0 ∧ (wst v z < 0 ∨ scM v (wst v z) < scM v z) then (z : Int) else wst v z := rfl
    refine ev_s C dX7_worst_4 (q := 5) rfl rfl ?_
    refine ev_s C dX7_worst_5 (q := 6) rfl rfl ?_
    refine mg_0 C dX7_worst_6 (q := 9) rfl ?_
    refine ev_icmp_ge C dX7_worst_9 (tgt := 46) (q := 12) (by decide) rfl (by first | decide | (unfold rg; omega) | assumption | exact bAnd_rg _ _) (by first | decide | (unfold rg; omega) | assumption | exact bAnd_rg _ _) (fun b0 => ?_) (fun b0 => ?_)
    · refine ev_s C dX7_worst_46 (q := 47) rfl rfl ?_
      exact ev_iret C hr dX7_worst_47 (Nat.zero_le _) (Nat.zero_le _) (po_1 hPo (by (obtain rfl : z = N := (by omega)); rfl) rfl)
    · refine ev_s C dX7_worst_12 (q := 13) rfl rfl ?_
      refine mg_4 C dX7_worst_13 (q := 16) rfl ?_
      refine ev_s C dX7_worst_16 (q := 17) rfl rfl ?_
      refine ml_4 C dX7_worst_17 (q := 18) rfl (by omega) ?_
      show EV k 18 _ (vI (v.2 4 z) :: []) _ _ _
      refine ev_if_ne C dX7_worst_18 (tgt := 40) (q := 21) (by decide) rfl (by first | decide | (unfold rg; omega) | assumption | exact bAnd_rg _ _) (fun b1 => ?_) (fun b1 => ?_)
      · refine ev_s C dX7_worst_40 (q := 43) rfl rfl ?_
        refine ev_goto C dX7_worst_43 (tgt := 4) (by decide) ?_
        exact ih (z + 1) _ _ (by rw [e1]; split <;> omega) (by omega) (by omega) (by omega)
      · refine ev_s C dX7_worst_21 (q := 22) rfl rfl ?_
        refine ev_if_lt C dX7_worst_22 (tgt := 38) (q := 25) (by decide) rfl (by first | decide | (unfold rg; omega) | assumption | exact bAnd_rg _ _) (fun b2 => ?_) (fun b2 => ?_)
        · refine ev_s C dX7_worst_38 (q := 39) rfl rfl ?_
          refine ev_s C dX7_worst_39 (q := 40) rfl rfl ?_
          refine ev_s C dX7_worst_40 (q := 43) rfl rfl ?_
          refine ev_goto C dX7_worst_43 (tgt := 4) (by decide) ?_
          exact ih (z + 1) _ _ (by rw [e1]; split <;> omega) (by omega) (by omega) (by omega)
        · refine ev_s C dX7_worst_25 (q := 26) rfl rfl ?_
          refine ev_s C dX7_worst_26 (q := 27) rfl rfl ?_
          refine ev_cV C dX7_worst_27 (q := 30) rfl km_X7_150 kv_X7_scoreOf kc_X7_scoreOf (c_X7_scoreOf I (by omega)) rfl rfl vcX7 go_0 (by rw [hlv]; decide) (by decide) (Nat.le_of_ble_eq_true rfl) (Nat.zero_le _) (Nat.zero_le _) ?_
          refine ev_s C dX7_worst_30 (q := 31) rfl rfl ?_
          refine ev_s C dX7_worst_31 (q := 32) rfl rfl ?_
          refine ev_cV C dX7_worst_32 (q := 35) rfl km_X7_150 kv_X7_scoreOf kc_X7_scoreOf (c_X7_scoreOf I (by omega)) rfl rfl vcX7 go_0 (by rw [hlv]; decide) (by decide) (Nat.le_of_ble_eq_true rfl) (Nat.zero_le _) (Nat.zero_le _) ?_
          refine ev_icmp_le C dX7_worst_35 (tgt := 40) (q := 38) (by decide) rfl (by first | decide | (unfold rg; omega) | assumption | exact bAnd_rg _ _) (by first | decide | (unfold rg; omega) | assumption | exact bAnd_rg _ _) (fun b3 => ?_) (fun b3 => ?_)
          · refine ev_s C dX7_worst_40 (q := 43) rfl rfl ?_
            refine ev_goto C dX7_worst_43 (tgt := 4) (by decide) ?_
            exact ih (z + 1) _ _ (by rw [e1]; split <;> omega) (by omega) (by omega) (by omega)
          · refine ev_s C dX7_worst_38 (q := 39) rfl rfl ?_
            refine ev_s C dX7_worst_39 (q := 40) rfl rfl ?_
            refine ev_s C dX7_worst_40 (q := 43) rfl rfl ?_
            refine ev_goto C dX7_worst_43 (tgt := 4) (by decide) ?_
            exact ih (z + 1) _ _ (by rw [e1]; split <;> omega) (by omega) (by omega) (by omega)
set_option maxHeartbeats 4000000 in
set_option maxRecDepth 100000 in
theorem c_X7_worst {u v : SS} {g : GH} (I : MI v) : Cn yX7_worst (wsy yX7_worst cX7_worst 3 (some .int)) 2 0 0 nn [vR (some 0)] (mk u v g) (.inl (some (vI (wst v (v.1 0).toNat)), mk u v g)) := by
  refine con_j (lv := [(0, vR (some 0))]) (by decide) (fun ad => Nat.le_of_ble_eq_true rfl) (fun ad => rfl) rfl ?_
  intro k C hr hlv hmc hms hPo hPx htab
  have i0 := I.s0
  refine ev_s C dX7_worst_0 (q := 1) rfl rfl ?_
  refine ev_s C dX7_worst_1 (q := 2) rfl rfl ?_
  refine ev_s C dX7_worst_2 (q := 3) rfl rfl ?_
  refine ev_s C dX7_worst_3 (q := 4) rfl rfl ?_
  exact l_X7_worst C hlv I (N := (v.1 0).toNat) (by omega) hr hPo ((v.1 0).toNat + 1) 0 _ _ rfl rfl (Nat.zero_le _) (by omega)
