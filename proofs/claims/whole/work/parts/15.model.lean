/-! THE MODEL: the clock, a page comes, touch -/
def clk : Nat → SS → SS
  | 0, v => v
  | d + 1, v => if v.2 13 (v.1 14).toNat = 0 then v else clk d (stS (stA v 13 (v.1 14).toNat 0) 14 ((v.1 14 + 1) % v.1 11))
theorem clk_s {d : Nat} {v : SS} : clk (d + 1) v = if v.2 13 (v.1 14).toNat = 0 then v else clk d (stS (stA v 13 (v.1 14).toNat 0) 14 ((v.1 14 + 1) % v.1 11)) := rfl
theorem MI_clk1 {v : SS} (I : MI v) (hh : v.1 14 < v.1 11) : MI (stS (stA v 13 (v.1 14).toNat 0) 14 ((v.1 14 + 1) % v.1 11)) := by
  have i11 := I.s11
  have h1 := Int.emod_nonneg (v.1 14 + 1) (b := v.1 11) (by omega)
  have h2 := Int.emod_lt_of_pos (v.1 14 + 1) (b := v.1 11) (by omega)
  exact MI_S (MI_A I (by decide)) (by show 0 ≤ (v.1 14 + 1) % v.1 11 ∧ (v.1 14 + 1) % v.1 11 ≤ 15; omega)
def rfN (v : SS) : Int := sumN 16 (v.2 13)
theorem rfN_dn {v : SS} {h : Nat} {x : Int} (hh : h < 16) : rfN (stS (stA v 13 h 0) 14 x) = rfN v - v.2 13 h := by
  have := sumN_up (p := v.2 13) (q := (stA v 13 h 0).2 13) (z := h) (N := 16) hh (fun j _ hn => by rw [stA_2, if_pos rfl, if_neg hn])
  have e : (stA v 13 h 0).2 13 h = 0 := by rw [stA_2, if_pos rfl, if_pos rfl]
  unfold rfN
  show sumN 16 ((stA v 13 h 0).2 13) = _
  rw [this, e]
  omega
theorem rfN_bd {v : SS} (I : MI v) : 0 ≤ rfN v ∧ rfN v ≤ 16 := by
  have := sumN_bd (N := 16) (p := v.2 13) (a := 0) (b := 1) (fun z _ => I.a13 z)
  unfold rfN
  omega
theorem clk_I : ∀ (d : Nat) (v : SS), MI v → v.1 14 < v.1 11 → rfN v < d → MI (clk d v) ∧ (clk d v).1 14 < (clk d v).1 11 ∧ (clk d v).2 13 ((clk d v).1 14).toNat = 0
  | 0, v, I, _, h => by have := rfN_bd I; omega
  | d + 1, v, I, hh, h => by
    have i14 := I.s14
    have i11 := I.s11
    rw [clk_s]
    by_cases e : v.2 13 (v.1 14).toNat = 0
    · rw [if_pos e]; exact ⟨I, hh, e⟩
    · rw [if_neg e]
      have i13 := I.a13 (v.1 14).toNat
      refine clk_I d _ (MI_clk1 I hh) ?_ ?_
      · show (v.1 14 + 1) % v.1 11 < v.1 11
        exact Int.emod_lt_of_pos _ (by omega)
      · rw [rfN_dn (by omega)]; omega
theorem clk_S {k : Nat} (h : k ≠ 14) : ∀ (d : Nat) (v : SS), (clk d v).1 k = v.1 k
  | 0, v => rfl
  | d + 1, v => by
    rw [clk_s]
    split
    · rfl
    · rw [clk_S h d, stS_1, if_neg h]; rfl
theorem clk_A {a j : Nat} (h : a ≠ 13) : ∀ (d : Nat) (v : SS), (clk d v).2 a j = v.2 a j
  | 0, v => rfl
  | d + 1, v => by
    rw [clk_s]
    split
    · rfl
    · rw [clk_A h d]
      show (stA v 13 _ 0).2 a j = _
      rw [stA_2, if_neg h]
theorem clk_occ {d : Nat} {v : SS} : occ (clk d v) = occ v := by
  unfold occ
  exact sumN_c (fun z _ => by rw [clk_A (by decide)])
def clrM (v : SS) : SS :=
  let w := clk 17 v
  let x := toM w (w.1 14).toNat
  stS x 14 ((x.1 14 + 1) % x.1 11)
set_option maxHeartbeats 4000000 in
set_option maxRecDepth 100000 in
theorem l_X7_clears {k : Kx} (C : CX k RX7 cX7_clears 1) {u : SS} {g : GH} : ∀ (m : Nat) (v : SS), MI v → v.1 14 < v.1 11 → rfN v < m → (MI (clk m v) → (clk m v).1 14 < (clk m v).1 11 → EV k 40 [(0, vR (some 0))] [] (mk u (clk m v) g) 0 0) → EV k 0 [(0, vR (some 0))] [] (mk u v g) 0 0 := by
  intro m
  induction m with
  | zero =>
    intro v I hh hm
    have := rfN_bd I
    exfalso
    omega
  | succ m ih =>
    intro v I hh hm kx
    have i14 := I.s14
    have i11 := I.s11
    have i13 := I.a13 (v.1 14).toNat
    refine ev_s C dX7_clears_0 (q := 1) rfl rfl ?_
    refine mg_13 C dX7_clears_1 (q := 4) rfl ?_
    refine ev_s C dX7_clears_4 (q := 5) rfl rfl ?_
    refine mg_14 C dX7_clears_5 (q := 8) rfl ?_
    refine ml_13 C dX7_clears_8 (q := 9) rfl (by omega) ?_
    show EV k 9 _ (vI (v.2 13 (v.1 14).toNat) :: []) _ _ _
    refine ev_if_eq C dX7_clears_9 (tgt := 40) (q := 12) (by decide) rfl (by first | decide | (unfold rg; omega) | assumption | exact bAnd_rg _ _) (fun b0 => ?_) (fun b0 => ?_)
    · rw [clk_s, if_pos b0] at kx
      exact kx I hh
    · refine ev_s C dX7_clears_12 (q := 13) rfl rfl ?_
      refine mg_13 C dX7_clears_13 (q := 16) rfl ?_
      refine ev_s C dX7_clears_16 (q := 17) rfl rfl ?_
      refine mg_14 C dX7_clears_17 (q := 20) rfl ?_
      refine ev_s C dX7_clears_20 (q := 21) rfl rfl ?_
      refine ms_13 C dX7_clears_21 (q := 22) rfl (by omega) (by show 0 ≤ v.1 14 ∧ v.1 14 < 16; omega) ?_
      refine ev_s C dX7_clears_22 (q := 23) rfl rfl ?_
      refine ev_s C dX7_clears_23 (q := 24) rfl rfl ?_
      refine mg_14 C dX7_clears_24 (q := 27) rfl ?_
      refine ev_s C dX7_clears_27 (q := 28) rfl rfl ?_
      refine ev_s C dX7_clears_28 (q := 29) rfl rfl ?_
      refine ev_s C dX7_clears_29 (q := 30) rfl rfl ?_
      refine mg_11 C dX7_clears_30 (q := 33) rfl ?_
      refine ev_irem C dX7_clears_33 (q := 34) rfl (by show rg (v.1 14 + 1); unfold rg; omega) (by show rg (v.1 11); unfold rg; omega) (by show 0 ≤ v.1 14 + 1; omega) (by show 0 < v.1 11; omega) ?_
      refine mp_14 C dX7_clears_34 (q := 37) rfl ?_
      refine ev_goto C dX7_clears_37 (tgt := 0) (by decide) ?_
      rw [clk_s, if_neg b0] at kx
      exact ih _ (MI_clk1 I hh) (by show (v.1 14 + 1) % v.1 11 < v.1 11; exact Int.emod_lt_of_pos _ (by omega)) (by rw [rfN_dn (by omega)]; omega) kx
set_option maxHeartbeats 4000000 in
set_option maxRecDepth 100000 in
theorem c_X7_clears {u v : SS} {g : GH} (I : MI v) (hh : v.1 14 < v.1 11) (hf : ∀ f : Nat, f < 16 → (f : Int) < v.1 11 → 0 ≤ v.2 12 f) (ho : v.1 16 + occ v ≤ 48) (hm : v.1 21 + 300 ≤ 100000000) : Cn yX7_clears (wsy yX7_clears cX7_clears 1 none) 3 0 0 nn [vR (some 0)] (mk u v g) (.inl (none, mk u (clrM v) g)) := by
  refine con_j (lv := [(0, vR (some 0))]) (by decide) (fun ad => Nat.le_of_ble_eq_true rfl) (fun ad => rfl) rfl ?_
  intro k C hr hlv hmc hms hPo hPx htab
  have hb := rfN_bd I
  refine l_X7_clears C 17 v I hh (by omega) (fun J jh => ?_)
  have j14 := J.s14
  have j11 := J.s11
  have e11 : (clk 17 v).1 11 = v.1 11 := clk_S (by decide) _ _
  have e21 : (clk 17 v).1 21 = v.1 21 := clk_S (by decide) _ _
  have e16 : (clk 17 v).1 16 = v.1 16 := clk_S (by decide) _ _
  have hp : 0 ≤ (clk 17 v).2 12 ((clk 17 v).1 14).toNat := by rw [clk_A (by decide)]; exact hf _ (by omega) (by omega)
  have hoc := occ_pos (v := clk 17 v) (f := ((clk 17 v).1 14).toNat) (by omega) hp
  have eo : occ (clk 17 v) = occ v := clk_occ
  have ht := toM_I (f := ((clk 17 v).1 14).toNat) J hp (by omega) (by omega)
  have t14 : (toM (clk 17 v) ((clk 17 v).1 14).toNat).1 14 = (clk 17 v).1 14 := toM_S (by decide) (by decide)
  have t11 : (toM (clk 17 v) ((clk 17 v).1 14).toNat).1 11 = (clk 17 v).1 11 := toM_S (by decide) (by decide)
  refine ev_s C dX7_clears_40 (q := 41) rfl rfl ?_
  refine ev_s C dX7_clears_41 (q := 42) rfl rfl ?_
  refine mg_14 C dX7_clears_42 (q := 45) rfl ?_
  refine ev_cV C dX7_clears_45 (q := 48) rfl km_X7_111 kv_X7_takesOut kc_X7_takesOut (c_X7_takesOut J (f := ((clk 17 v).1 14).toNat) (by omega) (by omega) hp (by omega) (by omega)) rfl rfl vcX7 go_0 (by rw [hlv]; decide) (by decide) (Nat.le_of_ble_eq_true rfl) (Nat.zero_le _) (Nat.zero_le _) ?_
  refine ev_s C dX7_clears_48 (q := 49) rfl rfl ?_
  refine ev_s C dX7_clears_49 (q := 50) rfl rfl ?_
  refine mg_14 C dX7_clears_50 (q := 53) rfl ?_
  refine ev_s C dX7_clears_53 (q := 54) rfl rfl ?_
  refine ev_s C dX7_clears_54 (q := 55) rfl rfl ?_
  refine ev_s C dX7_clears_55 (q := 56) rfl rfl ?_
  refine mg_11 C dX7_clears_56 (q := 59) rfl ?_
  refine ev_irem C dX7_clears_59 (q := 60) rfl (by unfold rg; omega) (by unfold rg; omega) (by omega) (by omega) ?_
  refine mp_14 C dX7_clears_60 (q := 63) rfl ?_
  exact ev_vret C hr dX7_clears_63 (Nat.zero_le _) (Nat.zero_le _) (po_0 hPo rfl)
theorem clrM_I {v : SS} (I : MI v) (hh : v.1 14 < v.1 11) (hf : ∀ f : Nat, f < 16 → (f : Int) < v.1 11 → 0 ≤ v.2 12 f) (ho : v.1 16 + occ v ≤ 48) (hm : v.1 21 + 300 ≤ 100000000) :
    MI (clrM v) ∧ (clrM v).1 21 ≤ v.1 21 + 300 ∧ (clrM v).1 16 + occ (clrM v) ≤ 48 ∧ (clrM v).1 14 < (clrM v).1 11 ∧ (clrM v).1 11 = v.1 11 ∧ (∃ f : Nat, f < 16 ∧ (f : Int) < v.1 11 ∧ (clrM v).2 12 f = -1) := by
  have hb := rfN_bd I
  obtain ⟨J, jh, -⟩ := clk_I 17 v I hh (by omega)
  have j14 := J.s14
  have j11 := J.s11
  have e11 : (clk 17 v).1 11 = v.1 11 := clk_S (by decide) _ _
  have e21 : (clk 17 v).1 21 = v.1 21 := clk_S (by decide) _ _
  have e16 : (clk 17 v).1 16 = v.1 16 := clk_S (by decide) _ _
  have hp : 0 ≤ (clk 17 v).2 12 ((clk 17 v).1 14).toNat := by rw [clk_A (by decide)]; exact hf _ (by omega) (by omega)
  have hoc := occ_pos (v := clk 17 v) (f := ((clk 17 v).1 14).toNat) (by omega) hp
  have eo : occ (clk 17 v) = occ v := clk_occ
  have ht := toM_I (f := ((clk 17 v).1 14).toNat) J hp (by omega) (by omega)
  have to := toM_occ (v := clk 17 v) (f := ((clk 17 v).1 14).toNat) (by omega) hp
  have t14 : (toM (clk 17 v) ((clk 17 v).1 14).toNat).1 14 = (clk 17 v).1 14 := toM_S (by decide) (by decide)
  have t11 : (toM (clk 17 v) ((clk 17 v).1 14).toNat).1 11 = (clk 17 v).1 11 := toM_S (by decide) (by decide)
  have h1 := Int.emod_nonneg ((toM (clk 17 v) ((clk 17 v).1 14).toNat).1 14 + 1) (b := (toM (clk 17 v) ((clk 17 v).1 14).toNat).1 11) (by omega)
  have h2 := Int.emod_lt_of_pos ((toM (clk 17 v) ((clk 17 v).1 14).toNat).1 14 + 1) (b := (toM (clk 17 v) ((clk 17 v).1 14).toNat).1 11) (by omega)
  refine ⟨MI_S ht.1 (by show 0 ≤ _ ∧ _ ≤ (15 : Int); omega), ?_, ?_, ?_, ?_, ⟨((clk 17 v).1 14).toNat, by omega, by omega, ?_⟩⟩
  · show (toM (clk 17 v) ((clk 17 v).1 14).toNat).1 21 ≤ _; omega
  · show (toM (clk 17 v) ((clk 17 v).1 14).toNat).1 16 + occ (toM (clk 17 v) ((clk 17 v).1 14).toNat) ≤ 48; omega
  · show ((toM (clk 17 v) ((clk 17 v).1 14).toNat).1 14 + 1) % (toM (clk 17 v) ((clk 17 v).1 14).toNat).1 11 < (toM (clk 17 v) ((clk 17 v).1 14).toNat).1 11; omega
  · show (toM (clk 17 v) ((clk 17 v).1 14).toNat).1 11 = _; omega
  · show (toM (clk 17 v) ((clk 17 v).1 14).toNat).2 12 _ = -1
    rw [toM_12, if_pos rfl]
/-- the store without the pages that P tells, from place k - 1 down -/
def rml (P : Int → Bool) : Nat → SS → SS
  | 0, v => v
  | k + 1, v => rml P k (if P (v.2 17 k) then unsM v k else v)
theorem rml_s {P : Int → Bool} {k : Nat} {v : SS} : rml P (k + 1) v = rml P k (if P (v.2 17 k) then unsM v k else v) := rfl
theorem uns_S {v : SS} {p k : Nat} (h : k ≠ 16) : (unsM v p).1 k = v.1 k := by
  show (stS v 16 _).1 k = _
  rw [stS_1, if_neg h]
theorem uns_A {v : SS} {p a j : Nat} (h : a ≠ 17) : (unsM v p).2 a j = v.2 a j := by
  show (if a = 17 then _ else v.2 a) j = _
  rw [if_neg h]
theorem rml_S {P : Int → Bool} {a : Nat} (h : a ≠ 16) : ∀ (k : Nat) (v : SS), (rml P k v).1 a = v.1 a
  | 0, v => rfl
  | k + 1, v => by
    rw [rml_s, rml_S h k]
    split
    · exact uns_S h
    · rfl
theorem rml_A {P : Int → Bool} {a j : Nat} (h : a ≠ 17) : ∀ (k : Nat) (v : SS), (rml P k v).2 a j = v.2 a j
  | 0, v => rfl
  | k + 1, v => by
    rw [rml_s, rml_A h k]
    split
    · exact uns_A h
    · rfl
theorem rml_I {P : Int → Bool} : ∀ (k : Nat) (v : SS), MI v → k ≤ v.1 16 → MI (rml P k v) ∧ (rml P k v).1 16 ≤ v.1 16
  | 0, v, I, _ => ⟨I, Int.le_refl _⟩
  | k + 1, v, I, h => by
    rw [rml_s]
    split
    · have h2 : (unsM v k).1 16 = v.1 16 - 1 := rfl
      have h3 := rml_I (P := P) k (unsM v k) (MI_uns I (by omega)) (by omega)
      exact ⟨h3.1, by omega⟩
    · exact rml_I k v I (by omega)
def lvC (x : Int) : Int := if x = 0 then 1 else if x = 2 then 2 else 10
theorem lvC_bd (x : Int) : 1 ≤ lvC x ∧ lvC x ≤ 10 := by
  unfold lvC
  split
  · omega
  · split <;> omega
def leM (v : SS) (p : Int) : SS := stA (rml (fun x => decide (x = p)) (v.1 16).toNat (stS v 21 (v.1 21 + lvC (v.2 10 p.toNat)))) 10 p.toNat 0
set_option maxHeartbeats 4000000 in
set_option maxRecDepth 100000 in
theorem l_X7_leaves {k : Kx} (C : CX k RX7 cX7_leaves 3) (hlv : klev k = 1) {u : SS} {g : GH} {p : Int} (hp : rg p) : ∀ (m z : Nat) (v : SS) (iz : Int), iz = (z : Int) - 1 → z < m → MI v → z ≤ v.1 16 → EV k 70 [(0, vR (some 0)), (1, vI p), (2, vI (-1))] [] (mk u (rml (fun x => decide (x = p)) z v) g) 0 0 → EV k 45 [(0, vR (some 0)), (1, vI p), (2, vI iz)] [] (mk u v g) 0 0 := by
  intro m
  induction m with
  | zero =>
    intros
    exfalso
    omega
  | succ m ih =>
    intro z v iz e0 h1 I h2 kx
    have i16 := I.s16
    have ia := I.a17 iz.toNat
    refine ev_s C dX7_leaves_45 (q := 46) rfl rfl ?_
    refine ev_if_lt C dX7_leaves_46 (tgt := 70) (q := 49) (by decide) rfl (by first | decide | (unfold rg; omega) | assumption | exact bAnd_rg _ _) (fun b0 => ?_) (fun b0 => ?_)
    · obtain rfl : z = 0 := by omega
      subst e0
      exact kx
    · refine ev_s C dX7_leaves_49 (q := 50) rfl rfl ?_
      refine mg_17 C dX7_leaves_50 (q := 53) rfl ?_
      refine ev_s C dX7_leaves_53 (q := 54) rfl rfl ?_
      refine ml_17 C dX7_leaves_54 (q := 55) rfl (by omega) ?_
      refine ev_s C dX7_leaves_55 (q := 56) rfl rfl ?_
      refine ev_icmp_ne C dX7_leaves_56 (tgt := 64) (q := 59) (by decide) rfl (by first | decide | (unfold rg; omega) | assumption | exact bAnd_rg _ _) (by first | decide | (unfold rg; omega) | assumption | exact bAnd_rg _ _) (fun b1 => ?_) (fun b1 => ?_)
      · refine ev_s C dX7_leaves_64 (q := 67) rfl rfl ?_
        refine ev_goto C dX7_leaves_67 (tgt := 45) (by decide) ?_
        obtain ⟨y, rfl⟩ : ∃ y, z = y + 1 := ⟨z - 1, by omega⟩
        rw [rml_s] at kx
        obtain rfl : iz = (y : Int) := by omega
        first
          | (rw [if_pos (by simpa using b1)] at kx
             exact ih y _ _ (by omega) (by omega) (MI_uns I (by omega)) (by show (y : Int) ≤ v.1 16 - 1; omega) kx)
          | (rw [if_neg (by simpa using b1)] at kx
             exact ih y _ _ (by omega) (by omega) I (by omega) kx)
      · refine ev_s C dX7_leaves_59 (q := 60) rfl rfl ?_
        refine ev_s C dX7_leaves_60 (q := 61) rfl rfl ?_
        refine ev_cV C dX7_leaves_61 (q := 64) rfl km_X7_101 kv_X7_unstores kc_X7_unstores (c_X7_unstores I (p := iz.toNat) (by omega) (by omega)) rfl rfl vcX7 go_0 (by rw [hlv]; decide) (by decide) (Nat.le_of_ble_eq_true rfl) (Nat.zero_le _) (Nat.zero_le _) ?_
        refine ev_s C dX7_leaves_64 (q := 67) rfl rfl ?_
        refine ev_goto C dX7_leaves_67 (tgt := 45) (by decide) ?_
        obtain ⟨y, rfl⟩ : ∃ y, z = y + 1 := ⟨z - 1, by omega⟩
        rw [rml_s] at kx
        obtain rfl : iz = (y : Int) := by omega
        first
          | (rw [if_pos (by simpa using b1)] at kx
             exact ih y _ _ (by omega) (by omega) (MI_uns I (by omega)) (by show (y : Int) ≤ v.1 16 - 1; omega) kx)
          | (rw [if_neg (by simpa using b1)] at kx
             exact ih y _ _ (by omega) (by omega) I (by omega) kx)
set_option maxHeartbeats 4000000 in
set_option maxRecDepth 100000 in
theorem c_X7_leaves {u v : SS} {g : GH} (I : MI v) {p : Int} (hp : 0 ≤ p ∧ p < 48) (hm : v.1 21 + 10 ≤ 100000000) : Cn yX7_leaves (wsy yX7_leaves cX7_leaves 3 none) 1 0 0 nn [vR (some 0), vI p] (mk u v g) (.inl (none, mk u (leM v p) g)) := by
  refine con_j (lv := [(0, vR (some 0)), (1, vI p)]) (by decide) (fun ad => Nat.le_of_ble_eq_true rfl) (fun ad => rfl) rfl ?_
  intro k C hr hlv hmc hms hPo hPx htab
  have i16 := I.s16
  have ia := I.a10 p.toNat
  refine ev_s C dX7_leaves_0 (q := 1) rfl rfl ?_
  refine ev_s C dX7_leaves_1 (q := 2) rfl rfl ?_
  refine mg_21 C dX7_leaves_2 (q := 5) rfl ?_
  refine ev_s C dX7_leaves_5 (q := 6) rfl rfl ?_
  refine mg_10 C dX7_leaves_6 (q := 9) rfl ?_
  refine ev_s C dX7_leaves_9 (q := 10) rfl rfl ?_
  refine ml_10 C dX7_leaves_10 (q := 11) rfl (by omega) ?_
  refine ev_if_ne C dX7_leaves_11 (tgt := 18) (q := 14) (by decide) rfl (by first | decide | (unfold rg; omega) | assumption | exact bAnd_rg _ _) (fun b0 => ?_) (fun b0 => ?_)
  · refine ev_s C dX7_leaves_18 (q := 19) rfl rfl ?_
    refine mg_10 C dX7_leaves_19 (q := 22) rfl ?_
    refine ev_s C dX7_leaves_22 (q := 23) rfl rfl ?_
    refine ml_10 C dX7_leaves_23 (q := 24) rfl (by omega) ?_
    refine ev_s C dX7_leaves_24 (q := 25) rfl rfl ?_
    refine ev_icmp_ne C dX7_leaves_25 (tgt := 32) (q := 28) (by decide) rfl (by first | decide | (unfold rg; omega) | assumption | exact bAnd_rg _ _) (by first | decide | (unfold rg; omega) | assumption | exact bAnd_rg _ _) (fun b1 => ?_) (fun b1 => ?_)
    · refine ev_s C dX7_leaves_32 (q := 34) rfl rfl ?_
      refine ev_s C dX7_leaves_34 (q := 35) rfl rfl ?_
      refine mp_21 C dX7_leaves_35 (q := 38) rfl ?_
      refine ev_eq (G := mk u (stS v 21 (v.1 21 + lvC (v.2 10 p.toNat))) g) (by unfold lvC; simp [*]) ?_
      refine ev_s C dX7_leaves_38 (q := 39) rfl rfl ?_
      refine mg_16 C dX7_leaves_39 (q := 42) rfl ?_
      refine ev_s C dX7_leaves_42 (q := 43) rfl rfl ?_
      refine ev_s C dX7_leaves_43 (q := 44) rfl rfl ?_
      refine ev_s C dX7_leaves_44 (q := 45) rfl rfl ?_
      have J : MI (stS v 21 (v.1 21 + lvC (v.2 10 p.toNat))) := MI_S I (by show 0 ≤ v.1 21 + lvC (v.2 10 p.toNat) ∧ v.1 21 + lvC (v.2 10 p.toNat) ≤ 100000000; have := I.s21; have := lvC_bd (v.2 10 p.toNat); omega)
      refine l_X7_leaves C hlv (by unfold rg; omega) ((v.1 16).toNat + 1) (v.1 16).toNat _ _ (by show v.1 16 - 1 = _; omega) (by omega) J (by show _ ≤ v.1 16; omega) ?_
      refine ev_s C dX7_leaves_70 (q := 71) rfl rfl ?_
      refine mg_10 C dX7_leaves_71 (q := 74) rfl ?_
      refine ev_s C dX7_leaves_74 (q := 75) rfl rfl ?_
      refine ev_s C dX7_leaves_75 (q := 76) rfl rfl ?_
      refine ms_10 C dX7_leaves_76 (q := 77) rfl (by omega) ?_
      exact ev_vret C hr dX7_leaves_77 (Nat.zero_le _) (Nat.zero_le _) (po_0 hPo rfl)
    · refine ev_s C dX7_leaves_28 (q := 29) rfl rfl ?_
      refine ev_goto C dX7_leaves_29 (tgt := 34) (by decide) ?_
      refine ev_s C dX7_leaves_34 (q := 35) rfl rfl ?_
      refine mp_21 C dX7_leaves_35 (q := 38) rfl ?_
      refine ev_eq (G := mk u (stS v 21 (v.1 21 + lvC (v.2 10 p.toNat))) g) (by unfold lvC; simp [*]) ?_
      refine ev_s C dX7_leaves_38 (q := 39) rfl rfl ?_
      refine mg_16 C dX7_leaves_39 (q := 42) rfl ?_
      refine ev_s C dX7_leaves_42 (q := 43) rfl rfl ?_
      refine ev_s C dX7_leaves_43 (q := 44) rfl rfl ?_
      refine ev_s C dX7_leaves_44 (q := 45) rfl rfl ?_
      have J : MI (stS v 21 (v.1 21 + lvC (v.2 10 p.toNat))) := MI_S I (by show 0 ≤ v.1 21 + lvC (v.2 10 p.toNat) ∧ v.1 21 + lvC (v.2 10 p.toNat) ≤ 100000000; have := I.s21; have := lvC_bd (v.2 10 p.toNat); omega)
      refine l_X7_leaves C hlv (by unfold rg; omega) ((v.1 16).toNat + 1) (v.1 16).toNat _ _ (by show v.1 16 - 1 = _; omega) (by omega) J (by show _ ≤ v.1 16; omega) ?_
      refine ev_s C dX7_leaves_70 (q := 71) rfl rfl ?_
      refine mg_10 C dX7_leaves_71 (q := 74) rfl ?_
      refine ev_s C dX7_leaves_74 (q := 75) rfl rfl ?_
      refine ev_s C dX7_leaves_75 (q := 76) rfl rfl ?_
      refine ms_10 C dX7_leaves_76 (q := 77) rfl (by omega) ?_
      exact ev_vret C hr dX7_leaves_77 (Nat.zero_le _) (Nat.zero_le _) (po_0 hPo rfl)
  · refine ev_s C dX7_leaves_14 (q := 15) rfl rfl ?_
    refine ev_goto C dX7_leaves_15 (tgt := 34) (by decide) ?_
    refine ev_s C dX7_leaves_34 (q := 35) rfl rfl ?_
    refine mp_21 C dX7_leaves_35 (q := 38) rfl ?_
    refine ev_eq (G := mk u (stS v 21 (v.1 21 + lvC (v.2 10 p.toNat))) g) (by unfold lvC; simp [*]) ?_
    refine ev_s C dX7_leaves_38 (q := 39) rfl rfl ?_
    refine mg_16 C dX7_leaves_39 (q := 42) rfl ?_
    refine ev_s C dX7_leaves_42 (q := 43) rfl rfl ?_
    refine ev_s C dX7_leaves_43 (q := 44) rfl rfl ?_
    refine ev_s C dX7_leaves_44 (q := 45) rfl rfl ?_
    have J : MI (stS v 21 (v.1 21 + lvC (v.2 10 p.toNat))) := MI_S I (by show 0 ≤ v.1 21 + lvC (v.2 10 p.toNat) ∧ v.1 21 + lvC (v.2 10 p.toNat) ≤ 100000000; have := I.s21; have := lvC_bd (v.2 10 p.toNat); omega)
    refine l_X7_leaves C hlv (by unfold rg; omega) ((v.1 16).toNat + 1) (v.1 16).toNat _ _ (by show v.1 16 - 1 = _; omega) (by omega) J (by show _ ≤ v.1 16; omega) ?_
    refine ev_s C dX7_leaves_70 (q := 71) rfl rfl ?_
    refine mg_10 C dX7_leaves_71 (q := 74) rfl ?_
    refine ev_s C dX7_leaves_74 (q := 75) rfl rfl ?_
    refine ev_s C dX7_leaves_75 (q := 76) rfl rfl ?_
    refine ms_10 C dX7_leaves_76 (q := 77) rfl (by omega) ?_
    exact ev_vret C hr dX7_leaves_77 (Nat.zero_le _) (Nat.zero_le _) (po_0 hPo rfl)
