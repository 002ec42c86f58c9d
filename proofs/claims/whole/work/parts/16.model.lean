/-! THE MODEL: needs that hand on, a page comes, touch -/
def rn (v : SS) : Nat → Nat → Bool
  | 0, _ => true
  | d + 1, s => decide (v.2 4 s = 0) && !anyN (v.1 0).toNat (fun k => ndB v s k && !rn v d k)
def rnP (v : SS) (d s k : Nat) : Bool := ndB v s k && !rn v d k
theorem rn_s {v : SS} {d s : Nat} : rn v (d + 1) s = (decide (v.2 4 s = 0) && !anyN (v.1 0).toNat (rnP v d s)) := rfl
def ral (v : SS) (o : Nat) : Nat → Nat → Bool
  | 0, _ => false
  | d + 1, s => anyN (v.1 0).toNat (fun k => ndB v s k && (decide (k = o) || ral v o d k))
def raP (v : SS) (o d s k : Nat) : Bool := ndB v s k && (decide (k = o) || ral v o d k)
theorem raP_t {v : SS} {o d s z : Nat} (h1 : ndB v s z = true) (h2 : (z : Int) = o ∨ ral v o d z = true) : raP v o d s z = true := by
  unfold raP
  rw [h1]
  rcases h2 with h | h
  · obtain rfl : z = o := by omega
    simp
  · simp [h]
theorem ral_s {v : SS} {o d s : Nat} : ral v o (d + 1) s = anyN (v.1 0).toNat (raP v o d s) := rfl
/-- ranks that fall along needs -/
def RK (v : SS) (rk : Nat → Nat) : Prop := (∀ s, rk s < 6) ∧ ∀ s k : Nat, s < 6 → k < 6 → ndB v s k = true → rk k < rk s
set_option maxHeartbeats 4000000 in
set_option maxRecDepth 100000 in
theorem l_X7_runs {k : Kx} {d : Nat} (C : CX k RX7 cX7_runs 3) (hlv : klev k = d + 2) {u v : SS} {g : GH} (I : MI v) {rk : Nat → Nat} (hk : RK v rk) {s N : Nat} (hs : s < 6) (hsr : rk s < d + 1) (hN : v.1 0 = (N : Int)) (hal : v.2 4 s = 0) (ihd : ∀ z : Nat, (z : Int) < v.1 0 → rk z < d → Cn yX7_runs (wsy yX7_runs cX7_runs 3 (some .boolean)) (d + 1) 0 0 nn [vR (some 0), vI (z : Int)] (mk u v g) (.inl (some (vI (bI (rn v d z))), mk u v g))) (hr : (kmeth k).sig.returnType = some .boolean) (hPo : kPo k = PoR (.inl (some (vI (bI (rn v (d + 1) s))), mk u v g))) : ∀ (m z : Nat), z ≤ N → N < z + m → anyN z (rnP v d s) = false → EV k 13 [(0, vR (some 0)), (1, vI (s : Int)), (2, vI (z : Int))] [] (mk u v g) 0 0 := by
  intro m
  induction m with
  | zero =>
    intros
    exfalso
    omega
  | succ m ih =>
    intro z h1 h2 h3
    have i0 := I.s0
    obtain rfl : N = (v.1 0).toNat := by omega
    refine ev_s C dX7_runs_13 (q := 14) rfl rfl ?_
    refine ev_s C dX7_runs_14 (q := 15) rfl rfl ?_
    refine mg_0 C dX7_runs_15 (q := 18) rfl ?_
    refine ev_icmp_ge C dX7_runs_18 (tgt := 46) (q := 21) (by decide) rfl (by first | decide | (unfold rg; omega) | assumption | exact bAnd_rg _ _) (by first | decide | (unfold rg; omega) | assumption | exact bAnd_rg _ _) (fun b0 => ?_) (fun b0 => ?_)
    · refine ev_s C dX7_runs_46 (q := 47) rfl rfl ?_
      exact ev_zret C hr (fit_Z (by first | decide | exact bI_01 _ | assumption)) dX7_runs_47 (Nat.zero_le _) (Nat.zero_le _) (po_1 hPo (by (obtain rfl : z = (v.1 0).toNat := (by omega)); rw [rn_s, h3, hal]; rfl) rfl)
    · refine ev_s C dX7_runs_21 (q := 22) rfl rfl ?_
      refine ev_s C dX7_runs_22 (q := 23) rfl rfl ?_
      refine ev_s C dX7_runs_23 (q := 24) rfl rfl ?_
      refine ev_cV C dX7_runs_24 (q := 27) rfl km_X7_82 kv_X7_needs kc_X7_needs (c_X7_needs (by omega)) rfl rfl vcX7 go_0 (by rw [hlv]; first | decide | omega) (by decide) (Nat.le_of_ble_eq_true rfl) (Nat.zero_le _) (Nat.zero_le _) ?_
      refine ev_ifB_eq C dX7_runs_27 (tgt := 40) (q := 30) (by decide) rfl (fun b1 => ?_) (fun b1 => ?_)
      · refine ev_s C dX7_runs_40 (q := 43) rfl rfl ?_
        refine ev_goto C dX7_runs_43 (tgt := 13) (by decide) ?_
        exact ih (z + 1) (by omega) (by omega) (anyN_s h3 (by unfold rnP; simp [*]))
      · refine ev_s C dX7_runs_30 (q := 31) rfl rfl ?_
        refine ev_s C dX7_runs_31 (q := 32) rfl rfl ?_
        refine ev_cV C dX7_runs_32 (q := 35) rfl km_X7_88 kv_X7_runs kc_X7_runs (ihd z (by omega) (by have := hk.2 s z (by omega) (by omega) (by assumption); omega)) rfl rfl vcX7 go_0 (by rw [hlv]; first | decide | omega) (by decide) (Nat.le_of_ble_eq_true rfl) (Nat.zero_le _) (Nat.zero_le _) ?_
        refine ev_ifB_ne C dX7_runs_35 (tgt := 40) (q := 38) (by decide) rfl (fun b2 => ?_) (fun b2 => ?_)
        · refine ev_s C dX7_runs_40 (q := 43) rfl rfl ?_
          refine ev_goto C dX7_runs_43 (tgt := 13) (by decide) ?_
          exact ih (z + 1) (by omega) (by omega) (anyN_s h3 (by unfold rnP; simp [*]))
        · refine ev_s C dX7_runs_38 (q := 39) rfl rfl ?_
          exact ev_zret C hr (fit_Z (by first | decide | exact bI_01 _ | assumption)) dX7_runs_39 (Nat.zero_le _) (Nat.zero_le _) (po_1 hPo (by rw [rn_s, anyN_t (z := z) (by omega) (by unfold rnP; simp [*])]; simp [bI]) rfl)
set_option maxHeartbeats 4000000 in
set_option maxRecDepth 100000 in
theorem s_X7_runs {u v : SS} {g : GH} (I : MI v) {rk : Nat → Nat} (hk : RK v rk) {d s : Nat} (hs : (s : Int) < v.1 0) (hsr : rk s < d + 1) (ihd : ∀ z : Nat, (z : Int) < v.1 0 → rk z < d → Cn yX7_runs (wsy yX7_runs cX7_runs 3 (some .boolean)) (d + 1) 0 0 nn [vR (some 0), vI (z : Int)] (mk u v g) (.inl (some (vI (bI (rn v d z))), mk u v g))) : Cn yX7_runs (wsy yX7_runs cX7_runs 3 (some .boolean)) (d + 2) 0 0 nn [vR (some 0), vI (s : Int)] (mk u v g) (.inl (some (vI (bI (rn v (d + 1) s))), mk u v g)) := by
  refine con_j (lv := [(0, vR (some 0)), (1, vI (s : Int))]) (by decide) (fun ad => Nat.le_of_ble_eq_true rfl) (fun ad => rfl) rfl ?_
  intro k C hr hlv hmc hms hPo hPx htab
  have i0 := I.s0
  have ia := I.a4 s
  refine ev_s C dX7_runs_0 (q := 1) rfl rfl ?_
  refine mg_4 C dX7_runs_1 (q := 4) rfl ?_
  refine ev_s C dX7_runs_4 (q := 5) rfl rfl ?_
  refine ml_4 C dX7_runs_5 (q := 6) rfl (by omega) ?_
  show EV k 6 _ (vI (v.2 4 s) :: []) _ _ _
  refine ev_if_eq C dX7_runs_6 (tgt := 11) (q := 9) (by decide) rfl (by first | decide | (unfold rg; omega) | assumption | exact bAnd_rg _ _) (fun b0 => ?_) (fun b0 => ?_)
  · refine ev_s C dX7_runs_11 (q := 12) rfl rfl ?_
    refine ev_s C dX7_runs_12 (q := 13) rfl rfl ?_
    exact l_X7_runs C hlv I hk (N := (v.1 0).toNat) (by omega) hsr (by omega) (by omega) ihd hr hPo ((v.1 0).toNat + 1) 0 (Nat.zero_le _) (by omega) rfl
  · refine ev_s C dX7_runs_9 (q := 10) rfl rfl ?_
    exact ev_zret C hr (fit_Z (by first | decide | exact bI_01 _ | assumption)) dX7_runs_10 (Nat.zero_le _) (Nat.zero_le _) (po_1 hPo (by rw [rn_s]; simp [bI, *]) rfl)
theorem c_X7_runs {u v : SS} {g : GH} (I : MI v) {rk : Nat → Nat} (hk : RK v rk) : ∀ (d s : Nat), (s : Int) < v.1 0 → rk s < d → Cn yX7_runs (wsy yX7_runs cX7_runs 3 (some .boolean)) (d + 1) 0 0 nn [vR (some 0), vI (s : Int)] (mk u v g) (.inl (some (vI (bI (rn v d s))), mk u v g))
  | 0, s, _, h => absurd h (Nat.not_lt_zero _)
  | d + 1, s, h1, h2 => s_X7_runs I hk h1 h2 (c_X7_runs I hk d)
set_option maxHeartbeats 4000000 in
set_option maxRecDepth 100000 in
theorem l_X7_needsAtLast {k : Kx} {d : Nat} (C : CX k RX7 cX7_needsAtLast 4) (hlv : klev k = d + 2) {u v : SS} {g : GH} (I : MI v) {rk : Nat → Nat} (hk : RK v rk) {s o N : Nat} (hs : s < 6) (ho : o < 6) (hsr : rk s < d + 1) (hN : v.1 0 = (N : Int)) (ihd : ∀ z : Nat, (z : Int) < v.1 0 → rk z < d → Cn yX7_needsAtLast (wsy yX7_needsAtLast cX7_needsAtLast 4 (some .boolean)) (d + 1) 0 0 nn [vR (some 0), vI (z : Int), vI (o : Int)] (mk u v g) (.inl (some (vI (bI (ral v o d z))), mk u v g))) (hr : (kmeth k).sig.returnType = some .boolean) (hPo : kPo k = PoR (.inl (some (vI (bI (ral v o (d + 1) s))), mk u v g))) : ∀ (m z : Nat), z ≤ N → N < z + m → anyN z (raP v o d s) = false → EV k 2 [(0, vR (some 0)), (1, vI (s : Int)), (2, vI (o : Int)), (3, vI (z : Int))] [] (mk u v g) 0 0 := by
  intro m
  induction m with
  | zero =>
    intros
    exfalso
    omega
  | succ m ih =>
    intro z h1 h2 h3
    have i0 := I.s0
    obtain rfl : N = (v.1 0).toNat := by omega
    refine ev_s C dX7_needsAtLast_2 (q := 3) rfl rfl ?_
    refine ev_s C dX7_needsAtLast_3 (q := 4) rfl rfl ?_
    refine mg_0 C dX7_needsAtLast_4 (q := 7) rfl ?_
    refine ev_icmp_ge C dX7_needsAtLast_7 (tgt := 41) (q := 10) (by decide) rfl (by first | decide | (unfold rg; omega) | assumption | exact bAnd_rg _ _) (by first | decide | (unfold rg; omega) | assumption | exact bAnd_rg _ _) (fun b0 => ?_) (fun b0 => ?_)
    · refine ev_s C dX7_needsAtLast_41 (q := 42) rfl rfl ?_
      exact ev_zret C hr (fit_Z (by first | decide | exact bI_01 _ | assumption)) dX7_needsAtLast_42 (Nat.zero_le _) (Nat.zero_le _) (po_1 hPo (by (obtain rfl : z = (v.1 0).toNat := (by omega)); rw [ral_s, h3]; rfl) rfl)
    · refine ev_s C dX7_needsAtLast_10 (q := 11) rfl rfl ?_
      refine ev_s C dX7_needsAtLast_11 (q := 12) rfl rfl ?_
      refine ev_s C dX7_needsAtLast_12 (q := 13) rfl rfl ?_
      refine ev_cV C dX7_needsAtLast_13 (q := 16) rfl km_X7_82 kv_X7_needs kc_X7_needs (c_X7_needs (by omega)) rfl rfl vcX7 go_0 (by rw [hlv]; first | decide | omega) (by decide) (Nat.le_of_ble_eq_true rfl) (Nat.zero_le _) (Nat.zero_le _) ?_
      refine ev_ifB_eq C dX7_needsAtLast_16 (tgt := 35) (q := 19) (by decide) rfl (fun b1 => ?_) (fun b1 => ?_)
      · refine ev_s C dX7_needsAtLast_35 (q := 38) rfl rfl ?_
        refine ev_goto C dX7_needsAtLast_38 (tgt := 2) (by decide) ?_
        exact ih (z + 1) (by omega) (by omega) (anyN_s h3 (by unfold raP; simp [*]; try omega))
      · refine ev_s C dX7_needsAtLast_19 (q := 20) rfl rfl ?_
        refine ev_s C dX7_needsAtLast_20 (q := 21) rfl rfl ?_
        refine ev_icmp_eq C dX7_needsAtLast_21 (tgt := 33) (q := 24) (by decide) rfl (by first | decide | (unfold rg; omega) | assumption | exact bAnd_rg _ _) (by first | decide | (unfold rg; omega) | assumption | exact bAnd_rg _ _) (fun b2 => ?_) (fun b2 => ?_)
        · refine ev_s C dX7_needsAtLast_33 (q := 34) rfl rfl ?_
          exact ev_zret C hr (fit_Z (by first | decide | exact bI_01 _ | assumption)) dX7_needsAtLast_34 (Nat.zero_le _) (Nat.zero_le _) (po_1 hPo (by rw [ral_s, anyN_t (z := z) (by omega) (raP_t (by assumption) (by first | exact Or.inr (by assumption) | exact Or.inl (by assumption)))]; rfl) rfl)
        · refine ev_s C dX7_needsAtLast_24 (q := 25) rfl rfl ?_
          refine ev_s C dX7_needsAtLast_25 (q := 26) rfl rfl ?_
          refine ev_s C dX7_needsAtLast_26 (q := 27) rfl rfl ?_
          refine ev_cV C dX7_needsAtLast_27 (q := 30) rfl km_X7_85 kv_X7_needsAtLast kc_X7_needsAtLast (ihd z (by omega) (by have := hk.2 s z (by omega) (by omega) (by assumption); omega)) rfl rfl vcX7 go_0 (by rw [hlv]; first | decide | omega) (by decide) (Nat.le_of_ble_eq_true rfl) (Nat.zero_le _) (Nat.zero_le _) ?_
          refine ev_ifB_eq C dX7_needsAtLast_30 (tgt := 35) (q := 33) (by decide) rfl (fun b3 => ?_) (fun b3 => ?_)
          · refine ev_s C dX7_needsAtLast_35 (q := 38) rfl rfl ?_
            refine ev_goto C dX7_needsAtLast_38 (tgt := 2) (by decide) ?_
            exact ih (z + 1) (by omega) (by omega) (anyN_s h3 (by unfold raP; simp [*]; try omega))
          · refine ev_s C dX7_needsAtLast_33 (q := 34) rfl rfl ?_
            exact ev_zret C hr (fit_Z (by first | decide | exact bI_01 _ | assumption)) dX7_needsAtLast_34 (Nat.zero_le _) (Nat.zero_le _) (po_1 hPo (by rw [ral_s, anyN_t (z := z) (by omega) (raP_t (by assumption) (by first | exact Or.inr (by assumption) | exact Or.inl (by assumption)))]; rfl) rfl)
set_option maxHeartbeats 4000000 in
set_option maxRecDepth 100000 in
theorem s_X7_needsAtLast {u v : SS} {g : GH} (I : MI v) {rk : Nat → Nat} (hk : RK v rk) {d s o : Nat} (hs : (s : Int) < v.1 0) (ho : o < 6) (hsr : rk s < d + 1) (ihd : ∀ z : Nat, (z : Int) < v.1 0 → rk z < d → Cn yX7_needsAtLast (wsy yX7_needsAtLast cX7_needsAtLast 4 (some .boolean)) (d + 1) 0 0 nn [vR (some 0), vI (z : Int), vI (o : Int)] (mk u v g) (.inl (some (vI (bI (ral v o d z))), mk u v g))) : Cn yX7_needsAtLast (wsy yX7_needsAtLast cX7_needsAtLast 4 (some .boolean)) (d + 2) 0 0 nn [vR (some 0), vI (s : Int), vI (o : Int)] (mk u v g) (.inl (some (vI (bI (ral v o (d + 1) s))), mk u v g)) := by
  refine con_j (lv := [(0, vR (some 0)), (1, vI (s : Int)), (2, vI (o : Int))]) (by decide) (fun ad => Nat.le_of_ble_eq_true rfl) (fun ad => rfl) rfl ?_
  intro k C hr hlv hmc hms hPo hPx htab
  have i0 := I.s0
  refine ev_s C dX7_needsAtLast_0 (q := 1) rfl rfl ?_
  refine ev_s C dX7_needsAtLast_1 (q := 2) rfl rfl ?_
  exact l_X7_needsAtLast C hlv I hk (N := (v.1 0).toNat) (by omega) ho hsr (by omega) ihd hr hPo ((v.1 0).toNat + 1) 0 (Nat.zero_le _) (by omega) rfl
theorem c_X7_needsAtLast {u v : SS} {g : GH} (I : MI v) {rk : Nat → Nat} (hk : RK v rk) {o : Nat} (ho : o < 6) : ∀ (d s : Nat), (s : Int) < v.1 0 → rk s < d → Cn yX7_needsAtLast (wsy yX7_needsAtLast cX7_needsAtLast 4 (some .boolean)) (d + 1) 0 0 nn [vR (some 0), vI (s : Int), vI (o : Int)] (mk u v g) (.inl (some (vI (bI (ral v o d s))), mk u v g))
  | 0, s, _, h => absurd h (Nat.not_lt_zero _)
  | d + 1, s, h1, h2 => s_X7_needsAtLast I hk h1 ho h2 (c_X7_needsAtLast I hk ho d)
def ffr (v : SS) : Int := fnd (frB v) (v.1 11).toNat
def cmA (w : SS) : SS := if ffr w < 0 then clrM w else w
def cmB (x : SS) (p : Int) : SS := stA (stA (stA x 12 (ffr x).toNat p) 13 (ffr x).toNat 1) 10 p.toNat 1
def cmM (v : SS) (p : Int) : SS := cmB (cmA (leM v p)) p
theorem leM_S {v : SS} {p : Int} {k : Nat} (h1 : k ≠ 16) (h2 : k ≠ 21) : (leM v p).1 k = v.1 k := by
  show (rml _ _ _).1 k = _
  rw [rml_S h1, stS_1, if_neg h2]
theorem leM_A {v : SS} {p : Int} {a j : Nat} (h1 : a ≠ 17) (h2 : a ≠ 10) : (leM v p).2 a j = v.2 a j := by
  show (stA _ 10 _ 0).2 a j = _
  rw [stA_2, if_neg h2, rml_A h1]; rfl
theorem leM_21 {v : SS} {p : Int} : (leM v p).1 21 = v.1 21 + lvC (v.2 10 p.toNat) := by
  show (rml _ _ _).1 21 = _
  rw [rml_S (by decide)]
  rfl
theorem leM_I {v : SS} {p : Int} (I : MI v) (hm : v.1 21 + 10 ≤ 100000000) : MI (leM v p) ∧ (leM v p).1 16 ≤ v.1 16 := by
  have i16 := I.s16
  have i21 := I.s21
  have hl := lvC_bd (v.2 10 p.toNat)
  have J : MI (stS v 21 (v.1 21 + lvC (v.2 10 p.toNat))) := MI_S I (by show 0 ≤ v.1 21 + lvC (v.2 10 p.toNat) ∧ v.1 21 + lvC (v.2 10 p.toNat) ≤ 100000000; omega)
  have h := rml_I (P := fun x => decide (x = p)) (v.1 16).toNat _ J (by show (((v.1 16).toNat : Nat) : Int) ≤ v.1 16; omega)
  exact ⟨MI_A h.1 (by decide), h.2⟩
theorem leM_occ {v : SS} {p : Int} : occ (leM v p) = occ v := by
  unfold occ
  exact sumN_c (fun z _ => by rw [leM_A (by decide) (by decide)])
theorem ffr_bd {v : SS} (I : MI v) : -1 ≤ ffr v ∧ ffr v < v.1 11 ∧ ffr v < 16 := by
  have i := I.s11
  have h := fnd_bd (p := frB v) (v.1 11).toNat
  unfold ffr
  omega
theorem ffr_all {v : SS} (h : ffr v < 0) : ∀ f : Nat, f < 16 → (f : Int) < v.1 11 → 0 ≤ v.2 12 f := fun f _ h2 => by
  have := fnd_all h f (by omega)
  unfold frB at this
  simp at this
  omega
theorem ffr_ex {v : SS} (h : ∃ f : Nat, f < 16 ∧ (f : Int) < v.1 11 ∧ v.2 12 f = -1) : 0 ≤ ffr v := by
  obtain ⟨f, h1, h2, h3⟩ := h
  apply Classical.byContradiction
  intro hn
  have := ffr_all (v := v) (by omega) f h1 h2
  omega
theorem cmA_I {w : SS} (I : MI w) (hh : w.1 14 < w.1 11) (ho : w.1 16 + occ w ≤ 48) (hm : w.1 21 + 300 ≤ 100000000) : MI (cmA w) ∧ (cmA w).1 21 ≤ w.1 21 + 300 ∧ 0 ≤ ffr (cmA w) ∧ (cmA w).1 14 < (cmA w).1 11 := by
  unfold cmA
  by_cases e : ffr w < 0
  · rw [if_pos e]
    have h := clrM_I I hh (ffr_all e) ho hm
    exact ⟨h.1, h.2.1, ffr_ex (by rw [h.2.2.2.2.1]; exact h.2.2.2.2.2), h.2.2.2.1⟩
  · rw [if_neg e]
    exact ⟨I, by omega, by omega, hh⟩
theorem cmB_I {x : SS} {p : Int} (I : MI x) (hp : 0 ≤ p ∧ p < 48) : MI (cmB x p) := MI_A (MI_A (MI_A I (by show -1 ≤ p ∧ p ≤ 47; omega)) (by decide)) (by decide)
theorem cmM_I {v : SS} {p : Int} (I : MI v) (hp : 0 ≤ p ∧ p < 48) (hh : v.1 14 < v.1 11) (ho : v.1 16 + occ v ≤ 48) (hm : v.1 21 + 310 ≤ 100000000) : MI (cmM v p) ∧ (cmM v p).1 21 ≤ v.1 21 + 310 ∧ (cmM v p).1 14 < (cmM v p).1 11 := by
  have h1 := leM_I (p := p) I (by omega)
  have hl := lvC_bd (v.2 10 p.toNat)
  have e21 := leM_21 (v := v) (p := p)
  have e14 := leM_S (v := v) (p := p) (k := 14) (by decide) (by decide)
  have e11 := leM_S (v := v) (p := p) (k := 11) (by decide) (by decide)
  have eo := leM_occ (v := v) (p := p)
  have h2 := cmA_I h1.1 (by omega) (by omega) (by omega)
  exact ⟨cmB_I h2.1 hp, by have := h2.2.1; show (cmA (leM v p)).1 21 ≤ _; omega, h2.2.2.2⟩
set_option maxHeartbeats 4000000 in
set_option maxRecDepth 100000 in
theorem c_X7_comes {u v : SS} {g : GH} (I : MI v) {p : Int} (hp : 0 ≤ p ∧ p < 48) (hh : v.1 14 < v.1 11) (ho : v.1 16 + occ v ≤ 48) (hm : v.1 21 + 310 ≤ 100000000) : Cn yX7_comes (wsy yX7_comes cX7_comes 3 none) 4 0 0 nn [vR (some 0), vI p] (mk u v g) (.inl (none, mk u (cmM v p) g)) := by
  refine con_j (lv := [(0, vR (some 0)), (1, vI p)]) (by decide) (fun ad => Nat.le_of_ble_eq_true rfl) (fun ad => rfl) rfl ?_
  intro k C hr hlv hmc hms hPo hPx htab
  have h1 := leM_I (p := p) I (by omega)
  have hl := lvC_bd (v.2 10 p.toNat)
  have e21 := leM_21 (v := v) (p := p)
  have e14 := leM_S (v := v) (p := p) (k := 14) (by decide) (by decide)
  have e11 := leM_S (v := v) (p := p) (k := 11) (by decide) (by decide)
  have eo := leM_occ (v := v) (p := p)
  have h2 := cmA_I h1.1 (by omega) (by omega) (by omega)
  have h3 := h2.2.2.1
  have h4 := ffr_bd h2.1
  have h5 := ffr_bd h1.1
  refine ev_s C dX7_comes_0 (q := 1) rfl rfl ?_
  refine ev_s C dX7_comes_1 (q := 2) rfl rfl ?_
  refine ev_cV C dX7_comes_2 (q := 5) rfl km_X7_117 kv_X7_leaves kc_X7_leaves (c_X7_leaves I hp (by omega)) rfl rfl vcX7 go_0 (by rw [hlv]; first | decide | omega) (by decide) (Nat.le_of_ble_eq_true rfl) (Nat.zero_le _) (Nat.zero_le _) ?_
  refine ev_s C dX7_comes_5 (q := 6) rfl rfl ?_
  refine ev_cV C dX7_comes_6 (q := 9) rfl km_X7_120 kv_X7_freeFrame kc_X7_freeFrame (c_X7_freeFrame h1.1) rfl rfl vcX7 go_0 (by rw [hlv]; first | decide | omega) (by decide) (Nat.le_of_ble_eq_true rfl) (Nat.zero_le _) (Nat.zero_le _) ?_
  show EV k 9 _ (vI (ffr (leM v p)) :: []) _ _ _
  refine ev_if_ge C dX7_comes_9 (tgt := 16) (q := 12) (by decide) rfl (by first | decide | (unfold rg; omega) | assumption | exact bAnd_rg _ _) (fun b0 => ?_) (fun b0 => ?_)
  · have ex : cmA (leM v p) = leM v p := by unfold cmA; rw [if_neg (by omega)]
    refine ev_eq (G := mk u (cmA (leM v p)) g) (by rw [ex]) ?_
    have hx := h2.1
    refine ev_eq (G := mk u (cmA (leM v p)) g) (by rw [ex]) ?_
    refine ev_s C dX7_comes_16 (q := 17) rfl rfl ?_
    refine ev_cV C dX7_comes_17 (q := 20) rfl km_X7_120 kv_X7_freeFrame kc_X7_freeFrame (c_X7_freeFrame hx) rfl rfl vcX7 go_0 (by rw [hlv]; first | decide | omega) (by decide) (Nat.le_of_ble_eq_true rfl) (Nat.zero_le _) (Nat.zero_le _) ?_
    refine ev_s C dX7_comes_20 (q := 21) rfl rfl ?_
    refine ev_s C dX7_comes_21 (q := 22) rfl rfl ?_
    refine mg_12 C dX7_comes_22 (q := 25) rfl ?_
    refine ev_s C dX7_comes_25 (q := 26) rfl rfl ?_
    refine ev_s C dX7_comes_26 (q := 27) rfl rfl ?_
    refine ms_12 C dX7_comes_27 (q := 28) rfl (by show 0 ≤ ffr (cmA (leM v p)) ∧ ffr (cmA (leM v p)) < 16; omega) ?_
    refine ev_s C dX7_comes_28 (q := 29) rfl rfl ?_
    refine mg_13 C dX7_comes_29 (q := 32) rfl ?_
    refine ev_s C dX7_comes_32 (q := 33) rfl rfl ?_
    refine ev_s C dX7_comes_33 (q := 34) rfl rfl ?_
    refine ms_13 C dX7_comes_34 (q := 35) rfl (by omega) (by show 0 ≤ ffr (cmA (leM v p)) ∧ ffr (cmA (leM v p)) < 16; omega) ?_
    refine ev_s C dX7_comes_35 (q := 36) rfl rfl ?_
    refine mg_10 C dX7_comes_36 (q := 39) rfl ?_
    refine ev_s C dX7_comes_39 (q := 40) rfl rfl ?_
    refine ev_s C dX7_comes_40 (q := 41) rfl rfl ?_
    refine ms_10 C dX7_comes_41 (q := 42) rfl (by omega) ?_
    exact ev_vret C hr dX7_comes_42 (Nat.zero_le _) (Nat.zero_le _) (po_0 hPo rfl)
  · have ex : cmA (leM v p) = clrM (leM v p) := by unfold cmA; rw [if_pos (by omega)]
    have hx := h2.1
    refine ev_s C dX7_comes_12 (q := 13) rfl rfl ?_
    refine ev_cV C dX7_comes_13 (q := 16) rfl km_X7_123 kv_X7_clears kc_X7_clears (c_X7_clears h1.1 (by omega) (ffr_all (by omega)) (by omega) (by omega)) rfl rfl vcX7 go_0 (by rw [hlv]; first | decide | omega) (by decide) (Nat.le_of_ble_eq_true rfl) (Nat.zero_le _) (Nat.zero_le _) ?_
    refine ev_eq (G := mk u (cmA (leM v p)) g) (by rw [ex]) ?_
    refine ev_s C dX7_comes_16 (q := 17) rfl rfl ?_
    refine ev_cV C dX7_comes_17 (q := 20) rfl km_X7_120 kv_X7_freeFrame kc_X7_freeFrame (c_X7_freeFrame hx) rfl rfl vcX7 go_0 (by rw [hlv]; first | decide | omega) (by decide) (Nat.le_of_ble_eq_true rfl) (Nat.zero_le _) (Nat.zero_le _) ?_
    refine ev_s C dX7_comes_20 (q := 21) rfl rfl ?_
    refine ev_s C dX7_comes_21 (q := 22) rfl rfl ?_
    refine mg_12 C dX7_comes_22 (q := 25) rfl ?_
    refine ev_s C dX7_comes_25 (q := 26) rfl rfl ?_
    refine ev_s C dX7_comes_26 (q := 27) rfl rfl ?_
    refine ms_12 C dX7_comes_27 (q := 28) rfl (by show 0 ≤ ffr (cmA (leM v p)) ∧ ffr (cmA (leM v p)) < 16; omega) ?_
    refine ev_s C dX7_comes_28 (q := 29) rfl rfl ?_
    refine mg_13 C dX7_comes_29 (q := 32) rfl ?_
    refine ev_s C dX7_comes_32 (q := 33) rfl rfl ?_
    refine ev_s C dX7_comes_33 (q := 34) rfl rfl ?_
    refine ms_13 C dX7_comes_34 (q := 35) rfl (by omega) (by show 0 ≤ ffr (cmA (leM v p)) ∧ ffr (cmA (leM v p)) < 16; omega) ?_
    refine ev_s C dX7_comes_35 (q := 36) rfl rfl ?_
    refine mg_10 C dX7_comes_36 (q := 39) rfl ?_
    refine ev_s C dX7_comes_39 (q := 40) rfl rfl ?_
    refine ev_s C dX7_comes_40 (q := 41) rfl rfl ?_
    refine ms_10 C dX7_comes_41 (q := 42) rfl (by omega) ?_
    exact ev_vret C hr dX7_comes_42 (Nat.zero_le _) (Nat.zero_le _) (po_0 hPo rfl)
