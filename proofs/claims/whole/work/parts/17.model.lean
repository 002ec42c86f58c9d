/-! THE MODEL: touch, ticks -/
def thA (v : SS) (p : Int) : SS := if (stS v 21 0).2 10 p.toNat = 1 then stA (stS v 21 0) 13 (fnd (fwB (stS v 21 0) p) (v.1 11).toNat).toNat 1 else cmM (stS v 21 0) p
def thB (b : SS) : SS := stA b 20 (b.1 19 % 4).toNat (b.2 20 (b.1 19 % 4).toNat + b.1 21)
def thC (b : SS) (s : Int) : SS := stA b 8 s.toNat (b.2 8 s.toNat + b.1 21)
def thD (b : SS) : SS := stS (stS b 24 (b.1 24 + b.1 21)) 22 (b.1 22 + 1)
def thE (b : SS) : SS := stS b 23 (b.1 23 + (if b.1 21 = 0 then 1 else 0))
def thM (v : SS) (s p : Int) : SS := thE (thD (thC (thB (thA (stS (stS v 26 0) 26 0) (8 * s + p))) s))
theorem thA_I {v : SS} {p : Int} (I : MI v) (hp : 0 ≤ p ∧ p < 48) (hh : v.1 14 < v.1 11) (ho : v.1 16 + occ v ≤ 48) : MI (thA v p) ∧ (thA v p).1 21 ≤ 310 ∧ (thA v p).1 14 < (thA v p).1 11 := by
  have J : MI (stS v 21 0) := MI_S I (by decide)
  unfold thA
  split
  · exact ⟨MI_A J (by decide), by show (0 : Int) ≤ 310; decide, hh⟩
  · have h := cmM_I (v := stS v 21 0) (p := p) J hp hh ho (by show (0 : Int) + 310 ≤ 100000000; decide)
    exact ⟨h.1, h.2.1, h.2.2⟩
/-- what the counters may still take -/
def BG (v : SS) (b : Int) : Prop := v.1 19 + b ≤ 1000000 ∧ v.1 25 + b ≤ 1000000 ∧ ∀ j, v.2 6 j + b ≤ 1000000
def BT (v : SS) : Prop := (∀ j, v.2 20 j + 310 ≤ 1000000) ∧ (∀ j, v.2 8 j + 310 ≤ 1000000000) ∧ v.1 24 + 310 ≤ 1000000000 ∧ v.1 22 + 1 ≤ 1000000 ∧ v.1 23 + 1 ≤ 1000000
set_option maxHeartbeats 4000000 in
set_option maxRecDepth 100000 in
theorem c_X7_touch_x1 {u v : SS} {g : GH} (I : MI v) {s p : Int} (hs : rg s) (hp : rg p) (h : noPg v s p = true) : Cn yX7_touch (wsy yX7_touch cX7_touch 4 (some .int)) 8 0 0 nn [vR (some 0), vI s, vI p] (mk u v g) (.inl (some (vI 0), mk u (stS v 26 1) g)) := by
  refine con_j (lv := [(0, vR (some 0)), (1, vI s), (2, vI p)]) (by decide) (fun ad => Nat.le_of_ble_eq_true rfl) (fun ad => rfl) rfl ?_
  intro k C hr hlv hmc hms hPo hPx htab
  refine ev_s C dX7_touch_0 (q := 1) rfl rfl ?_
  refine ev_s C dX7_touch_1 (q := 2) rfl rfl ?_
  refine ev_s C dX7_touch_2 (q := 3) rfl rfl ?_
  refine ev_cV C dX7_touch_3 (q := 6) rfl km_X7_91 kv_X7_isNoPage kc_X7_isNoPage (c_X7_isNoPage I (by first | decide | (unfold rg; omega) | assumption | exact bAnd_rg _ _) (by first | decide | (unfold rg; omega) | assumption | exact bAnd_rg _ _)) rfl rfl vcX7 go_0 (by rw [hlv]; first | decide | omega) (by decide) (Nat.le_of_ble_eq_true rfl) (Nat.zero_le _) (Nat.zero_le _) ?_
  refine ev_ifB_ne C dX7_touch_6 (tgt := 29) (q := 9) (by decide) rfl (fun b0 => ?_) (fun b0 => ?_)
  · refine ev_s C dX7_touch_29 (q := 30) rfl rfl ?_
    exact ev_iret C hr dX7_touch_30 (Nat.zero_le _) (Nat.zero_le _) (po_1 hPo (by first | rfl | simp [*]) (by rw [h]; rfl))
  · exact absurd (h.symm.trans b0) (by decide)
theorem noPg_f {v : SS} {s p : Int} (h : noPg v s p = false) : 0 ≤ s ∧ s < v.1 0 ∧ 0 ≤ p ∧ p < 8 := by
  unfold noPg at h
  rw [Bool.or_eq_false_iff] at h
  have h1 := nonB_f h.1
  have h2 := h.2
  unfold inB at h2
  simp at h2
  omega
theorem rn_26 {v : SS} {x : Int} : ∀ {d s : Nat}, rn (stS v 26 x) d s = rn v d s
  | 0, _ => rfl
  | d + 1, s => by
    rw [rn_s, rn_s]
    show (decide (v.2 4 s = 0) && !anyN (v.1 0).toNat (rnP (stS v 26 x) d s)) = _
    rw [anyN_c (q := rnP v d s) (fun z _ => by unfold rnP; rw [rn_26]; rfl)]
set_option maxHeartbeats 4000000 in
set_option maxRecDepth 100000 in
theorem c_X7_touch_x2 {u v : SS} {g : GH} (I : MI v) {rk : Nat → Nat} (hk : RK v rk) {s p : Int} (hs : rg s) (hp : rg p) (h : noPg v s p = false) (h2 : rn v 6 s.toNat = false) : Cn yX7_touch (wsy yX7_touch cX7_touch 4 (some .int)) 8 0 0 nn [vR (some 0), vI s, vI p] (mk u v g) (.inl (some (vI 0), mk u (stS (stS v 26 0) 26 2) g)) := by
  refine con_j (lv := [(0, vR (some 0)), (1, vI s), (2, vI p)]) (by decide) (fun ad => Nat.le_of_ble_eq_true rfl) (fun ad => rfl) rfl ?_
  intro k C hr hlv hmc hms hPo hPx htab
  have hq := noPg_f h
  have i0 := I.s0
  have J : MI (stS v 26 0) := MI_S I (by decide)
  obtain ⟨z, rfl⟩ : ∃ z : Nat, s = z := ⟨s.toNat, by omega⟩
  refine ev_s C dX7_touch_0 (q := 1) rfl rfl ?_
  refine ev_s C dX7_touch_1 (q := 2) rfl rfl ?_
  refine ev_s C dX7_touch_2 (q := 3) rfl rfl ?_
  refine ev_cV C dX7_touch_3 (q := 6) rfl km_X7_91 kv_X7_isNoPage kc_X7_isNoPage (c_X7_isNoPage I (by first | decide | (unfold rg; omega) | assumption | exact bAnd_rg _ _) (by first | decide | (unfold rg; omega) | assumption | exact bAnd_rg _ _)) rfl rfl vcX7 go_0 (by rw [hlv]; first | decide | omega) (by decide) (Nat.le_of_ble_eq_true rfl) (Nat.zero_le _) (Nat.zero_le _) ?_
  rw [h]
  refine ev_eq (G := mk u (stS v 26 0) g) rfl ?_
  refine ev_ifB_ne C dX7_touch_6 (tgt := 29) (q := 9) (by decide) rfl (fun b0 => ?_) (fun b0 => ?_)
  · exact absurd b0 (by decide)
  · refine ev_s C dX7_touch_9 (q := 10) rfl rfl ?_
    refine ev_s C dX7_touch_10 (q := 11) rfl rfl ?_
    refine ev_s C dX7_touch_11 (q := 12) rfl rfl ?_
    refine ev_cV C dX7_touch_12 (q := 15) rfl km_X7_88 kv_X7_runs kc_X7_runs (c_X7_runs J (rk := rk) hk 6 z (by show (z : Int) < v.1 0; omega) (hk.1 _)) rfl rfl vcX7 go_0 (by rw [hlv]; first | decide | omega) (by decide) (Nat.le_of_ble_eq_true rfl) (Nat.zero_le _) (Nat.zero_le _) ?_
    refine ev_ifB_eq C dX7_touch_15 (tgt := 22) (q := 18) (by decide) rfl (fun b1 => ?_) (fun b1 => ?_)
    · refine ev_s C dX7_touch_22 (q := 23) rfl rfl ?_
      refine ev_cV C dX7_touch_23 (q := 26) rfl km_X7_79 kv_X7_fails kc_X7_fails (c_X7_fails (by first | decide | (unfold rg; omega) | assumption | exact bAnd_rg _ _)) rfl rfl vcX7 go_0 (by rw [hlv]; first | decide | omega) (by decide) (Nat.le_of_ble_eq_true rfl) (Nat.zero_le _) (Nat.zero_le _) ?_
      refine ev_ifB_eq C dX7_touch_26 (tgt := 31) (q := 29) (by decide) rfl (fun b2 => ?_) (fun b2 => ?_)
      · exact absurd b2 (by decide)
      · refine ev_s C dX7_touch_29 (q := 30) rfl rfl ?_
        exact ev_iret C hr dX7_touch_30 (Nat.zero_le _) (Nat.zero_le _) (po_1 hPo (by first | rfl | simp [*]) rfl)
    · exact absurd (h2.symm.trans (rn_26.symm.trans b1)) (by decide)
theorem cmM_S {v : SS} {p : Int} {k : Nat} (h1 : k ≠ 16) (h2 : k ≠ 21) (h3 : k ≠ 14) : (cmM v p).1 k = v.1 k := by
  show (cmA (leM v p)).1 k = _
  have e := leM_S (v := v) (p := p) (k := k) h1 h2
  unfold cmA
  split
  · show (stS (toM (clk 17 (leM v p)) _) 14 _).1 k = _
    rw [stS_1, if_neg h3, toM_S h1 h2, clk_S h3, e]
  · exact e
theorem cmM_A {v : SS} {p : Int} {a j : Nat} (h1 : a ≠ 10) (h2 : a ≠ 17) (h3 : a ≠ 12) (h4 : a ≠ 13) : (cmM v p).2 a j = v.2 a j := by
  show (stA (stA (stA (cmA (leM v p)) 12 _ p) 13 _ 1) 10 _ 1).2 a j = _
  rw [stA_2, if_neg h1, stA_2, if_neg h4, stA_2, if_neg h3]
  have e := leM_A (v := v) (p := p) (a := a) (j := j) h2 h1
  unfold cmA
  split
  · show (toM (clk 17 (leM v p)) _).2 a j = _
    rw [toM_A h1 h2 h3 h4, clk_A h4, e]
  · exact e
theorem thA_S {v : SS} {p : Int} {k : Nat} (h1 : k ≠ 16) (h2 : k ≠ 21) (h3 : k ≠ 14) : (thA v p).1 k = v.1 k := by
  unfold thA
  split
  · show (stS v 21 0).1 k = _
    rw [stS_1, if_neg h2]
  · rw [cmM_S h1 h2 h3, stS_1, if_neg h2]
theorem thA_A {v : SS} {p : Int} {a j : Nat} (h1 : a ≠ 10) (h2 : a ≠ 17) (h3 : a ≠ 12) (h4 : a ≠ 13) : (thA v p).2 a j = v.2 a j := by
  unfold thA
  split
  · show (stA (stS v 21 0) 13 _ 1).2 a j = _
    rw [stA_2, if_neg h4]; rfl
  · rw [cmM_A h1 h2 h3 h4]; rfl
set_option maxHeartbeats 4000000 in
set_option maxRecDepth 100000 in
theorem l_X7_touch {k : Kx} (C : CX k RX7 cX7_touch 4) {u w : SS} {g : GH} {s p : Int} {q : Int} (I : MI w) (hs : 0 ≤ s ∧ s < 6) (hm : w.1 21 ≤ 310) (hb : BT w) (hr : (kmeth k).sig.returnType = some .int) (hPo : kPo k = PoR (.inl (some (vI (w.1 21)), mk u (thE (thD (thC (thB w) s))) g))) : EV k 72 [(0, vR (some 0)), (1, vI s), (2, vI p), (3, vI q)] [] (mk u w g) 0 0 := by
  have i19 := I.s19
  have i21 := I.s21
  have ia := I.a20 (w.1 19 % 4).toNat
  have ib := I.a8 s.toNat
  have hx := hb.1 (w.1 19 % 4).toNat
  have hy := hb.2.1 s.toNat
  have i22 := I.s22
  have i23 := I.s23
  have i24 := I.s24
  refine ev_s C dX7_touch_72 (q := 73) rfl rfl ?_
  refine mg_20 C dX7_touch_73 (q := 76) rfl ?_
  refine ev_s C dX7_touch_76 (q := 77) rfl rfl ?_
  refine mg_19 C dX7_touch_77 (q := 80) rfl ?_
  refine ev_s C dX7_touch_80 (q := 81) rfl rfl ?_
  refine ev_irem C dX7_touch_81 (q := 82) rfl (by first | decide | (unfold rg; omega) | assumption | (show rg (w.1 21); unfold rg; omega)) (by first | decide | (unfold rg; omega) | assumption | (show rg (w.1 21); unfold rg; omega)) (by omega) (by omega) ?_
  refine ev_s C dX7_touch_82 (q := 83) rfl rfl ?_
  refine ml_20 C dX7_touch_83 (q := 84) rfl (by omega) ?_
  refine ev_s C dX7_touch_84 (q := 85) rfl rfl ?_
  refine mg_21 C dX7_touch_85 (q := 88) rfl ?_
  refine ev_s C dX7_touch_88 (q := 89) rfl rfl ?_
  refine ms_20 C dX7_touch_89 (q := 90) rfl (by omega) ?_
  refine ev_s C dX7_touch_90 (q := 91) rfl rfl ?_
  refine mg_8 C dX7_touch_91 (q := 94) rfl ?_
  refine ev_s C dX7_touch_94 (q := 95) rfl rfl ?_
  refine ev_s C dX7_touch_95 (q := 96) rfl rfl ?_
  refine ml_8 C dX7_touch_96 (q := 97) rfl (by omega) ?_
  refine ev_s C dX7_touch_97 (q := 98) rfl rfl ?_
  refine mg_21 C dX7_touch_98 (q := 101) rfl ?_
  refine ev_i2l C dX7_touch_101 (q := 102) rfl (by first | decide | (unfold rg; omega) | assumption | (show rg (w.1 21); unfold rg; omega)) ?_
  refine ev_s C dX7_touch_102 (q := 103) rfl rfl ?_
  refine ms_8 C dX7_touch_103 (q := 104) rfl (by omega) ?_
  refine ev_s C dX7_touch_104 (q := 105) rfl rfl ?_
  refine ev_s C dX7_touch_105 (q := 106) rfl rfl ?_
  refine mg_24 C dX7_touch_106 (q := 109) rfl ?_
  refine ev_s C dX7_touch_109 (q := 110) rfl rfl ?_
  refine mg_21 C dX7_touch_110 (q := 113) rfl ?_
  refine ev_i2l C dX7_touch_113 (q := 114) rfl (by first | decide | (unfold rg; omega) | assumption | (show rg (w.1 21); unfold rg; omega)) ?_
  refine ev_s C dX7_touch_114 (q := 115) rfl rfl ?_
  refine mp_24 C dX7_touch_115 (q := 118) rfl ?_
  refine ev_s C dX7_touch_118 (q := 119) rfl rfl ?_
  refine ev_s C dX7_touch_119 (q := 120) rfl rfl ?_
  refine mg_22 C dX7_touch_120 (q := 123) rfl ?_
  refine ev_s C dX7_touch_123 (q := 124) rfl rfl ?_
  refine ev_s C dX7_touch_124 (q := 125) rfl rfl ?_
  refine mp_22 C dX7_touch_125 (q := 128) rfl ?_
  refine ev_s C dX7_touch_128 (q := 129) rfl rfl ?_
  refine ev_s C dX7_touch_129 (q := 130) rfl rfl ?_
  refine mg_23 C dX7_touch_130 (q := 133) rfl ?_
  refine ev_s C dX7_touch_133 (q := 134) rfl rfl ?_
  refine mg_21 C dX7_touch_134 (q := 137) rfl ?_
  refine ev_if_ne C dX7_touch_137 (tgt := 144) (q := 140) (by decide) rfl (by first | decide | (unfold rg; omega) | assumption | (show rg (w.1 21); unfold rg; omega)) (fun b0 => ?_) (fun b0 => ?_)
  · refine ev_s C dX7_touch_144 (q := 145) rfl rfl ?_
    refine ev_s C dX7_touch_145 (q := 146) rfl rfl ?_
    refine mp_23 C dX7_touch_146 (q := 149) rfl ?_
    refine ev_s C dX7_touch_149 (q := 150) rfl rfl ?_
    refine mg_21 C dX7_touch_150 (q := 153) rfl ?_
    exact ev_iret C hr dX7_touch_153 (Nat.zero_le _) (Nat.zero_le _) (po_1 hPo (by first | rfl | simp [*]) (by unfold thE; first | (rw [if_pos (by assumption)]; rfl) | (rw [if_neg (by assumption)]; rfl)))
  · refine ev_s C dX7_touch_140 (q := 141) rfl rfl ?_
    refine ev_goto C dX7_touch_141 (tgt := 145) (by decide) ?_
    refine ev_s C dX7_touch_145 (q := 146) rfl rfl ?_
    refine mp_23 C dX7_touch_146 (q := 149) rfl ?_
    refine ev_s C dX7_touch_149 (q := 150) rfl rfl ?_
    refine mg_21 C dX7_touch_150 (q := 153) rfl ?_
    exact ev_iret C hr dX7_touch_153 (Nat.zero_le _) (Nat.zero_le _) (po_1 hPo (by first | rfl | simp [*]) (by unfold thE; first | (rw [if_pos (by assumption)]; rfl) | (rw [if_neg (by assumption)]; rfl)))
set_option maxHeartbeats 4000000 in
set_option maxRecDepth 100000 in
theorem c_X7_touch {u v : SS} {g : GH} (I : MI v) {rk : Nat → Nat} (hk : RK v rk) {s p : Int} (hs : rg s) (hp : rg p) (h : noPg v s p = false) (h2 : rn v 6 s.toNat = true) (hh : v.1 14 < v.1 11) (ho : v.1 16 + occ v ≤ 48) (hb : BT v) (hF : v.2 10 (8 * s + p).toNat = 1 → 0 ≤ fnd (fwB v (8 * s + p)) (v.1 11).toNat) : Cn yX7_touch (wsy yX7_touch cX7_touch 4 (some .int)) 8 0 0 nn [vR (some 0), vI s, vI p] (mk u v g) (.inl (some (vI ((thM v s p).1 21)), mk u (thM v s p) g)) := by
  refine con_j (lv := [(0, vR (some 0)), (1, vI s), (2, vI p)]) (by decide) (fun ad => Nat.le_of_ble_eq_true rfl) (fun ad => rfl) rfl ?_
  intro k C hr hlv hmc hms hPo hPx htab
  have hq := noPg_f h
  have i0 := I.s0
  have J : MI (stS v 26 0) := MI_S I (by decide)
  obtain ⟨z, rfl⟩ : ∃ z : Nat, s = z := ⟨s.toNat, by omega⟩
  refine ev_s C dX7_touch_0 (q := 1) rfl rfl ?_
  refine ev_s C dX7_touch_1 (q := 2) rfl rfl ?_
  refine ev_s C dX7_touch_2 (q := 3) rfl rfl ?_
  refine ev_cV C dX7_touch_3 (q := 6) rfl km_X7_91 kv_X7_isNoPage kc_X7_isNoPage (c_X7_isNoPage I (by first | decide | (unfold rg; omega) | assumption | exact bAnd_rg _ _) (by first | decide | (unfold rg; omega) | assumption | exact bAnd_rg _ _)) rfl rfl vcX7 go_0 (by rw [hlv]; first | decide | omega) (by decide) (Nat.le_of_ble_eq_true rfl) (Nat.zero_le _) (Nat.zero_le _) ?_
  rw [h]
  refine ev_eq (G := mk u (stS v 26 0) g) rfl ?_
  refine ev_ifB_ne C dX7_touch_6 (tgt := 29) (q := 9) (by decide) rfl (fun b0 => ?_) (fun b0 => ?_)
  · exact absurd b0 (by decide)
  · refine ev_s C dX7_touch_9 (q := 10) rfl rfl ?_
    refine ev_s C dX7_touch_10 (q := 11) rfl rfl ?_
    refine ev_s C dX7_touch_11 (q := 12) rfl rfl ?_
    refine ev_cV C dX7_touch_12 (q := 15) rfl km_X7_88 kv_X7_runs kc_X7_runs (c_X7_runs J (rk := rk) hk 6 z (by show (z : Int) < v.1 0; omega) (hk.1 _)) rfl rfl vcX7 go_0 (by rw [hlv]; first | decide | omega) (by decide) (Nat.le_of_ble_eq_true rfl) (Nat.zero_le _) (Nat.zero_le _) ?_
    refine ev_ifB_eq C dX7_touch_15 (tgt := 22) (q := 18) (by decide) rfl (fun b1 => ?_) (fun b1 => ?_)
    · exact absurd (h2.symm.trans (rn_26.symm.trans b1)) (by decide)
    · refine ev_s C dX7_touch_18 (q := 19) rfl rfl ?_
      refine ev_goto C dX7_touch_19 (tgt := 23) (by decide) ?_
      refine ev_cV C dX7_touch_23 (q := 26) rfl km_X7_79 kv_X7_fails kc_X7_fails (c_X7_fails (by first | decide | (unfold rg; omega) | assumption | exact bAnd_rg _ _)) rfl rfl vcX7 go_0 (by rw [hlv]; first | decide | omega) (by decide) (Nat.le_of_ble_eq_true rfl) (Nat.zero_le _) (Nat.zero_le _) ?_
      refine ev_ifB_eq C dX7_touch_26 (tgt := 31) (q := 29) (by decide) rfl (fun b2 => ?_) (fun b2 => ?_)
      · refine ev_s C dX7_touch_31 (q := 33) rfl rfl ?_
        refine ev_s C dX7_touch_33 (q := 34) rfl rfl ?_
        refine ev_s C dX7_touch_34 (q := 35) rfl rfl ?_
        refine ev_s C dX7_touch_35 (q := 36) rfl rfl ?_
        refine ev_s C dX7_touch_36 (q := 37) rfl rfl ?_
        refine ev_s C dX7_touch_37 (q := 38) rfl rfl ?_
        refine ev_s C dX7_touch_38 (q := 39) rfl rfl ?_
        refine ev_s C dX7_touch_39 (q := 40) rfl rfl ?_
        refine mp_21 C dX7_touch_40 (q := 43) rfl ?_
        have K0 : MI (stS (stS v 26 0) 26 0) := MI_S J (by decide)
        have K1 : MI (stS (stS (stS v 26 0) 26 0) 21 0) := MI_S K0 (by decide)
        have hn : 0 ≤ 8 * (z : Int) + p ∧ 8 * (z : Int) + p < 48 := by omega
        have hA := thA_I K0 hn hh ho
        have ja := K1.a10 (8 * (z : Int) + p).toNat
        have jf := fnd_bd (p := fwB v (8 * (z : Int) + p)) (v.1 11).toNat
        have i11 := I.s11
        refine ev_s C dX7_touch_43 (q := 44) rfl rfl ?_
        refine mg_10 C dX7_touch_44 (q := 47) rfl ?_
        refine ev_s C dX7_touch_47 (q := 48) rfl rfl ?_
        refine ml_10 C dX7_touch_48 (q := 49) rfl (by omega) ?_
        refine ev_s C dX7_touch_49 (q := 50) rfl rfl ?_
        refine ev_icmp_ne C dX7_touch_50 (tgt := 67) (q := 53) (by decide) rfl (by first | decide | (unfold rg; omega) | assumption | exact bAnd_rg _ _) (by first | decide | (unfold rg; omega) | assumption | exact bAnd_rg _ _) (fun b3 => ?_) (fun b3 => ?_)
        · refine ev_s C dX7_touch_67 (q := 68) rfl rfl ?_
          refine ev_s C dX7_touch_68 (q := 69) rfl rfl ?_
          refine ev_cV C dX7_touch_69 (q := 72) rfl km_X7_130 kv_X7_comes kc_X7_comes (c_X7_comes K1 hn hh ho (by show (0 : Int) + 310 ≤ _; decide)) rfl rfl vcX7 go_0 (by rw [hlv]; first | decide | omega) (by decide) (Nat.le_of_ble_eq_true rfl) (Nat.zero_le _) (Nat.zero_le _) ?_
          refine ev_eq (G := mk u (thA (stS (stS v 26 0) 26 0) (8 * (z : Int) + p)) g) (by unfold thA; first | (rw [if_pos (by assumption)]; rfl) | (rw [if_neg (by assumption)])) ?_
          exact l_X7_touch C hA.1 (by omega) hA.2.1 ⟨fun j => by rw [thA_A (by decide) (by decide) (by decide) (by decide)]; exact hb.1 j, fun j => by rw [thA_A (by decide) (by decide) (by decide) (by decide)]; exact hb.2.1 j, by rw [thA_S (by decide) (by decide) (by decide)]; exact hb.2.2.1, by rw [thA_S (by decide) (by decide) (by decide)]; exact hb.2.2.2.1, by rw [thA_S (by decide) (by decide) (by decide)]; exact hb.2.2.2.2⟩ hr hPo
        · refine ev_s C dX7_touch_53 (q := 54) rfl rfl ?_
          refine mg_13 C dX7_touch_54 (q := 57) rfl ?_
          refine ev_s C dX7_touch_57 (q := 58) rfl rfl ?_
          refine ev_s C dX7_touch_58 (q := 59) rfl rfl ?_
          refine ev_cV C dX7_touch_59 (q := 62) rfl km_X7_126 kv_X7_frameWith kc_X7_frameWith (c_X7_frameWith K1 (by unfold rg; omega)) rfl rfl vcX7 go_0 (by rw [hlv]; first | decide | omega) (by decide) (Nat.le_of_ble_eq_true rfl) (Nat.zero_le _) (Nat.zero_le _) ?_
          refine ev_s C dX7_touch_62 (q := 63) rfl rfl ?_
          refine ms_13 C dX7_touch_63 (q := 64) rfl (by omega) (by have h9 := hF (by assumption); show 0 ≤ fnd (fwB v (8 * (z : Int) + p)) (v.1 11).toNat ∧ fnd (fwB v (8 * (z : Int) + p)) (v.1 11).toNat < 16; omega) ?_
          refine ev_goto C dX7_touch_64 (tgt := 72) (by decide) ?_
          refine ev_eq (G := mk u (thA (stS (stS v 26 0) 26 0) (8 * (z : Int) + p)) g) (by unfold thA; first | (rw [if_pos (by assumption)]; rfl) | (rw [if_neg (by assumption)])) ?_
          exact l_X7_touch C hA.1 (by omega) hA.2.1 ⟨fun j => by rw [thA_A (by decide) (by decide) (by decide) (by decide)]; exact hb.1 j, fun j => by rw [thA_A (by decide) (by decide) (by decide) (by decide)]; exact hb.2.1 j, by rw [thA_S (by decide) (by decide) (by decide)]; exact hb.2.2.1, by rw [thA_S (by decide) (by decide) (by decide)]; exact hb.2.2.2.1, by rw [thA_S (by decide) (by decide) (by decide)]; exact hb.2.2.2.2⟩ hr hPo
      · exact absurd b2 (by decide)
