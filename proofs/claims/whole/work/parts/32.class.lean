/-! THE CLASS: bounds; the lists -/
def lC (k : Nat) : Int := match k with
  | 0 => 0
  | 1 => 0
  | 2 => 0
  | 3 => 0
  | 4 => 0
  | 5 => 0
  | 6 => 0
  | 7 => 1
  | 8 => 0
  | 9 => 0
  | 11 => 0
  | 12 => 0
  | 14 => 0
  | 15 => 0
  | _ => 0
def hC (k : Nat) : Int := match k with
  | 0 => 999
  | 1 => 1000000
  | 2 => 1000000
  | 3 => 1000000
  | 4 => 1000000
  | 5 => 1000000000
  | 6 => 2048
  | 7 => 16
  | 8 => 15
  | 9 => 60
  | 11 => 48
  | 12 => 73
  | 14 => 6
  | 15 => 10
  | _ => 0
def lD (k : Nat) : Int := match k with
  | 0 => 0
  | 1 => 0
  | 2 => -1
  | 3 => -1
  | 4 => 0
  | 11 => 0
  | 12 => 0
  | 13 => 0
  | 15 => 0
  | 16 => 0
  | 17 => 0
  | 18 => 0
  | 19 => 0
  | 22 => 0
  | 23 => 0
  | 24 => -1
  | 25 => 0
  | _ => 0
def hD (k : Nat) : Int := match k with
  | 0 => 12287
  | 1 => 65535
  | 2 => 47
  | 3 => 47
  | 4 => 1000000
  | 11 => 100
  | 12 => 65535
  | 13 => 20
  | 15 => 63
  | 16 => 1
  | 17 => 1000000
  | 18 => 1000000
  | 19 => 1000000000
  | 22 => 4
  | 23 => 65535
  | 24 => 15
  | 25 => 1
  | _ => 0
/-- bounds, and what the places hold -/
def CI (u : SS) : Prop := (∀ k, k = 10 ∨ k = 13 ∨ (lC k ≤ u.1 k ∧ u.1 k ≤ hC k)) ∧ (∀ a j, lD a ≤ u.2 a j ∧ u.2 a j ≤ hD a) ∧ u.1 11 ≤ u.1 12 ∧ u.1 14 ≤ u.1 15 ∧ (∀ j, u.2 2 j < 8 * u.1 14) ∧ (∀ j, u.2 3 j < 8 * u.1 14) ∧ ∀ j : Nat, (j : Int) < u.1 11 → 0 ≤ u.2 3 j
theorem CI.sz {u : SS} (I : CI u) : u.1 11 ≤ u.1 12 := I.2.2.1
theorem CI.sv {u : SS} (I : CI u) : u.1 14 ≤ u.1 15 := I.2.2.2.1
theorem CI.hd {u : SS} (I : CI u) (j : Nat) : u.2 2 j < 8 * u.1 14 := I.2.2.2.2.1 j
theorem CI.od {u : SS} (I : CI u) (j : Nat) : u.2 3 j < 8 * u.1 14 := I.2.2.2.2.2.1 j
theorem CI.on {u : SS} (I : CI u) {j : Nat} (h : (j : Int) < u.1 11) : 0 ≤ u.2 3 j := I.2.2.2.2.2.2 j h
theorem CI.s0 {u : SS} (I : CI u) : 0 ≤ u.1 0 ∧ u.1 0 ≤ 999 := by
  rcases I.1 0 with h | h | h
  · exact absurd h (by decide)
  · exact absurd h (by decide)
  · exact h
theorem CI.s1 {u : SS} (I : CI u) : 0 ≤ u.1 1 ∧ u.1 1 ≤ 1000000 := by
  rcases I.1 1 with h | h | h
  · exact absurd h (by decide)
  · exact absurd h (by decide)
  · exact h
theorem CI.s2 {u : SS} (I : CI u) : 0 ≤ u.1 2 ∧ u.1 2 ≤ 1000000 := by
  rcases I.1 2 with h | h | h
  · exact absurd h (by decide)
  · exact absurd h (by decide)
  · exact h
theorem CI.s3 {u : SS} (I : CI u) : 0 ≤ u.1 3 ∧ u.1 3 ≤ 1000000 := by
  rcases I.1 3 with h | h | h
  · exact absurd h (by decide)
  · exact absurd h (by decide)
  · exact h
theorem CI.s4 {u : SS} (I : CI u) : 0 ≤ u.1 4 ∧ u.1 4 ≤ 1000000 := by
  rcases I.1 4 with h | h | h
  · exact absurd h (by decide)
  · exact absurd h (by decide)
  · exact h
theorem CI.s5 {u : SS} (I : CI u) : 0 ≤ u.1 5 ∧ u.1 5 ≤ 1000000000 := by
  rcases I.1 5 with h | h | h
  · exact absurd h (by decide)
  · exact absurd h (by decide)
  · exact h
theorem CI.s6 {u : SS} (I : CI u) : 0 ≤ u.1 6 ∧ u.1 6 ≤ 2048 := by
  rcases I.1 6 with h | h | h
  · exact absurd h (by decide)
  · exact absurd h (by decide)
  · exact h
theorem CI.s7 {u : SS} (I : CI u) : 1 ≤ u.1 7 ∧ u.1 7 ≤ 16 := by
  rcases I.1 7 with h | h | h
  · exact absurd h (by decide)
  · exact absurd h (by decide)
  · exact h
theorem CI.s8 {u : SS} (I : CI u) : 0 ≤ u.1 8 ∧ u.1 8 ≤ 15 := by
  rcases I.1 8 with h | h | h
  · exact absurd h (by decide)
  · exact absurd h (by decide)
  · exact h
theorem CI.s9 {u : SS} (I : CI u) : 0 ≤ u.1 9 ∧ u.1 9 ≤ 60 := by
  rcases I.1 9 with h | h | h
  · exact absurd h (by decide)
  · exact absurd h (by decide)
  · exact h
theorem CI.s11 {u : SS} (I : CI u) : 0 ≤ u.1 11 ∧ u.1 11 ≤ 48 := by
  rcases I.1 11 with h | h | h
  · exact absurd h (by decide)
  · exact absurd h (by decide)
  · exact h
theorem CI.s12 {u : SS} (I : CI u) : 0 ≤ u.1 12 ∧ u.1 12 ≤ 73 := by
  rcases I.1 12 with h | h | h
  · exact absurd h (by decide)
  · exact absurd h (by decide)
  · exact h
theorem CI.s14 {u : SS} (I : CI u) : 0 ≤ u.1 14 ∧ u.1 14 ≤ 6 := by
  rcases I.1 14 with h | h | h
  · exact absurd h (by decide)
  · exact absurd h (by decide)
  · exact h
theorem CI.s15 {u : SS} (I : CI u) : 0 ≤ u.1 15 ∧ u.1 15 ≤ 10 := by
  rcases I.1 15 with h | h | h
  · exact absurd h (by decide)
  · exact absurd h (by decide)
  · exact h
theorem CI.a0 {u : SS} (I : CI u) (j : Nat) : 0 ≤ u.2 0 j ∧ u.2 0 j ≤ 12287 := I.2.1 0 j
theorem CI.a1 {u : SS} (I : CI u) (j : Nat) : 0 ≤ u.2 1 j ∧ u.2 1 j ≤ 65535 := I.2.1 1 j
theorem CI.a2 {u : SS} (I : CI u) (j : Nat) : -1 ≤ u.2 2 j ∧ u.2 2 j ≤ 47 := I.2.1 2 j
theorem CI.a3 {u : SS} (I : CI u) (j : Nat) : -1 ≤ u.2 3 j ∧ u.2 3 j ≤ 47 := I.2.1 3 j
theorem CI.a4 {u : SS} (I : CI u) (j : Nat) : 0 ≤ u.2 4 j ∧ u.2 4 j ≤ 1000000 := I.2.1 4 j
theorem CI.a11 {u : SS} (I : CI u) (j : Nat) : 0 ≤ u.2 11 j ∧ u.2 11 j ≤ 100 := I.2.1 11 j
theorem CI.a12 {u : SS} (I : CI u) (j : Nat) : 0 ≤ u.2 12 j ∧ u.2 12 j ≤ 65535 := I.2.1 12 j
theorem CI.a13 {u : SS} (I : CI u) (j : Nat) : 0 ≤ u.2 13 j ∧ u.2 13 j ≤ 20 := I.2.1 13 j
theorem CI.a15 {u : SS} (I : CI u) (j : Nat) : 0 ≤ u.2 15 j ∧ u.2 15 j ≤ 63 := I.2.1 15 j
theorem CI.a16 {u : SS} (I : CI u) (j : Nat) : 0 ≤ u.2 16 j ∧ u.2 16 j ≤ 1 := I.2.1 16 j
theorem CI.a17 {u : SS} (I : CI u) (j : Nat) : 0 ≤ u.2 17 j ∧ u.2 17 j ≤ 1000000 := I.2.1 17 j
theorem CI.a18 {u : SS} (I : CI u) (j : Nat) : 0 ≤ u.2 18 j ∧ u.2 18 j ≤ 1000000 := I.2.1 18 j
theorem CI.a19 {u : SS} (I : CI u) (j : Nat) : 0 ≤ u.2 19 j ∧ u.2 19 j ≤ 1000000000 := I.2.1 19 j
theorem CI.a22 {u : SS} (I : CI u) (j : Nat) : 0 ≤ u.2 22 j ∧ u.2 22 j ≤ 4 := I.2.1 22 j
theorem CI.a23 {u : SS} (I : CI u) (j : Nat) : 0 ≤ u.2 23 j ∧ u.2 23 j ≤ 65535 := I.2.1 23 j
theorem CI.a24 {u : SS} (I : CI u) (j : Nat) : -1 ≤ u.2 24 j ∧ u.2 24 j ≤ 15 := I.2.1 24 j
theorem CI.a25 {u : SS} (I : CI u) (j : Nat) : 0 ≤ u.2 25 j ∧ u.2 25 j ≤ 1 := I.2.1 25 j
set_option maxHeartbeats 4000000 in
set_option maxRecDepth 100000 in
theorem c_J3_checkIndex_8e157 {G : GH} {i n : Int} (hn : rg n) (hi : 0 ≤ i ∧ i < n) : Cn yJ3_checkIndex_8e157 (wsy yJ3_checkIndex_8e157 cJ3_checkIndex_8e157 3 (some .int)) 0 0 0 nn [vI i, vI n, vR none] G (.inl (some (vI i), G)) := by
  refine con_j (lv := [(0, vI i), (1, vI n), (2, vR none)]) (by decide) (fun ad => Nat.le_of_ble_eq_true rfl) (fun ad => rfl) rfl ?_
  intro k C hr hlv hmc hms hPo hPx htab
  refine ev_s C dJ3_checkIndex_8e157_0 (q := 1) rfl rfl ?_
  refine ev_if_lt C dJ3_checkIndex_8e157_1 (tgt := 9) (q := 4) (by decide) rfl (by first | (unfold rg at *; omega) | assumption) (fun b0 => ?_) (fun b0 => ?_)
  · exfalso; omega
  · refine ev_s C dJ3_checkIndex_8e157_4 (q := 5) rfl rfl ?_
    refine ev_s C dJ3_checkIndex_8e157_5 (q := 6) rfl rfl ?_
    refine ev_icmp_lt C dJ3_checkIndex_8e157_6 (tgt := 16) (q := 9) (by decide) rfl (by first | (unfold rg at *; omega) | assumption) (by first | (unfold rg at *; omega) | assumption) (fun b1 => ?_) (fun b1 => ?_)
    · refine ev_s C dJ3_checkIndex_8e157_16 (q := 17) rfl rfl ?_
      exact ev_iret C hr dJ3_checkIndex_8e157_17 (Nat.zero_le _) (Nat.zero_le _) (po_1 hPo (by first | rfl | simp [*]) rfl)
    · exfalso; omega
set_option maxHeartbeats 4000000 in
set_option maxRecDepth 100000 in
theorem c_J15_checkIndex_7cf53 {G : GH} {i n : Int} (hn : rg n) (hi : 0 ≤ i ∧ i < n) : Cn yJ15_checkIndex_7cf53 (wsy yJ15_checkIndex_7cf53 cJ15_checkIndex_7cf53 2 (some .int)) 1 0 0 nn [vI i, vI n] G (.inl (some (vI i), G)) := by
  refine con_j (lv := [(0, vI i), (1, vI n)]) (by decide) (fun ad => Nat.le_of_ble_eq_true rfl) (fun ad => rfl) rfl ?_
  intro k C hr hlv hmc hms hPo hPx htab
  refine ev_s C dJ15_checkIndex_7cf53_0 (q := 1) rfl rfl ?_
  refine ev_s C dJ15_checkIndex_7cf53_1 (q := 2) rfl rfl ?_
  refine ev_s C dJ15_checkIndex_7cf53_2 (q := 3) rfl rfl ?_
  refine ev_cS C dJ15_checkIndex_7cf53_3 (q := 6) rfl km_J15_105 ks_J3_checkIndex_8e157 kc_J3_checkIndex_8e157 (c_J3_checkIndex_8e157 hn hi) rfl rfl (by rw [hlv]; first | decide | omega) (by decide) (Nat.le_of_ble_eq_true rfl) (by first | exact Nat.zero_le _ | (rw [hmc]; decide)) (by first | exact Nat.zero_le _ | (rw [hms]; decide)) ?_
  exact ev_iret C hr dJ15_checkIndex_7cf53_6 (Nat.zero_le _) (Nat.zero_le _) (po_1 hPo (by first | rfl | simp [*]) rfl)
section MX
variable {k : Kx} {own : String} {cc : ByteArray} {nL : Nat} {pc q tgt : Nat} {lv lv' : List (Nat × AV)} {st st' : List AV} {G G' : GH} {ct sl : Nat}
theorem ev_mmax {index : Nat} {x y : Int} (C : CX k own cc nL) (hd : decode cc pc = .ok (.invokestatic index, 3)) (hq : pc + 3 = q) (M : MLk own index yJ9_max_7cf53 2) (hx : rg x) (hy : rg y) (hw : wdt st ≤ 8) (hct : ct ≤ kmc k) (hsl : sl ≤ kms k) (kk : EV k q lv (vI (if x < y then y else x) :: st) G ct sl) : EV k pc lv (vI y :: vI x :: st) G ct sl := by
  subst hq
  have hrow : EV k pc lv (vI y :: vI x :: st) G ct sl := by
    intro hO ad H locs ls hM hl
    have h := kk (oks_bin (okv_I _) hO) ad H locs ls hM hl
    refine va_mmax C.1 C.2.1 hl.1.symm C.2.2.2.1 (C.2.2.2.2.1 _ M.1) (C.2.2.2.2.1 _ (q9 447 (by decide +kernel) (by decide +kernel))) (C.2.2.2.2.1 _ M.2.1) (C.2.2.2.2.1 _ (q9 448 (by decide +kernel) (by decide +kernel))) (by show 1 ≤ 20 + 2 * _; omega) (by show _ ≤ 300 + 60 * klev k; have := wdt_ok (ad := ad) hw; omega) hct hsl hd ?_
    have e : (if iI x < iI y then iI y else iI x) = iI (if x < y then y else x) := by
      by_cases c : x < y
      · rw [if_pos c, if_pos ((iI_lt hx hy).mpr c)]
      · rw [if_neg c, if_neg (fun z => c ((iI_lt hx hy).mp z))]
    rw [e]
    exact h
  exact hrow
theorem ev_mmin {index : Nat} {x y : Int} (C : CX k own cc nL) (hd : decode cc pc = .ok (.invokestatic index, 3)) (hq : pc + 3 = q) (M : MLk own index yJ9_min_7cf53 2) (hx : rg x) (hy : rg y) (hw : wdt st ≤ 8) (hct : ct ≤ kmc k) (hsl : sl ≤ kms k) (kk : EV k q lv (vI (if y < x then y else x) :: st) G ct sl) : EV k pc lv (vI y :: vI x :: st) G ct sl := by
  subst hq
  intro hO ad H locs ls hM hl
  have h := kk (oks_bin (okv_I _) hO) ad H locs ls hM hl
  refine va_mmin C.1 C.2.1 hl.1.symm C.2.2.2.1 (C.2.2.2.2.1 _ M.1) (C.2.2.2.2.1 _ (q9 483 (by decide +kernel) (by decide +kernel))) (C.2.2.2.2.1 _ M.2.1) (C.2.2.2.2.1 _ (q9 484 (by decide +kernel) (by decide +kernel))) (by show 1 ≤ 20 + 2 * _; omega) (by show _ ≤ 300 + 60 * klev k; have := wdt_ok (ad := ad) hw; omega) hct hsl hd ?_
  have e : (if iI y < iI x then iI y else iI x) = iI (if y < x then y else x) := by
    by_cases c : y < x
    · rw [if_pos c, if_pos ((iI_lt hy hx).mpr c)]
    · rw [if_neg c, if_neg (fun z => c ((iI_lt hy hx).mp z))]
  rw [e]
  exact h
end MX
set_option maxHeartbeats 4000000 in
set_option maxRecDepth 100000 in
theorem c_size_o {u v : SS} {g : GH} : Cn yJx4a65c_size_8abf5 (wsy yJx4a65c_size_8abf5 cJx4a65c_size_8abf5 1 (some .int)) 0 0 0 nn [vR (some 1007)] (mk u v g) (.inl (some (vI (u.1 11)), mk u v g)) := by
  refine con_j (lv := [(0, vR (some 1007))]) (by decide) (fun ad => Nat.le_of_ble_eq_true rfl) (fun ad => rfl) rfl ?_
  intro k C hr hlv hmc hms hPo hPx htab
  refine ev_s C dJx4a65c_size_8abf5_0 (q := 1) rfl rfl ?_
  refine cg_1007_2 C dJx4a65c_size_8abf5_1 kf_Jx4a65c_48 (q := 4) rfl ?_
  exact ev_iret C hr dJx4a65c_size_8abf5_4 (Nat.zero_le _) (Nat.zero_le _) (po_1 hPo rfl rfl)
set_option maxHeartbeats 4000000 in
set_option maxRecDepth 100000 in
theorem c_size_s {u v : SS} {g : GH} : Cn yJx4a65c_size_8abf5 (wsy yJx4a65c_size_8abf5 cJx4a65c_size_8abf5 1 (some .int)) 0 0 0 nn [vR (some 1011)] (mk u v g) (.inl (some (vI (u.1 14)), mk u v g)) := by
  refine con_j (lv := [(0, vR (some 1011))]) (by decide) (fun ad => Nat.le_of_ble_eq_true rfl) (fun ad => rfl) rfl ?_
  intro k C hr hlv hmc hms hPo hPx htab
  refine ev_s C dJx4a65c_size_8abf5_0 (q := 1) rfl rfl ?_
  refine cg_1011_2 C dJx4a65c_size_8abf5_1 kf_Jx4a65c_48 (q := 4) rfl ?_
  exact ev_iret C hr dJx4a65c_size_8abf5_4 (Nat.zero_le _) (Nat.zero_le _) (po_1 hPo rfl rfl)
set_option maxHeartbeats 4000000 in
set_option maxRecDepth 100000 in
theorem c_elementData_s {u v : SS} {g : GH} (I : CI u) {i : Nat} (hi : (i : Int) < u.1 14) : Cn yJx4a65c_elementData_915e3 (wsy yJx4a65c_elementData_915e3 cJx4a65c_elementData_915e3 2 (some (.object "java/lang/Object"))) 0 0 0 nn [vR (some 1011), vI (i : Int)] (mk u v g) (.inl (some (vR (some (2000 + i))), mk u v g)) := by
  refine con_j (lv := [(0, vR (some 1011)), (1, vI (i : Int))]) (by decide) (fun ad => Nat.le_of_ble_eq_true rfl) (fun ad => rfl) rfl ?_
  intro k C hr hlv hmc hms hPo hPx htab
  refine ev_s C dJx4a65c_elementData_915e3_0 (q := 1) rfl rfl ?_
  refine cd_1011 C dJx4a65c_elementData_915e3_1 kf_Jx4a65c_9 (q := 4) rfl (by have := I.sv; omega) ?_
  refine ev_s C dJx4a65c_elementData_915e3_4 (q := 5) rfl rfl ?_
  have h15 := I.sv
  have h14 := I.s14
  refine ev_aald C dJx4a65c_elementData_915e3_5 (q := 6) rfl (Or.inr rfl) (gd_1012 (by omega)) (by unfold rg; omega) (by omega) (by omega) ?_
  refine ev_eqS (st := [vR (some (2000 + i))]) (by show [if ((i : Int).toNat : Int) < u.1 14 then vR (some (2000 + (i : Int).toNat)) else vR none] = _; rw [Int.toNat_natCast, if_pos hi]) ?_
  exact ev_aret C hr (Or.inl ⟨_, rfl⟩) dJx4a65c_elementData_915e3_6 (Nat.zero_le _) (Nat.zero_le _) (po_1 hPo rfl rfl)
set_option maxHeartbeats 4000000 in
set_option maxRecDepth 100000 in
theorem c_elementData_o {u v : SS} {g : GH} (I : CI u) {i : Nat} (hi : (i : Int) < u.1 11) : Cn yJx4a65c_elementData_915e3 (wsy yJx4a65c_elementData_915e3 cJx4a65c_elementData_915e3 2 (some (.object "java/lang/Object"))) 0 0 0 nn [vR (some 1007), vI (i : Int)] (mk u v g) (.inl (some (vR (some (3000 + (u.2 3 i).toNat))), mk u v g)) := by
  refine con_j (lv := [(0, vR (some 1007)), (1, vI (i : Int))]) (by decide) (fun ad => Nat.le_of_ble_eq_true rfl) (fun ad => rfl) rfl ?_
  intro k C hr hlv hmc hms hPo hPx htab
  refine ev_s C dJx4a65c_elementData_915e3_0 (q := 1) rfl rfl ?_
  refine cd_1007 C dJx4a65c_elementData_915e3_1 kf_Jx4a65c_9 (q := 4) rfl (by have := I.sz; omega) ?_
  refine ev_s C dJx4a65c_elementData_915e3_4 (q := 5) rfl rfl ?_
  have h12 := I.sz
  have h11 := I.s11
  refine ev_aald C dJx4a65c_elementData_915e3_5 (q := 6) rfl (Or.inr rfl) (gd_1008 (by omega)) (by unfold rg; omega) (by omega) (by omega) ?_
  refine ev_eqS (st := [vR (some (3000 + (u.2 3 i).toNat))]) (by show [pgr (u.2 3 (i : Int).toNat)] = _; rw [Int.toNat_natCast, pgr_o]; unfold pgo; rw [if_neg (by have := I.on hi; omega)]) ?_
  exact ev_aret C hr (Or.inl ⟨_, rfl⟩) dJx4a65c_elementData_915e3_6 (Nat.zero_le _) (Nat.zero_le _) (po_1 hPo rfl rfl)
set_option maxHeartbeats 4000000 in
set_option maxRecDepth 100000 in
theorem c_get_o {u v : SS} {g : GH} (I : CI u) {i : Nat} (hi : (i : Int) < u.1 11) : Cn yJx4a65c_get_915e3 (wsy yJx4a65c_get_915e3 cJx4a65c_get_915e3 2 (some (.object "java/lang/Object"))) 2 0 0 nn [vR (some 1007), vI (i : Int)] (mk u v g) (.inl (some (vR (some (3000 + (u.2 3 i).toNat))), mk u v g)) := by
  refine con_j (lv := [(0, vR (some 1007)), (1, vI (i : Int))]) (by decide) (fun ad => Nat.le_of_ble_eq_true rfl) (fun ad => rfl) rfl ?_
  intro k C hr hlv hmc hms hPo hPx htab
  refine ev_s C dJx4a65c_get_915e3_0 (q := 1) rfl rfl ?_
  refine ev_s C dJx4a65c_get_915e3_1 (q := 2) rfl rfl ?_
  refine cg_1007_2 C dJx4a65c_get_915e3_2 kf_Jx4a65c_48 (q := 5) rfl ?_
  refine ev_cS C dJx4a65c_get_915e3_5 (q := 8) rfl km_Jx4a65c_118 ks_J15_checkIndex_7cf53 kc_J15_checkIndex_7cf53 (c_J15_checkIndex_7cf53 (by have := I.s11; unfold rg; omega) (by omega)) rfl rfl (by rw [hlv]; first | decide | omega) (by decide) (Nat.le_of_ble_eq_true rfl) (by first | exact Nat.zero_le _ | (rw [hmc]; decide)) (by first | exact Nat.zero_le _ | (rw [hms]; decide)) ?_
  refine ev_s C dJx4a65c_get_915e3_8 (q := 9) rfl rfl ?_
  refine ev_s C dJx4a65c_get_915e3_9 (q := 10) rfl rfl ?_
  refine ev_s C dJx4a65c_get_915e3_10 (q := 11) rfl rfl ?_
  refine ev_cV C dJx4a65c_get_915e3_11 (q := 14) rfl km_Jx4a65c_123 kv_Jx4a65c_elementData_915e3 kc_Jx4a65c_elementData_915e3 (c_elementData_o I hi) rfl rfl vcJx4a65c rfl (by rw [hlv]; first | decide | omega) (by decide) (Nat.le_of_ble_eq_true rfl) (by first | exact Nat.zero_le _ | (rw [hmc]; decide)) (by first | exact Nat.zero_le _ | (rw [hms]; decide)) ?_
  exact ev_aret C hr (Or.inl ⟨_, rfl⟩) dJx4a65c_get_915e3_14 (Nat.zero_le _) (Nat.zero_le _) (po_1 hPo rfl rfl)
set_option maxHeartbeats 4000000 in
set_option maxRecDepth 100000 in
theorem c_get_s {u v : SS} {g : GH} (I : CI u) {i : Nat} (hi : (i : Int) < u.1 14) : Cn yJx4a65c_get_915e3 (wsy yJx4a65c_get_915e3 cJx4a65c_get_915e3 2 (some (.object "java/lang/Object"))) 2 0 0 nn [vR (some 1011), vI (i : Int)] (mk u v g) (.inl (some (vR (some (2000 + i))), mk u v g)) := by
  refine con_j (lv := [(0, vR (some 1011)), (1, vI (i : Int))]) (by decide) (fun ad => Nat.le_of_ble_eq_true rfl) (fun ad => rfl) rfl ?_
  intro k C hr hlv hmc hms hPo hPx htab
  refine ev_s C dJx4a65c_get_915e3_0 (q := 1) rfl rfl ?_
  refine ev_s C dJx4a65c_get_915e3_1 (q := 2) rfl rfl ?_
  refine cg_1011_2 C dJx4a65c_get_915e3_2 kf_Jx4a65c_48 (q := 5) rfl ?_
  refine ev_cS C dJx4a65c_get_915e3_5 (q := 8) rfl km_Jx4a65c_118 ks_J15_checkIndex_7cf53 kc_J15_checkIndex_7cf53 (c_J15_checkIndex_7cf53 (by have := I.s14; unfold rg; omega) (by omega)) rfl rfl (by rw [hlv]; first | decide | omega) (by decide) (Nat.le_of_ble_eq_true rfl) (by first | exact Nat.zero_le _ | (rw [hmc]; decide)) (by first | exact Nat.zero_le _ | (rw [hms]; decide)) ?_
  refine ev_s C dJx4a65c_get_915e3_8 (q := 9) rfl rfl ?_
  refine ev_s C dJx4a65c_get_915e3_9 (q := 10) rfl rfl ?_
  refine ev_s C dJx4a65c_get_915e3_10 (q := 11) rfl rfl ?_
  refine ev_cV C dJx4a65c_get_915e3_11 (q := 14) rfl km_Jx4a65c_123 kv_Jx4a65c_elementData_915e3 kc_Jx4a65c_elementData_915e3 (c_elementData_s I hi) rfl rfl vcJx4a65c rfl (by rw [hlv]; first | decide | omega) (by decide) (Nat.le_of_ble_eq_true rfl) (by first | exact Nat.zero_le _ | (rw [hmc]; decide)) (by first | exact Nat.zero_le _ | (rw [hms]; decide)) ?_
  exact ev_aret C hr (Or.inl ⟨_, rfl⟩) dJx4a65c_get_915e3_14 (Nat.zero_le _) (Nat.zero_le _) (po_1 hPo rfl rfl)
