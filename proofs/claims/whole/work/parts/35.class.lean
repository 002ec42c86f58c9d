/-! THE ORDER LIST: add, remove -/
theorem CI_S {u : SS} {k : Nat} {x : Int} (I : CI u) (h : k = 10 ∨ k = 13 ∨ (lC k ≤ x ∧ x ≤ hC k)) (h1 : k ≠ 11) (h2 : k ≠ 12) (h3 : k ≠ 14) (h4 : k ≠ 15) : CI (stS u k x) := by
  have e : ∀ j, j ≠ k → (stS u k x).1 j = u.1 j := fun j hj => by rw [stS_1, if_neg hj]
  refine ⟨fun j => ?_, I.2.1, ?_, ?_, ?_, ?_, ?_⟩
  · by_cases c : j = k
    · subst c
      rw [stS_1, if_pos rfl]
      exact h
    · rw [e j c]; exact I.1 j
  · rw [e 11 (Ne.symm h1), e 12 (Ne.symm h2)]; exact I.2.2.1
  · rw [e 14 (Ne.symm h3), e 15 (Ne.symm h4)]; exact I.2.2.2.1
  · rw [e 14 (Ne.symm h3)]; exact I.2.2.2.2.1
  · rw [e 14 (Ne.symm h3)]; exact I.2.2.2.2.2.1
  · rw [e 11 (Ne.symm h1)]; exact I.2.2.2.2.2.2
theorem CI_A {u : SS} {a i : Nat} {x : Int} (I : CI u) (h : lD a ≤ x ∧ x ≤ hD a) (h2 : a ≠ 2) (h3 : a ≠ 3) : CI (stA u a i x) := by
  refine ⟨I.1, fun b j => ?_, I.2.2.1, I.2.2.2.1, ?_, ?_, ?_⟩
  · rw [stA_2]
    by_cases e : b = a
    · rw [if_pos e]
      by_cases e2 : j = i
      · rw [if_pos e2, e]; exact h
      · rw [if_neg e2]; exact I.2.1 b j
    · rw [if_neg e]; exact I.2.1 b j
  · intro j; rw [stA_2, if_neg (Ne.symm h2)]; exact I.2.2.2.2.1 j
  · intro j; rw [stA_2, if_neg (Ne.symm h3)]; exact I.2.2.2.2.2.1 j
  · intro j hj; rw [stA_2, if_neg (Ne.symm h3)]; exact I.2.2.2.2.2.2 j hj
theorem CI_A2 {u : SS} {i : Nat} {x : Int} (I : CI u) (h : -1 ≤ x ∧ x < 8 * u.1 14) : CI (stA u 2 i x) := by
  have i14 := I.s14
  refine ⟨I.1, fun b j => ?_, I.2.2.1, I.2.2.2.1, ?_, I.2.2.2.2.2.1, I.2.2.2.2.2.2⟩
  · rw [stA_2]
    by_cases e : b = 2
    · rw [if_pos e]
      by_cases e2 : j = i
      · rw [if_pos e2, e]; show -1 ≤ x ∧ x ≤ 47; omega
      · rw [if_neg e2]; exact I.2.1 b j
    · rw [if_neg e]; exact I.2.1 b j
  · intro j
    rw [stA_2, if_pos rfl]
    by_cases e2 : j = i
    · rw [if_pos e2]; exact h.2
    · rw [if_neg e2]; exact I.2.2.2.2.1 j
/-- the list's numbers and row anew -/
theorem CI_L {u u' : SS} (I : CI u) (h1 : ∀ s, s ≠ 10 → s ≠ 11 → s ≠ 12 → u'.1 s = u.1 s) (h2 : ∀ a, a ≠ 3 → u'.2 a = u.2 a) (h3 : 0 ≤ u'.1 11 ∧ u'.1 11 ≤ 48 ∧ u'.1 11 ≤ u'.1 12 ∧ u'.1 12 ≤ 73) (h4 : ∀ j, -1 ≤ u'.2 3 j ∧ u'.2 3 j < 8 * u.1 14) (h5 : ∀ j : Nat, (j : Int) < u'.1 11 → 0 ≤ u'.2 3 j) : CI u' := by
  have i14 := I.s14
  have e14 := h1 14 (by decide) (by decide) (by decide)
  refine ⟨fun k => ?_, fun a j => ?_, h3.2.2.1, ?_, ?_, ?_, h5⟩
  · by_cases c0 : k = 10
    · exact Or.inl c0
    · by_cases c1 : k = 11
      · subst c1; exact Or.inr (Or.inr ⟨h3.1, h3.2.1⟩)
      · by_cases c2 : k = 12
        · subst c2; exact Or.inr (Or.inr ⟨by show 0 ≤ u'.1 12; omega, h3.2.2.2⟩)
        · rw [h1 k c0 c1 c2]; exact I.1 k
  · by_cases c : a = 3
    · subst c
      have := h4 j
      show -1 ≤ u'.2 3 j ∧ u'.2 3 j ≤ 47
      omega
    · rw [h2 a c]; exact I.2.1 a j
  · rw [e14, h1 15 (by decide) (by decide) (by decide)]; exact I.2.2.2.1
  · rw [e14, h2 2 (by decide)]; exact I.2.2.2.2.1
  · intro j; rw [e14]; exact (h4 j).2
def grM (u : SS) : SS := if u.1 12 = 0 then gr0 u else gr1 u
theorem grM_S {u : SS} {s : Nat} (h : s ≠ 12) : (grM u).1 s = u.1 s := by
  unfold grM
  split
  · show (stS u 12 10).1 s = _; rw [stS_1, if_neg h]
  · show (stS u 12 _).1 s = _; rw [stS_1, if_neg h]
theorem grM_A {u : SS} {a : Nat} (h : a ≠ 3) : (grM u).2 a = u.2 a := by
  unfold grM
  split
  · show (if a = 3 then _ else u.2 a) = _; rw [if_neg h]
  · show (if a = 3 then _ else u.2 a) = _; rw [if_neg h]
theorem grM_3 {u : SS} {j : Nat} (h : (j : Int) < u.1 12) : (grM u).2 3 j = u.2 3 j := by
  unfold grM
  split
  · omega
  · show (if (j : Int) < u.1 12 then u.2 3 j else -1) = _; rw [if_pos h]
theorem grM_c {u : SS} (I : CI u) (hs : u.1 11 = u.1 12) : u.1 12 < (grM u).1 12 ∧ (grM u).1 12 ≤ 73 := by
  have i11 := I.s11
  unfold grM
  split
  · rename_i e; show u.1 12 < 10 ∧ (10 : Int) ≤ 73; omega
  · rename_i e
    have := ncap_b (c := u.1 12) (by omega) (by omega)
    show u.1 12 < ncap (u.1 12) ∧ ncap (u.1 12) ≤ 73
    omega
theorem grM_bd {u : SS} (I : CI u) (j : Nat) : -1 ≤ (grM u).2 3 j ∧ (grM u).2 3 j < 8 * u.1 14 := by
  have i14 := I.s14
  have h1 := I.a3 j
  have h2 := I.od j
  unfold grM
  split
  · show -1 ≤ (-1 : Int) ∧ (-1 : Int) < 8 * u.1 14; omega
  · show -1 ≤ (if (j : Int) < u.1 12 then u.2 3 j else -1) ∧ (if (j : Int) < u.1 12 then u.2 3 j else -1) < 8 * u.1 14
    split <;> omega
theorem CI_gr {u : SS} (I : CI u) (hs : u.1 11 = u.1 12) : CI (grM u) := by
  have i11 := I.s11
  have hc := grM_c I hs
  have e11 : (grM u).1 11 = u.1 11 := grM_S (by decide)
  exact CI_L I (fun s _ _ h => grM_S h) (fun a h => grM_A h) (by omega) (grM_bd I) (fun j hj => by rw [grM_3 (by omega)]; exact I.on (by omega))
theorem c_growM {u v : SS} {g : GH} (I : CI u) (hg : NR g) (hs : u.1 11 = u.1 12) : Cn yJx4a65c_grow_92f84 (wsy yJx4a65c_grow_92f84 cJx4a65c_grow_92f84 4 (some (.array (.object "java/lang/Object")))) 3 1 73 nwG [vR (some 1007), vI (u.1 11 + 1)] (mk u v g) (.inl (some (vR (some 1008)), mk (grM u) v g)) := by
  unfold grM
  by_cases hc : u.1 12 = 0
  · rw [if_pos hc]; exact c_grow0 I hc
  · rw [if_neg hc]; exact c_grow1 I hg hc hs
set_option maxHeartbeats 4000000 in
set_option maxRecDepth 100000 in
theorem c_growI {u v : SS} {g : GH} (I : CI u) (hg : NR g) (hs : u.1 11 = u.1 12) : Cn yJx4a65c_grow_d5877 (wsy yJx4a65c_grow_d5877 cJx4a65c_grow_d5877 1 (some (.array (.object "java/lang/Object")))) 4 1 73 nwG [vR (some 1007)] (mk u v g) (.inl (some (vR (some 1008)), mk (grM u) v g)) := by
  refine con_k2 (lv := [(0, vR (some 1007))]) (by decide) (by unfold nwG; decide) (fun ad => Nat.le_of_ble_eq_true rfl) (fun ad => rfl) rfl ?_
  intro k C hr hkG hlv hmc hms hw hPo hPx htab
  refine ev_s C dJx4a65c_grow_d5877_0 (q := 1) rfl rfl ?_
  refine ev_s C dJx4a65c_grow_d5877_1 (q := 2) rfl rfl ?_
  refine cg_1007_2 C dJx4a65c_grow_d5877_2 kf_Jx4a65c_48 (q := 5) rfl ?_
  refine ev_s C dJx4a65c_grow_d5877_5 (q := 6) rfl rfl ?_
  refine ev_s C dJx4a65c_grow_d5877_6 (q := 7) rfl rfl ?_
  refine ev_cVn C dJx4a65c_grow_d5877_7 (q := 10) rfl km_Jx4a65c_69 kv_Jx4a65c_grow_92f84 kc_Jx4a65c_grow_92f84 (c_growM I hg hs) rfl rfl vcJx4a65c rfl (by rw [hlv]; first | decide | omega) (by decide) (Nat.le_of_ble_eq_true rfl) (by first | exact Nat.zero_le _ | (rw [hmc]; decide) | (rw [hmc]; omega)) (by first | exact Nat.zero_le _ | (rw [hms]; decide) | (rw [hms]; omega)) (by rw [hw]; exact fun _ h => h) (by repeat' (first | exact nvA_0 | exact nvB_0 | apply nvA_c | apply nvB_c | exact nv_I | exact nv_L | exact nv_N | exact nv_R (by unfold nwG; omega) | exact nv_I' | exact nv_L' | exact nv_N' | exact nv_R' (by unfold nwG; omega))) (by repeat' (first | exact nvA_0 | exact nvB_0 | apply nvA_c | apply nvB_c | exact nv_I | exact nv_L | exact nv_N | exact nv_R (by unfold nwG; omega) | exact nv_I' | exact nv_L' | exact nv_N' | exact nv_R' (by unfold nwG; omega))) ?_
  exact ev_aret C hr (Or.inr ⟨_, rfl⟩) dJx4a65c_grow_d5877_10 (by rw [hmc]; decide) (by rw [hms]; omega) (po_1 hPo rfl rfl)
section OL
variable {k : Kx} {own : String} {cc : ByteArray} {nL : Nat} {pc q tgt : Nat} {lv lv' : List (Nat × AV)} {st st' : List AV} {u v : SS} {g : GH} {ct sl : Nat}
theorem cs_1008 {i : Int} {p : Nat} (C : CX k own cc nL) (hd : decode cc pc = .ok (.aastore, 1)) (hq : pc + 1 = q) (hc : u.1 12 ≠ 0) (h73 : u.1 12 ≤ 73) (hp : (p : Int) < 8 * u.1 14) (hi : 0 ≤ i ∧ i < u.1 12) (kk : EV k q lv st (mk (stA u 3 i.toNat (p : Int)) v g) ct sl) : EV k pc lv (vR (some (3000 + p)) :: vI i :: vR (some 1008) :: st) (mk u v g) ct sl := ev_aast C hd hq (Or.inr rfl) vcX2 (Or.inr ⟨_, rfl, by decide⟩) (gd_1008 hc) (gp_ hp) (by unfold rg; omega) hi.1 (by omega) (mk_cput (u' := stA u 3 i.toNat (p : Int)) (by decide) (show (if u.1 12 = 0 then none else some (Sum.inr (6, (u.1 12).toNat, fun j => pgr ((stA u 3 i.toNat (p : Int)).2 3 j)))) = _ by rw [if_neg hc, stA_pgr (by rw [pgr_o, pgo_k])]) (fun m _ hm => eS_av (n := 1008) (by decide) rfl hm)) kk
theorem cs_1008N {i : Int} (C : CX k own cc nL) (hd : decode cc pc = .ok (.aastore, 1)) (hq : pc + 1 = q) (hc : u.1 12 ≠ 0) (h73 : u.1 12 ≤ 73) (hi : 0 ≤ i ∧ i < u.1 12) (kk : EV k q lv st (mk (stA u 3 i.toNat (-1)) v g) ct sl) : EV k pc lv (vR none :: vI i :: vR (some 1008) :: st) (mk u v g) ct sl := ev_aastN C hd hq (Or.inr rfl) (gd_1008 hc) (by unfold rg; omega) hi.1 (by omega) (mk_cput (u' := stA u 3 i.toNat (-1)) (by decide) (show (if u.1 12 = 0 then none else some (Sum.inr (6, (u.1 12).toNat, fun j => pgr ((stA u 3 i.toNat (-1)).2 3 j)))) = _ by rw [if_neg hc, stA_pgr (w := vR none) rfl]) (fun m _ hm => eS_av (n := 1008) (by decide) rfl hm)) kk
end OL
set_option maxHeartbeats 4000000 in
set_option maxRecDepth 100000 in
theorem c_add3a {u v : SS} {g : GH} (I : CI u) {p : Nat} (hp : (p : Int) < 8 * u.1 14) (hc : u.1 12 ≠ 0) (hs : u.1 11 < u.1 12) : Cn yJx4a65c_add_72be8 (wsy yJx4a65c_add_72be8 cJx4a65c_add_72be8 4 none) 5 1 73 nwG [vR (some 1007), vR (some (3000 + p)), vR (some 1008), vI (u.1 11)] (mk u v g) (.inl (none, mk (stS (stA u 3 (u.1 11).toNat (p : Int)) 11 (u.1 11 + 1)) v g)) := by
  refine con_k2 (lv := [(0, vR (some 1007)), (1, vR (some (3000 + p))), (2, vR (some 1008)), (3, vI (u.1 11))]) (by decide) (by unfold nwG; decide) (fun ad => Nat.le_of_ble_eq_true rfl) (fun ad => rfl) rfl ?_
  intro k C hr hkG hlv hmc hms hw hPo hPx htab
  refine ev_s C dJx4a65c_add_72be8_0 (q := 1) rfl rfl ?_
  refine ev_s C dJx4a65c_add_72be8_1 (q := 2) rfl rfl ?_
  refine ev_alen C dJx4a65c_add_72be8_2 (q := 3) rfl (gd_1008 hc) ?_
  refine ev_eqS (st := [vI (u.1 12), vI (u.1 11)]) (by rw [Int.toNat_of_nonneg I.s12.1]) ?_
  refine ev_icmp_ne C dJx4a65c_add_72be8_3 (tgt := 11) (q := 6) (by decide) rfl (by first | decide | (have i11 := I.s11; have i12 := I.s12; unfold rg; omega)) (by first | decide | (have i11 := I.s11; have i12 := I.s12; unfold rg; omega)) (fun b0 => ?_) (fun b0 => ?_)
  · refine ev_s C dJx4a65c_add_72be8_11 (q := 12) rfl rfl ?_
    refine ev_s C dJx4a65c_add_72be8_12 (q := 13) rfl rfl ?_
    refine ev_s C dJx4a65c_add_72be8_13 (q := 14) rfl rfl ?_
    have i11 := I.s11
    have i12 := I.s12
    refine cs_1008 C dJx4a65c_add_72be8_14 (q := 15) rfl (by omega) (by omega) (by omega) (by omega) ?_
    refine ev_s C dJx4a65c_add_72be8_15 (q := 16) rfl rfl ?_
    refine ev_s C dJx4a65c_add_72be8_16 (q := 17) rfl rfl ?_
    refine ev_s C dJx4a65c_add_72be8_17 (q := 18) rfl rfl ?_
    refine ev_s C dJx4a65c_add_72be8_18 (q := 19) rfl rfl ?_
    refine cp_1007_2 C dJx4a65c_add_72be8_19 kf_Jx4a65c_48 (q := 22) rfl (fit_I _) ?_
    exact ev_vret C hr dJx4a65c_add_72be8_22 (by rw [hmc]; decide) (by rw [hms]; omega) (po_0 hPo rfl)
  · exfalso; omega
set_option maxHeartbeats 4000000 in
set_option maxRecDepth 100000 in
theorem c_add3b {u v : SS} {g : GH} (I : CI u) {p : Nat} (hp : (p : Int) < 8 * u.1 14) (hg : NR g) (hc : u.1 12 ≠ 0) (hs : u.1 11 = u.1 12) : Cn yJx4a65c_add_72be8 (wsy yJx4a65c_add_72be8 cJx4a65c_add_72be8 4 none) 5 1 73 nwG [vR (some 1007), vR (some (3000 + p)), vR (some 1008), vI (u.1 11)] (mk u v g) (.inl (none, mk (stS (stA (grM u) 3 (u.1 11).toNat (p : Int)) 11 (u.1 11 + 1)) v g)) := by
  refine con_k2 (lv := [(0, vR (some 1007)), (1, vR (some (3000 + p))), (2, vR (some 1008)), (3, vI (u.1 11))]) (by decide) (by unfold nwG; decide) (fun ad => Nat.le_of_ble_eq_true rfl) (fun ad => rfl) rfl ?_
  intro k C hr hkG hlv hmc hms hw hPo hPx htab
  refine ev_s C dJx4a65c_add_72be8_0 (q := 1) rfl rfl ?_
  refine ev_s C dJx4a65c_add_72be8_1 (q := 2) rfl rfl ?_
  refine ev_alen C dJx4a65c_add_72be8_2 (q := 3) rfl (gd_1008 hc) ?_
  refine ev_eqS (st := [vI (u.1 12), vI (u.1 11)]) (by rw [Int.toNat_of_nonneg I.s12.1]) ?_
  refine ev_icmp_ne C dJx4a65c_add_72be8_3 (tgt := 11) (q := 6) (by decide) rfl (by first | decide | (have i11 := I.s11; have i12 := I.s12; unfold rg; omega)) (by first | decide | (have i11 := I.s11; have i12 := I.s12; unfold rg; omega)) (fun b0 => ?_) (fun b0 => ?_)
  · exfalso; omega
  · refine ev_s C dJx4a65c_add_72be8_6 (q := 7) rfl rfl ?_
    refine ev_keep [0, 1, 3] rfl ?_
    refine ev_cVn C dJx4a65c_add_72be8_7 (q := 10) rfl km_Jx4a65c_129 kv_Jx4a65c_grow_d5877 kc_Jx4a65c_grow_d5877 (c_growI I hg (by omega)) rfl rfl vcJx4a65c rfl (by rw [hlv]; first | decide | omega) (by decide) (Nat.le_of_ble_eq_true rfl) (by first | exact Nat.zero_le _ | (rw [hmc]; decide) | (rw [hmc]; omega)) (by first | exact Nat.zero_le _ | (rw [hms]; decide) | (rw [hms]; omega)) (by rw [hw]; exact fun _ h => h) (by repeat' (first | exact nvA_0 | exact nvB_0 | apply nvA_c | apply nvB_c | exact nv_I | exact nv_L | exact nv_N | exact nv_R (by unfold nwG; omega) | exact nv_I' | exact nv_L' | exact nv_N' | exact nv_R' (by unfold nwG; omega))) (by repeat' (first | exact nvA_0 | exact nvB_0 | apply nvA_c | apply nvB_c | exact nv_I | exact nv_L | exact nv_N | exact nv_R (by unfold nwG; omega) | exact nv_I' | exact nv_L' | exact nv_N' | exact nv_R' (by unfold nwG; omega))) ?_
    refine ev_s C dJx4a65c_add_72be8_10 (q := 11) rfl rfl ?_
    refine ev_s C dJx4a65c_add_72be8_11 (q := 12) rfl rfl ?_
    refine ev_s C dJx4a65c_add_72be8_12 (q := 13) rfl rfl ?_
    refine ev_s C dJx4a65c_add_72be8_13 (q := 14) rfl rfl ?_
    have i11 := I.s11
    have i12 := I.s12
    have hc9 := grM_c I (by omega)
    have e14 : (grM u).1 14 = u.1 14 := grM_S (by decide)
    refine cs_1008 C dJx4a65c_add_72be8_14 (q := 15) rfl (by omega) (by omega) (by omega) (by omega) ?_
    refine ev_s C dJx4a65c_add_72be8_15 (q := 16) rfl rfl ?_
    refine ev_s C dJx4a65c_add_72be8_16 (q := 17) rfl rfl ?_
    refine ev_s C dJx4a65c_add_72be8_17 (q := 18) rfl rfl ?_
    refine ev_s C dJx4a65c_add_72be8_18 (q := 19) rfl rfl ?_
    refine cp_1007_2 C dJx4a65c_add_72be8_19 kf_Jx4a65c_48 (q := 22) rfl (fit_I _) ?_
    exact ev_vret C hr dJx4a65c_add_72be8_22 (by rw [hmc]; decide) (by rw [hms]; omega) (po_0 hPo rfl)
set_option maxHeartbeats 4000000 in
set_option maxRecDepth 100000 in
theorem c_add3c {u v : SS} {g : GH} (I : CI u) {p : Nat} (hp : (p : Int) < 8 * u.1 14) (hg : NR g) (hc : u.1 12 = 0) : Cn yJx4a65c_add_72be8 (wsy yJx4a65c_add_72be8 cJx4a65c_add_72be8 4 none) 5 1 73 nwG [vR (some 1007), vR (some (3000 + p)), vR (some 1013), vI (u.1 11)] (mk u v g) (.inl (none, mk (stS (stA (grM u) 3 (u.1 11).toNat (p : Int)) 11 (u.1 11 + 1)) v g)) := by
  refine con_k2 (lv := [(0, vR (some 1007)), (1, vR (some (3000 + p))), (2, vR (some 1013)), (3, vI (u.1 11))]) (by decide) (by unfold nwG; decide) (fun ad => Nat.le_of_ble_eq_true rfl) (fun ad => rfl) rfl ?_
  intro k C hr hkG hlv hmc hms hw hPo hPx htab
  refine ev_s C dJx4a65c_add_72be8_0 (q := 1) rfl rfl ?_
  refine ev_s C dJx4a65c_add_72be8_1 (q := 2) rfl rfl ?_
  refine ev_alen0 C dJx4a65c_add_72be8_2 (q := 3) rfl ?_
  refine ev_icmp_ne C dJx4a65c_add_72be8_3 (tgt := 11) (q := 6) (by decide) rfl (by first | decide | (have i11 := I.s11; have i12 := I.s12; unfold rg; omega)) (by first | decide | (have i11 := I.s11; have i12 := I.s12; unfold rg; omega)) (fun b0 => ?_) (fun b0 => ?_)
  · exfalso; have := I.sz; have := I.s11; omega
  · refine ev_s C dJx4a65c_add_72be8_6 (q := 7) rfl rfl ?_
    refine ev_keep [0, 1, 3] rfl ?_
    refine ev_cVn C dJx4a65c_add_72be8_7 (q := 10) rfl km_Jx4a65c_129 kv_Jx4a65c_grow_d5877 kc_Jx4a65c_grow_d5877 (c_growI I hg (by have := I.sz; have := I.s11; omega)) rfl rfl vcJx4a65c rfl (by rw [hlv]; first | decide | omega) (by decide) (Nat.le_of_ble_eq_true rfl) (by first | exact Nat.zero_le _ | (rw [hmc]; decide) | (rw [hmc]; omega)) (by first | exact Nat.zero_le _ | (rw [hms]; decide) | (rw [hms]; omega)) (by rw [hw]; exact fun _ h => h) (by repeat' (first | exact nvA_0 | exact nvB_0 | apply nvA_c | apply nvB_c | exact nv_I | exact nv_L | exact nv_N | exact nv_R (by unfold nwG; omega) | exact nv_I' | exact nv_L' | exact nv_N' | exact nv_R' (by unfold nwG; omega))) (by repeat' (first | exact nvA_0 | exact nvB_0 | apply nvA_c | apply nvB_c | exact nv_I | exact nv_L | exact nv_N | exact nv_R (by unfold nwG; omega) | exact nv_I' | exact nv_L' | exact nv_N' | exact nv_R' (by unfold nwG; omega))) ?_
    refine ev_s C dJx4a65c_add_72be8_10 (q := 11) rfl rfl ?_
    refine ev_s C dJx4a65c_add_72be8_11 (q := 12) rfl rfl ?_
    refine ev_s C dJx4a65c_add_72be8_12 (q := 13) rfl rfl ?_
    refine ev_s C dJx4a65c_add_72be8_13 (q := 14) rfl rfl ?_
    have i11 := I.s11
    have i12 := I.s12
    have isz := I.sz
    have hc9 := grM_c I (by omega)
    have e14 : (grM u).1 14 = u.1 14 := grM_S (by decide)
    refine cs_1008 C dJx4a65c_add_72be8_14 (q := 15) rfl (by omega) (by omega) (by omega) (by omega) ?_
    refine ev_s C dJx4a65c_add_72be8_15 (q := 16) rfl rfl ?_
    refine ev_s C dJx4a65c_add_72be8_16 (q := 17) rfl rfl ?_
    refine ev_s C dJx4a65c_add_72be8_17 (q := 18) rfl rfl ?_
    refine ev_s C dJx4a65c_add_72be8_18 (q := 19) rfl rfl ?_
    refine cp_1007_2 C dJx4a65c_add_72be8_19 kf_Jx4a65c_48 (q := 22) rfl (fit_I _) ?_
    exact ev_vret C hr dJx4a65c_add_72be8_22 (by rw [hmc]; decide) (by rw [hms]; omega) (po_0 hPo rfl)
def oa1 (u : SS) : SS := if u.1 11 = u.1 12 then grM u else u
def oaM (u : SS) (p : Int) : SS := stS (stA (oa1 (stS u 10 (u.1 10 + 1))) 3 (u.1 11).toNat p) 11 (u.1 11 + 1)
set_option maxHeartbeats 4000000 in
set_option maxRecDepth 100000 in
theorem c_adda {u v : SS} {g : GH} (I : CI u) {p : Nat} (hp : (p : Int) < 8 * u.1 14) (hc : u.1 12 ≠ 0) (hs : u.1 11 < u.1 12) : Cn yJx4a65c_add_9ea2d (wsy yJx4a65c_add_9ea2d cJx4a65c_add_9ea2d 2 (some .boolean)) 6 1 73 nwG [vR (some 1007), vR (some (3000 + p))] (mk u v g) (.inl (some (vI 1), mk (oaM u p) v g)) := by
  refine con_k2 (lv := [(0, vR (some 1007)), (1, vR (some (3000 + p)))]) (by decide) (by unfold nwG; decide) (fun ad => Nat.le_of_ble_eq_true rfl) (fun ad => rfl) rfl ?_
  intro k C hr hkG hlv hmc hms hw hPo hPx htab
  have J : CI (stS u 10 (u.1 10 + 1)) := CI_S I (Or.inl rfl) (by decide) (by decide) (by decide) (by decide)
  refine ev_s C dJx4a65c_add_9ea2d_0 (q := 1) rfl rfl ?_
  refine ev_s C dJx4a65c_add_9ea2d_1 (q := 2) rfl rfl ?_
  refine cg_1007_0 C dJx4a65c_add_9ea2d_2 kf_Jx4a65c_63 (q := 5) rfl ?_
  refine ev_s C dJx4a65c_add_9ea2d_5 (q := 6) rfl rfl ?_
  refine ev_s C dJx4a65c_add_9ea2d_6 (q := 7) rfl rfl ?_
  refine cp_1007_0 C dJx4a65c_add_9ea2d_7 kf_Jx4a65c_63 (q := 10) rfl (fit_I _) ?_
  refine ev_s C dJx4a65c_add_9ea2d_10 (q := 11) rfl rfl ?_
  refine ev_s C dJx4a65c_add_9ea2d_11 (q := 12) rfl rfl ?_
  refine ev_s C dJx4a65c_add_9ea2d_12 (q := 13) rfl rfl ?_
  refine cd_1007 C dJx4a65c_add_9ea2d_13 kf_Jx4a65c_9 (q := 16) rfl hc ?_
  refine ev_s C dJx4a65c_add_9ea2d_16 (q := 17) rfl rfl ?_
  refine cg_1007_2 C dJx4a65c_add_9ea2d_17 kf_Jx4a65c_48 (q := 20) rfl ?_
  refine ev_cVn C dJx4a65c_add_9ea2d_20 (q := 23) rfl km_Jx4a65c_131 kv_Jx4a65c_add_72be8 kc_Jx4a65c_add_72be8 (c_add3a J hp hc hs) rfl rfl vcJx4a65c rfl (by rw [hlv]; first | decide | omega) (by decide) (Nat.le_of_ble_eq_true rfl) (by first | exact Nat.zero_le _ | (rw [hmc]; decide) | (rw [hmc]; omega)) (by first | exact Nat.zero_le _ | (rw [hms]; decide) | (rw [hms]; omega)) (by rw [hw]; exact fun _ h => h) (by repeat' (first | exact nvA_0 | exact nvB_0 | apply nvA_c | apply nvB_c | exact nv_I | exact nv_L | exact nv_N | exact nv_R (by unfold nwG; omega) | exact nv_I' | exact nv_L' | exact nv_N' | exact nv_R' (by unfold nwG; omega))) (by repeat' (first | exact nvA_0 | exact nvB_0 | apply nvA_c | apply nvB_c | exact nv_I | exact nv_L | exact nv_N | exact nv_R (by unfold nwG; omega) | exact nv_I' | exact nv_L' | exact nv_N' | exact nv_R' (by unfold nwG; omega))) ?_
  refine ev_eq (G := mk (oaM u p) v g) (by unfold oaM oa1; rw [if_neg (show ¬ (stS u 10 (u.1 10 + 1)).1 11 = (stS u 10 (u.1 10 + 1)).1 12 from by show ¬ u.1 11 = u.1 12; omega)]; rfl) ?_
  refine ev_s C dJx4a65c_add_9ea2d_23 (q := 24) rfl rfl ?_
  exact ev_zret C hr (fit_Z (by first | decide | exact bI_01 _ | assumption)) dJx4a65c_add_9ea2d_24 (by rw [hmc]; decide) (by rw [hms]; omega) (po_1 hPo (by first | rfl | simp [*]) rfl)
set_option maxHeartbeats 4000000 in
set_option maxRecDepth 100000 in
theorem c_addb {u v : SS} {g : GH} (I : CI u) {p : Nat} (hp : (p : Int) < 8 * u.1 14) (hg : NR g) (hc : u.1 12 ≠ 0) (hs : u.1 11 = u.1 12) : Cn yJx4a65c_add_9ea2d (wsy yJx4a65c_add_9ea2d cJx4a65c_add_9ea2d 2 (some .boolean)) 6 1 73 nwG [vR (some 1007), vR (some (3000 + p))] (mk u v g) (.inl (some (vI 1), mk (oaM u p) v g)) := by
  refine con_k2 (lv := [(0, vR (some 1007)), (1, vR (some (3000 + p)))]) (by decide) (by unfold nwG; decide) (fun ad => Nat.le_of_ble_eq_true rfl) (fun ad => rfl) rfl ?_
  intro k C hr hkG hlv hmc hms hw hPo hPx htab
  have J : CI (stS u 10 (u.1 10 + 1)) := CI_S I (Or.inl rfl) (by decide) (by decide) (by decide) (by decide)
  refine ev_s C dJx4a65c_add_9ea2d_0 (q := 1) rfl rfl ?_
  refine ev_s C dJx4a65c_add_9ea2d_1 (q := 2) rfl rfl ?_
  refine cg_1007_0 C dJx4a65c_add_9ea2d_2 kf_Jx4a65c_63 (q := 5) rfl ?_
  refine ev_s C dJx4a65c_add_9ea2d_5 (q := 6) rfl rfl ?_
  refine ev_s C dJx4a65c_add_9ea2d_6 (q := 7) rfl rfl ?_
  refine cp_1007_0 C dJx4a65c_add_9ea2d_7 kf_Jx4a65c_63 (q := 10) rfl (fit_I _) ?_
  refine ev_s C dJx4a65c_add_9ea2d_10 (q := 11) rfl rfl ?_
  refine ev_s C dJx4a65c_add_9ea2d_11 (q := 12) rfl rfl ?_
  refine ev_s C dJx4a65c_add_9ea2d_12 (q := 13) rfl rfl ?_
  refine cd_1007 C dJx4a65c_add_9ea2d_13 kf_Jx4a65c_9 (q := 16) rfl hc ?_
  refine ev_s C dJx4a65c_add_9ea2d_16 (q := 17) rfl rfl ?_
  refine cg_1007_2 C dJx4a65c_add_9ea2d_17 kf_Jx4a65c_48 (q := 20) rfl ?_
  refine ev_cVn C dJx4a65c_add_9ea2d_20 (q := 23) rfl km_Jx4a65c_131 kv_Jx4a65c_add_72be8 kc_Jx4a65c_add_72be8 (c_add3b J hp hg hc hs) rfl rfl vcJx4a65c rfl (by rw [hlv]; first | decide | omega) (by decide) (Nat.le_of_ble_eq_true rfl) (by first | exact Nat.zero_le _ | (rw [hmc]; decide) | (rw [hmc]; omega)) (by first | exact Nat.zero_le _ | (rw [hms]; decide) | (rw [hms]; omega)) (by rw [hw]; exact fun _ h => h) (by repeat' (first | exact nvA_0 | exact nvB_0 | apply nvA_c | apply nvB_c | exact nv_I | exact nv_L | exact nv_N | exact nv_R (by unfold nwG; omega) | exact nv_I' | exact nv_L' | exact nv_N' | exact nv_R' (by unfold nwG; omega))) (by repeat' (first | exact nvA_0 | exact nvB_0 | apply nvA_c | apply nvB_c | exact nv_I | exact nv_L | exact nv_N | exact nv_R (by unfold nwG; omega) | exact nv_I' | exact nv_L' | exact nv_N' | exact nv_R' (by unfold nwG; omega))) ?_
  refine ev_eq (G := mk (oaM u p) v g) (by unfold oaM oa1; rw [if_pos (show (stS u 10 (u.1 10 + 1)).1 11 = (stS u 10 (u.1 10 + 1)).1 12 from hs)]; rfl) ?_
  refine ev_s C dJx4a65c_add_9ea2d_23 (q := 24) rfl rfl ?_
  exact ev_zret C hr (fit_Z (by first | decide | exact bI_01 _ | assumption)) dJx4a65c_add_9ea2d_24 (by rw [hmc]; decide) (by rw [hms]; omega) (po_1 hPo (by first | rfl | simp [*]) rfl)
set_option maxHeartbeats 4000000 in
set_option maxRecDepth 100000 in
theorem c_addc {u v : SS} {g : GH} (I : CI u) {p : Nat} (hp : (p : Int) < 8 * u.1 14) (hg : NR g) (hc : u.1 12 = 0) : Cn yJx4a65c_add_9ea2d (wsy yJx4a65c_add_9ea2d cJx4a65c_add_9ea2d 2 (some .boolean)) 6 1 73 nwG [vR (some 1007), vR (some (3000 + p))] (mk u v g) (.inl (some (vI 1), mk (oaM u p) v g)) := by
  refine con_k2 (lv := [(0, vR (some 1007)), (1, vR (some (3000 + p)))]) (by decide) (by unfold nwG; decide) (fun ad => Nat.le_of_ble_eq_true rfl) (fun ad => rfl) rfl ?_
  intro k C hr hkG hlv hmc hms hw hPo hPx htab
  have J : CI (stS u 10 (u.1 10 + 1)) := CI_S I (Or.inl rfl) (by decide) (by decide) (by decide) (by decide)
  refine ev_s C dJx4a65c_add_9ea2d_0 (q := 1) rfl rfl ?_
  refine ev_s C dJx4a65c_add_9ea2d_1 (q := 2) rfl rfl ?_
  refine cg_1007_0 C dJx4a65c_add_9ea2d_2 kf_Jx4a65c_63 (q := 5) rfl ?_
  refine ev_s C dJx4a65c_add_9ea2d_5 (q := 6) rfl rfl ?_
  refine ev_s C dJx4a65c_add_9ea2d_6 (q := 7) rfl rfl ?_
  refine cp_1007_0 C dJx4a65c_add_9ea2d_7 kf_Jx4a65c_63 (q := 10) rfl (fit_I _) ?_
  refine ev_s C dJx4a65c_add_9ea2d_10 (q := 11) rfl rfl ?_
  refine ev_s C dJx4a65c_add_9ea2d_11 (q := 12) rfl rfl ?_
  refine ev_s C dJx4a65c_add_9ea2d_12 (q := 13) rfl rfl ?_
  refine cz_1007 C dJx4a65c_add_9ea2d_13 kf_Jx4a65c_9 (q := 16) rfl hc ?_
  refine ev_s C dJx4a65c_add_9ea2d_16 (q := 17) rfl rfl ?_
  refine cg_1007_2 C dJx4a65c_add_9ea2d_17 kf_Jx4a65c_48 (q := 20) rfl ?_
  refine ev_cVn C dJx4a65c_add_9ea2d_20 (q := 23) rfl km_Jx4a65c_131 kv_Jx4a65c_add_72be8 kc_Jx4a65c_add_72be8 (c_add3c J hp hg hc) rfl rfl vcJx4a65c rfl (by rw [hlv]; first | decide | omega) (by decide) (Nat.le_of_ble_eq_true rfl) (by first | exact Nat.zero_le _ | (rw [hmc]; decide) | (rw [hmc]; omega)) (by first | exact Nat.zero_le _ | (rw [hms]; decide) | (rw [hms]; omega)) (by rw [hw]; exact fun _ h => h) (by repeat' (first | exact nvA_0 | exact nvB_0 | apply nvA_c | apply nvB_c | exact nv_I | exact nv_L | exact nv_N | exact nv_R (by unfold nwG; omega) | exact nv_I' | exact nv_L' | exact nv_N' | exact nv_R' (by unfold nwG; omega))) (by repeat' (first | exact nvA_0 | exact nvB_0 | apply nvA_c | apply nvB_c | exact nv_I | exact nv_L | exact nv_N | exact nv_R (by unfold nwG; omega) | exact nv_I' | exact nv_L' | exact nv_N' | exact nv_R' (by unfold nwG; omega))) ?_
  refine ev_eq (G := mk (oaM u p) v g) (by unfold oaM oa1; rw [if_pos (show (stS u 10 (u.1 10 + 1)).1 11 = (stS u 10 (u.1 10 + 1)).1 12 from by show u.1 11 = u.1 12; have := I.sz; have := I.s11; omega)]; rfl) ?_
  refine ev_s C dJx4a65c_add_9ea2d_23 (q := 24) rfl rfl ?_
  exact ev_zret C hr (fit_Z (by first | decide | exact bI_01 _ | assumption)) dJx4a65c_add_9ea2d_24 (by rw [hmc]; decide) (by rw [hms]; omega) (po_1 hPo (by first | rfl | simp [*]) rfl)
theorem c_add {u v : SS} {g : GH} (I : CI u) (hg : NR g) {p : Nat} (hp : (p : Int) < 8 * u.1 14) : Cn yJx4a65c_add_9ea2d (wsy yJx4a65c_add_9ea2d cJx4a65c_add_9ea2d 2 (some .boolean)) 6 1 73 nwG [vR (some 1007), vR (some (3000 + p))] (mk u v g) (.inl (some (vI 1), mk (oaM u p) v g)) := by
  have h1 := I.sz
  by_cases hc : u.1 12 = 0
  · exact c_addc I hp hg hc
  · by_cases hs : u.1 11 = u.1 12
    · exact c_addb I hp hg hc hs
    · exact c_adda I hp hc (by omega)
theorem eS_fv {u : SS} {f : Nat → Int} {m : Nat} (hm : m ≠ 1007) (hm2 : m ≠ 1008) : eS (stF u 3 f) m = eS u m := eS_lo (u := u) (u' := stF u 3 f) (fun _ _ _ _ => rfl) (fun a h => by show (if a = 3 then _ else _) = _; rw [if_neg h]) hm hm2
def shO (u : SS) (i : Nat) : SS := stF (stS u 10 (u.1 10 + 1)) 3 (shf (u.2 3) i (u.1 11 - 1).toNat)
def orM (u : SS) (i : Nat) : SS := stA (stS (shO u i) 11 (u.1 11 - 1)) 3 (u.1 11 - 1).toNat (-1)
theorem orM_S {u : SS} {i s : Nat} (h1 : s ≠ 10) (h2 : s ≠ 11) : (orM u i).1 s = u.1 s := by
  show (stS _ 11 _).1 s = _
  rw [stS_1, if_neg h2]
  show (stS u 10 _).1 s = _
  rw [stS_1, if_neg h1]
theorem orM_A {u : SS} {i a : Nat} (h : a ≠ 3) : (orM u i).2 a = u.2 a := by
  funext j
  show (stA _ 3 _ _).2 a j = _
  rw [stA_2, if_neg h]
  show (if a = 3 then _ else u.2 a) j = _
  rw [if_neg h]
theorem orM_3 {u : SS} {i j : Nat} : (orM u i).2 3 j = if j = (u.1 11 - 1).toNat then -1 else shf (u.2 3) i (u.1 11 - 1).toNat j := rfl
theorem CI_or {u : SS} {i : Nat} (I : CI u) (hi : (i : Int) < u.1 11) : CI (orM u i) := by
  have i11 := I.s11
  have i12 := I.s12
  have i14 := I.s14
  have isz := I.sz
  have e12 : (orM u i).1 12 = u.1 12 := orM_S (by decide) (by decide)
  have e11 : (orM u i).1 11 = u.1 11 - 1 := rfl
  refine CI_L I (fun s h1 h2 _ => orM_S h1 h2) (fun a h => orM_A h) (by omega) (fun j => ?_) (fun j hj => ?_)
  · rw [orM_3]
    have h1 := I.a3 j
    have h2 := I.od j
    have h3 := I.a3 (j + 1)
    have h4 := I.od (j + 1)
    split
    · omega
    · unfold shf
      split <;> omega
  · rw [orM_3]
    rw [e11] at hj
    rw [if_neg (by omega)]
    unfold shf
    split
    · exact I.on (by omega)
    · exact I.on (by omega)
theorem shf_F {f : Nat → Int} {i z : Nat} (h : i ≤ z) : (fun j => pgr (shf f i z j)) = va_cpy (fun j => pgr (f j)) (fun j => pgr (f j)) (i + 1) i (z - i) := by
  funext j
  unfold shf va_cpy
  by_cases e : i ≤ j ∧ j < z
  · rw [if_pos e, if_pos (by omega), show i + 1 + (j - i) = j + 1 by omega]
  · rw [if_neg e, if_neg (by omega)]
set_option maxHeartbeats 4000000 in
set_option maxRecDepth 100000 in
theorem c_Jx4a65c_fastRemove_b59b0 {u v : SS} {g : GH} (I : CI u) {i : Nat} (hi : (i : Int) < u.1 11) : Cn yJx4a65c_fastRemove_b59b0 (wsy yJx4a65c_fastRemove_b59b0 cJx4a65c_fastRemove_b59b0 4 none) 1 0 0 nn [vR (some 1007), vR (some 1008), vI (i : Int)] (mk u v g) (.inl (none, mk (orM u i) v g)) := by
  refine con_j (lv := [(0, vR (some 1007)), (1, vR (some 1008)), (2, vI (i : Int))]) (by decide) (fun ad => Nat.le_of_ble_eq_true rfl) (fun ad => rfl) rfl ?_
  intro k C hr hlv hmc hms hPo hPx htab
  have J : CI (stS u 10 (u.1 10 + 1)) := CI_S I (Or.inl rfl) (by decide) (by decide) (by decide) (by decide)
  have i11 := I.s11
  have i12 := I.s12
  have isz := I.sz
  have hc : u.1 12 ≠ 0 := by omega
  refine ev_s C dJx4a65c_fastRemove_b59b0_0 (q := 1) rfl rfl ?_
  refine ev_s C dJx4a65c_fastRemove_b59b0_1 (q := 2) rfl rfl ?_
  refine cg_1007_0 C dJx4a65c_fastRemove_b59b0_2 kf_Jx4a65c_63 (q := 5) rfl ?_
  refine ev_s C dJx4a65c_fastRemove_b59b0_5 (q := 6) rfl rfl ?_
  refine ev_s C dJx4a65c_fastRemove_b59b0_6 (q := 7) rfl rfl ?_
  refine cp_1007_0 C dJx4a65c_fastRemove_b59b0_7 kf_Jx4a65c_63 (q := 10) rfl (fit_I _) ?_
  refine ev_s C dJx4a65c_fastRemove_b59b0_10 (q := 11) rfl rfl ?_
  refine cg_1007_2 C dJx4a65c_fastRemove_b59b0_11 kf_Jx4a65c_48 (q := 14) rfl ?_
  refine ev_s C dJx4a65c_fastRemove_b59b0_14 (q := 15) rfl rfl ?_
  refine ev_s C dJx4a65c_fastRemove_b59b0_15 (q := 16) rfl rfl ?_
  refine ev_s C dJx4a65c_fastRemove_b59b0_16 (q := 17) rfl rfl ?_
  refine ev_s C dJx4a65c_fastRemove_b59b0_17 (q := 18) rfl rfl ?_
  refine ev_s C dJx4a65c_fastRemove_b59b0_18 (q := 19) rfl rfl ?_
  refine ev_icmp_le C dJx4a65c_fastRemove_b59b0_19 (tgt := 34) (q := 22) (by decide) rfl (by first | decide | (show rg (u.1 11 - 1); unfold rg; omega) | (unfold rg; omega)) (by first | decide | (show rg (u.1 11 - 1); unfold rg; omega) | (unfold rg; omega)) (fun b0 => ?_) (fun b0 => ?_)
  · have b9 : u.1 11 - 1 ≤ (i : Int) := b0
    refine ev_eq (G := mk (shO u i) v g) (by unfold shO; rw [show (u.1 11 - 1).toNat = i by omega, shf_0]; exact congrArg (fun w => mk w v g) stF_self.symm) ?_
    refine ev_s C dJx4a65c_fastRemove_b59b0_34 (q := 35) rfl rfl ?_
    refine ev_s C dJx4a65c_fastRemove_b59b0_35 (q := 36) rfl rfl ?_
    refine ev_s C dJx4a65c_fastRemove_b59b0_36 (q := 37) rfl rfl ?_
    refine ev_s C dJx4a65c_fastRemove_b59b0_37 (q := 38) rfl rfl ?_
    refine cp_1007_2 C dJx4a65c_fastRemove_b59b0_38 kf_Jx4a65c_48 (q := 41) rfl (fit_I _) ?_
    refine ev_s C dJx4a65c_fastRemove_b59b0_41 (q := 42) rfl rfl ?_
    refine cs_1008N (u := stS (shO u i) 11 (u.1 11 - 1)) C dJx4a65c_fastRemove_b59b0_42 (q := 43) rfl hc (by show u.1 12 ≤ 73; omega) (by show 0 ≤ u.1 11 - 1 ∧ u.1 11 - 1 < u.1 12; omega) ?_
    exact ev_vret C hr dJx4a65c_fastRemove_b59b0_43 (Nat.zero_le _) (Nat.zero_le _) (po_0 hPo rfl)
  · have b9 : ¬ u.1 11 - 1 ≤ (i : Int) := b0
    refine ev_s C dJx4a65c_fastRemove_b59b0_22 (q := 23) rfl rfl ?_
    refine ev_s C dJx4a65c_fastRemove_b59b0_23 (q := 24) rfl rfl ?_
    refine ev_s C dJx4a65c_fastRemove_b59b0_24 (q := 25) rfl rfl ?_
    refine ev_s C dJx4a65c_fastRemove_b59b0_25 (q := 26) rfl rfl ?_
    refine ev_s C dJx4a65c_fastRemove_b59b0_26 (q := 27) rfl rfl ?_
    refine ev_s C dJx4a65c_fastRemove_b59b0_27 (q := 28) rfl rfl ?_
    refine ev_s C dJx4a65c_fastRemove_b59b0_28 (q := 29) rfl rfl ?_
    refine ev_s C dJx4a65c_fastRemove_b59b0_29 (q := 30) rfl rfl ?_
    refine ev_s C dJx4a65c_fastRemove_b59b0_30 (q := 31) rfl rfl ?_
    refine ev_acopy C dJx4a65c_fastRemove_b59b0_31 (q := 34) rfl (q9 619 (by decide +kernel) (by decide +kernel)) (gd_1008 (u := stS u 10 (u.1 10 + 1)) hc) (gd_1008 (u := stS u 10 (u.1 10 + 1)) hc) (by show (u.1 12).toNat ≤ 65536; omega) (by show (u.1 12).toNat ≤ 65536; omega) (by omega) (by omega) (by show 0 ≤ u.1 11 - 1 - (i : Int); omega) (by show (i : Int) + 1 + (u.1 11 - 1 - (i : Int)) ≤ (((u.1 12).toNat : Nat) : Int); omega) (by show (i : Int) + (u.1 11 - 1 - (i : Int)) ≤ (((u.1 12).toNat : Nat) : Int); omega) (fun z _ => elP_el (elP_o (v := v) (g := g) J _) _ (Nat.lt_succ_self _)) (Nat.le_of_ble_eq_true rfl) (mk_cput (u' := shO u i) (by decide) ?_ (fun m _ hm => ?_)) ?_
    · show (if u.1 12 = 0 then none else some (Sum.inr (6, (u.1 12).toNat, fun j => pgr (shf (u.2 3) i (u.1 11 - 1).toNat j)))) = _
      rw [if_neg hc, shf_F (by omega)]
      have e1 : ((i : Int) + 1).toNat = i + 1 := by omega
      have e2 : (u.1 11 - 1 - (i : Int)).toNat = (u.1 11 - 1).toNat - i := by omega
      show _ = some (Sum.inr (6, (u.1 12).toNat, va_cpy (fun j => pgr (u.2 3 j)) (fun j => pgr (u.2 3 j)) ((i : Int) + 1).toNat (i : Int).toNat (u.1 11 - 1 - (i : Int)).toNat))
      rw [e1, e2, Int.toNat_natCast]
    · by_cases h7 : m = 1007
      · subst h7; rfl
      · exact eS_fv h7 hm
    refine ev_s C dJx4a65c_fastRemove_b59b0_34 (q := 35) rfl rfl ?_
    refine ev_s C dJx4a65c_fastRemove_b59b0_35 (q := 36) rfl rfl ?_
    refine ev_s C dJx4a65c_fastRemove_b59b0_36 (q := 37) rfl rfl ?_
    refine ev_s C dJx4a65c_fastRemove_b59b0_37 (q := 38) rfl rfl ?_
    refine cp_1007_2 C dJx4a65c_fastRemove_b59b0_38 kf_Jx4a65c_48 (q := 41) rfl (fit_I _) ?_
    refine ev_s C dJx4a65c_fastRemove_b59b0_41 (q := 42) rfl rfl ?_
    refine cs_1008N (u := stS (shO u i) 11 (u.1 11 - 1)) C dJx4a65c_fastRemove_b59b0_42 (q := 43) rfl hc (by show u.1 12 ≤ 73; omega) (by show 0 ≤ u.1 11 - 1 ∧ u.1 11 - 1 < u.1 12; omega) ?_
    exact ev_vret C hr dJx4a65c_fastRemove_b59b0_43 (Nat.zero_le _) (Nat.zero_le _) (po_0 hPo rfl)
set_option maxHeartbeats 4000000 in
set_option maxRecDepth 100000 in
theorem c_remove {u v : SS} {g : GH} (I : CI u) {i : Nat} (hi : (i : Int) < u.1 11) : Cn yJx4a65c_remove_915e3 (wsy yJx4a65c_remove_915e3 cJx4a65c_remove_915e3 4 (some (.object "java/lang/Object"))) 2 0 0 nn [vR (some 1007), vI (i : Int)] (mk u v g) (.inl (some (vR (some (3000 + (u.2 3 i).toNat))), mk (orM u i) v g)) := by
  refine con_j (lv := [(0, vR (some 1007)), (1, vI (i : Int))]) (by decide) (fun ad => Nat.le_of_ble_eq_true rfl) (fun ad => rfl) rfl ?_
  intro k C hr hlv hmc hms hPo hPx htab
  have J : CI (stS u 10 (u.1 10 + 1)) := CI_S I (Or.inl rfl) (by decide) (by decide) (by decide) (by decide)
  have i11 := I.s11
  have i12 := I.s12
  have isz := I.sz
  have hc : u.1 12 ≠ 0 := by omega
  refine ev_s C dJx4a65c_remove_915e3_0 (q := 1) rfl rfl ?_
  refine ev_s C dJx4a65c_remove_915e3_1 (q := 2) rfl rfl ?_
  refine cg_1007_2 C dJx4a65c_remove_915e3_2 kf_Jx4a65c_48 (q := 5) rfl ?_
  refine ev_cS C dJx4a65c_remove_915e3_5 (q := 8) rfl km_Jx4a65c_118 ks_J15_checkIndex_7cf53 kc_J15_checkIndex_7cf53 (c_J15_checkIndex_7cf53 (by have := I.s11; unfold rg; omega) (by omega)) rfl rfl (by rw [hlv]; first | decide | omega) (by decide) (Nat.le_of_ble_eq_true rfl) (by first | exact Nat.zero_le _ | (rw [hmc]; decide) | (rw [hmc]; omega)) (by first | exact Nat.zero_le _ | (rw [hms]; decide) | (rw [hms]; omega)) ?_
  refine ev_s C dJx4a65c_remove_915e3_8 (q := 9) rfl rfl ?_
  refine ev_s C dJx4a65c_remove_915e3_9 (q := 10) rfl rfl ?_
  refine cd_1007 C dJx4a65c_remove_915e3_10 kf_Jx4a65c_9 (q := 13) rfl hc ?_
  refine ev_s C dJx4a65c_remove_915e3_13 (q := 14) rfl rfl ?_
  refine ev_s C dJx4a65c_remove_915e3_14 (q := 15) rfl rfl ?_
  refine ev_s C dJx4a65c_remove_915e3_15 (q := 16) rfl rfl ?_
  refine ev_aald C dJx4a65c_remove_915e3_16 (q := 17) rfl (Or.inr rfl) (gd_1008 hc) (by unfold rg; omega) (by omega) (by omega) ?_
  refine ev_eqS (st := [vR (some (3000 + (u.2 3 i).toNat))]) (by show [pgr (u.2 3 (i : Int).toNat)] = _; rw [Int.toNat_natCast, pgr_o]; unfold pgo; rw [if_neg (by have := I.on hi; omega)]) ?_
  refine ev_s C dJx4a65c_remove_915e3_17 (q := 18) rfl rfl ?_
  refine ev_s C dJx4a65c_remove_915e3_18 (q := 19) rfl rfl ?_
  refine ev_s C dJx4a65c_remove_915e3_19 (q := 20) rfl rfl ?_
  refine ev_s C dJx4a65c_remove_915e3_20 (q := 21) rfl rfl ?_
  refine ev_cV C dJx4a65c_remove_915e3_21 (q := 24) rfl km_Jx4a65c_144 kv_Jx4a65c_fastRemove_b59b0 kc_Jx4a65c_fastRemove_b59b0 (c_Jx4a65c_fastRemove_b59b0 I hi) rfl rfl vcJx4a65c rfl (by rw [hlv]; first | decide | omega) (by decide) (Nat.le_of_ble_eq_true rfl) (by first | exact Nat.zero_le _ | (rw [hmc]; decide) | (rw [hmc]; omega)) (by first | exact Nat.zero_le _ | (rw [hms]; decide) | (rw [hms]; omega)) ?_
  refine ev_s C dJx4a65c_remove_915e3_24 (q := 25) rfl rfl ?_
  exact ev_aret C hr (Or.inl ⟨_, rfl⟩) dJx4a65c_remove_915e3_25 (Nat.zero_le _) (Nat.zero_le _) (po_1 hPo rfl rfl)
theorem oaM_S {u : SS} {p : Int} {s : Nat} (h1 : s ≠ 10) (h2 : s ≠ 11) (h3 : s ≠ 12) : (oaM u p).1 s = u.1 s := by
  show (stS _ 11 _).1 s = _
  rw [stS_1, if_neg h2]
  show (oa1 _).1 s = _
  unfold oa1
  split
  · rw [grM_S h3, stS_1, if_neg h1]
  · rw [stS_1, if_neg h1]
theorem oa1_A {u : SS} {a : Nat} (h : a ≠ 3) : (oa1 u).2 a = u.2 a := by
  unfold oa1
  split
  · exact grM_A h
  · rfl
theorem oaM_A {u : SS} {p : Int} {a : Nat} (h : a ≠ 3) : (oaM u p).2 a = u.2 a := by
  funext j
  show (stA (oa1 (stS u 10 (u.1 10 + 1))) 3 _ p).2 a j = _
  rw [stA_2, if_neg h, oa1_A h]; rfl
theorem oa1_3 {u : SS} (I : CI u) {j : Nat} (h : (j : Int) < u.1 11) : (oa1 u).2 3 j = u.2 3 j := by
  have := I.sz
  unfold oa1
  split
  · exact grM_3 (by omega)
  · rfl
theorem oaM_3 {u : SS} (I : CI u) {p : Int} {j : Nat} (h : (j : Int) ≤ u.1 11) : (oaM u p).2 3 j = if (j : Int) = u.1 11 then p else u.2 3 j := by
  have J : CI (stS u 10 (u.1 10 + 1)) := CI_S I (Or.inl rfl) (by decide) (by decide) (by decide) (by decide)
  have i11 := I.s11
  show (stA (oa1 (stS u 10 (u.1 10 + 1))) 3 (u.1 11).toNat p).2 3 j = _
  rw [stA_2, if_pos rfl]
  by_cases e : (j : Int) = u.1 11
  · rw [if_pos e, if_pos (by omega)]
  · rw [if_neg e, if_neg (by omega)]
    exact oa1_3 J (by show (j : Int) < u.1 11; omega)
theorem CI_oa {u : SS} {p : Nat} (I : CI u) (hp : (p : Int) < 8 * u.1 14) (h47 : u.1 11 ≤ 47) : CI (oaM u p) := by
  have J : CI (stS u 10 (u.1 10 + 1)) := CI_S I (Or.inl rfl) (by decide) (by decide) (by decide) (by decide)
  have i11 := I.s11
  have i12 := I.s12
  have isz := I.sz
  have e11 : (oaM u p).1 11 = u.1 11 + 1 := rfl
  have hcap : u.1 11 + 1 ≤ (oaM u p).1 12 ∧ (oaM u p).1 12 ≤ 73 := by
    show u.1 11 + 1 ≤ (oa1 (stS u 10 (u.1 10 + 1))).1 12 ∧ (oa1 (stS u 10 (u.1 10 + 1))).1 12 ≤ 73
    unfold oa1
    split
    · rename_i e
      have h1 := grM_c J e
      have h2 : (stS u 10 (u.1 10 + 1)).1 12 = u.1 12 := rfl
      have h3 : (stS u 10 (u.1 10 + 1)).1 11 = u.1 11 := rfl
      omega
    · rename_i e
      have e : ¬ u.1 11 = u.1 12 := e
      show u.1 11 + 1 ≤ u.1 12 ∧ u.1 12 ≤ 73
      omega
  refine CI_L I (fun s h1 h2 h3 => oaM_S h1 h2 h3) (fun a h => oaM_A h) (by omega) (fun j => ?_) (fun j hj => ?_)
  · show -1 ≤ (stA (oa1 (stS u 10 (u.1 10 + 1))) 3 (u.1 11).toNat (p : Int)).2 3 j ∧ (stA (oa1 (stS u 10 (u.1 10 + 1))) 3 (u.1 11).toNat (p : Int)).2 3 j < 8 * u.1 14
    rw [stA_2, if_pos rfl]
    split
    · omega
    · unfold oa1
      split
      · exact grM_bd J j
      · exact ⟨(I.a3 j).1, I.od j⟩
  · rw [e11] at hj
    rw [oaM_3 I (by omega)]
    split
    · omega
    · exact I.on (by omega)
