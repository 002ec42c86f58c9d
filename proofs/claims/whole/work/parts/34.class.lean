/-! THE ORDER LIST: it grows, it shrinks -/
theorem eS_lo {u u' : SS} (h1 : ∀ s, s ≠ 10 → s ≠ 11 → s ≠ 12 → u'.1 s = u.1 s) (h2 : ∀ a, a ≠ 3 → u'.2 a = u.2 a) {m : Nat} (hm : m ≠ 1007) (hm2 : m ≠ 1008) : eS u' m = eS u m := by
  have e0 := h1 0 (by decide) (by decide) (by decide)
  have e1 := h1 1 (by decide) (by decide) (by decide)
  have e2 := h1 2 (by decide) (by decide) (by decide)
  have e3 := h1 3 (by decide) (by decide) (by decide)
  have e4 := h1 4 (by decide) (by decide) (by decide)
  have e5 := h1 5 (by decide) (by decide) (by decide)
  have e6 := h1 6 (by decide) (by decide) (by decide)
  have e7 := h1 7 (by decide) (by decide) (by decide)
  have e8 := h1 8 (by decide) (by decide) (by decide)
  have e9 := h1 9 (by decide) (by decide) (by decide)
  have e13 := h1 13 (by decide) (by decide) (by decide)
  have e14 := h1 14 (by decide) (by decide) (by decide)
  have e15 := h1 15 (by decide) (by decide) (by decide)
  have a0 := h2 0 (by decide)
  have a1 := h2 1 (by decide)
  have a2 := h2 2 (by decide)
  have a4 := h2 4 (by decide)
  unfold eS
  by_cases c1 : m < 2000
  · rw [if_pos c1, if_pos c1]
    split <;> first | rfl | exact absurd rfl hm | exact absurd rfl hm2 | simp only [e0, e1, e2, e3, e4, e5] | simp only [e6] | simp only [e7, e8] | simp only [e9] | simp only [e13, e14, e15] | simp only [a0] | simp only [a1] | simp only [a2] | simp only [a4]
  · rw [if_neg c1, if_neg c1]
    simp only [e14, h2 11 (by decide), h2 12 (by decide), h2 13 (by decide), h2 15 (by decide), h2 16 (by decide), h2 17 (by decide), h2 18 (by decide), h2 19 (by decide), h2 22 (by decide), h2 23 (by decide), h2 24 (by decide), h2 25 (by decide)]
theorem mk_cput2 {u v u' : SS} {g : GH} {a b : Nat} {c d : AC} (ha : 1000 ≤ a) (hb : 1000 ≤ b) (hab : a ≠ b) (h1 : eS u' a = some c) (h2 : eS u' b = some d) (h3 : ∀ m, m ≠ a → m ≠ b → eS u' m = eS u m) : gup (gup (mk u v g) a c) b d = mk u' v g := by
  funext m
  by_cases e : m = b
  · subst e
    rw [gup_self, mk_c hb, h2]
  · rw [gup_ne e]
    by_cases e2 : m = a
    · subst e2
      rw [gup_self, mk_c ha, h1]
    · rw [gup_ne e2]
      unfold mk
      rw [h3 m e2 e]
def nosA (b : Nat) (c : AC) : Prop := match c with
  | .inl o => ∀ x ∈ o.2, rfo x ≠ some b
  | .inr r => ∀ j, rfo (r.2.2 j) ≠ some b
def NR (g : GH) : Prop := ∀ n c, g n = some c → ∀ b, nosA b c
theorem nosA_n {b : Nat} {c : AC} (h : nosA b c) : nos b c := by
  cases c with
  | inl o => exact h
  | inr r => exact fun j _ => h j
theorem rnv_id {a b : Nat} {x : AV} (h : rfo x ≠ some b) : rnv a b x = x := by
  rcases x with x | (_ | n) | x | x | x
  · rfl
  · rfl
  · show (if n = b then vR (some a) else vR (some n)) = _
    rw [if_neg (fun e => h (by rw [e]; rfl))]
  · rfl
  · rfl
  · rfl
theorem rnc_id {a b : Nat} {c : AC} (h : nosA b c) : rnc a b c = c := by
  cases c with
  | inl o =>
    show Sum.inl (o.1, o.2.map (rnv a b)) = _
    have e : o.2.map (rnv a b) = o.2.map id := List.map_congr_left fun x hx => rnv_id (h x hx)
    rw [e, List.map_id]
  | inr r =>
    show Sum.inr (r.1, r.2.1, fun j => rnv a b (r.2.2 j)) = _
    have e : (fun j => rnv a b (r.2.2 j)) = r.2.2 := by funext j; exact rnv_id (h j)
    rw [e]
theorem pgr_no (x : Int) {b : Nat} (hb : b < 3000) : rfo (pgr x) ≠ some b := by
  rw [pgr_o]
  show pgo x ≠ some b
  unfold pgo
  split
  · exact fun z => nomatch z
  · intro z
    have := Option.some.inj z
    omega
theorem vI_no (x : Int) (b : Nat) : rfo (vI x) ≠ some b := fun z => nomatch z
theorem vL_no (x : Int) (b : Nat) : rfo (vL x) ≠ some b := fun z => nomatch z
theorem vR_no {n b : Nat} (h : n ≠ b) : rfo (vR (some n)) ≠ some b := fun z => h (Option.some.inj z)
theorem mk_no {u v : SS} {g : GH} {b n : Nat} {c : AC} (hg : NR g) (hb : b = 1008 ∨ b = 1099) (h : mk u v g n = some c) (hn : b = 1008 → n ≠ 1007) : nosA b c := by
  have hb1 : 1007 < b ∧ b < 2000 ∧ b ≠ 1012 ∧ b ≠ 1013 ∧ b ≠ 1009 ∧ b ≠ 1010 ∧ b ≠ 1011 := by omega
  unfold mk at h
  by_cases c0 : n < 100
  · rw [if_pos c0] at h
    unfold mN at h
    by_cases c1 : n = 0
    · rw [if_pos c1] at h
      cases h
      show ∀ x ∈ fldM v, rfo x ≠ some b
      unfold fldM
      simp only [List.forall_mem_cons]
      refine ⟨vI_no _ _, vR_no (by omega), vR_no (by omega), vR_no (by omega), vR_no (by omega), vR_no (by omega), vR_no (by omega), vR_no (by omega), vR_no (by omega), vR_no (by omega), vR_no (by omega), vI_no _ _, vR_no (by omega), vR_no (by omega), vI_no _ _, vI_no _ _, vI_no _ _, vR_no (by omega), vI_no _ _, vI_no _ _, vR_no (by omega), vI_no _ _, vI_no _ _, vI_no _ _, vL_no _ _, vI_no _ _, vI_no _ _, fun x hx => nomatch hx⟩
    · rw [if_neg c1] at h
      unfold mA at h
      split at h <;> first | (cases h; exact fun j => vI_no _ _) | (cases h; exact fun j => vL_no _ _) | cases h
  · rw [if_neg c0] at h
    by_cases c1 : n < 1000
    · rw [if_pos c1] at h
      exact hg n c h b
    · rw [if_neg c1] at h
      rcases nm_c (n := n) (by omega) with h2 | ⟨s, hs, rfl⟩ | ⟨s, hs, rfl⟩ | ⟨p, rfl⟩
      · unfold eS at h
        rw [if_pos h2] at h
        split at h
        · cases h
          show ∀ x ∈ [_, _, _, _, _, _, _, _, _, _, _], rfo x ≠ some b
          simp only [List.forall_mem_cons]
          exact ⟨vR_no (by omega), vR_no (by omega), vR_no (by omega), vR_no (by omega), vR_no (by omega), vI_no _ _, vI_no _ _, vI_no _ _, vI_no _ _, vI_no _ _, vL_no _ _, fun x hx => nomatch hx⟩
        · cases h
          show ∀ x ∈ [_, _, _], rfo x ≠ some b
          simp only [List.forall_mem_cons]
          exact ⟨vR_no (by omega), vI_no _ _, vR_no (by omega), fun x hx => nomatch hx⟩
        · cases h; exact fun j => vI_no _ _
        · cases h; exact fun j => vI_no _ _
        · cases h
          show ∀ x ∈ [_, _, _], rfo x ≠ some b
          simp only [List.forall_mem_cons]
          exact ⟨vR_no (by omega), vI_no _ _, vI_no _ _, fun x hx => nomatch hx⟩
        · cases h; exact fun j => pgr_no _ (by omega)
        · cases h
          show ∀ x ∈ [_, _], rfo x ≠ some b
          simp only [List.forall_mem_cons]
          exact ⟨vR_no (by omega), vI_no _ _, fun x hx => nomatch hx⟩
        · cases h
          show ∀ x ∈ [_, _, _], rfo x ≠ some b
          simp only [List.forall_mem_cons]
          refine ⟨vI_no _ _, ?_, vI_no _ _, fun x hx => nomatch hx⟩
          rcases hb with rfl | rfl
          · exact absurd rfl (hn rfl)
          · split <;> exact vR_no (by decide)
        · split at h
          · cases h
          · cases h; exact fun j => pgr_no _ (by omega)
        · cases h
          show ∀ x ∈ [_], rfo x ≠ some b
          simp only [List.forall_mem_cons]
          exact ⟨vR_no (by omega), fun x hx => nomatch hx⟩
        · cases h; exact fun j => vI_no _ _
        · cases h
          show ∀ x ∈ [_, _, _], rfo x ≠ some b
          simp only [List.forall_mem_cons]
          refine ⟨vI_no _ _, ?_, vI_no _ _, fun x hx => nomatch hx⟩
          split <;> exact vR_no (by omega)
        · split at h
          · cases h
          · cases h
            intro j
            show rfo (if (j : Int) < u.1 14 then vR (some (2000 + j)) else vR none) ≠ some b
            split
            · exact vR_no (by omega)
            · exact fun z => nomatch z
        · cases h
      · rw [eS_s hs] at h
        split at h
        · cases h
          show ∀ x ∈ svc u s, rfo x ≠ some b
          unfold svc
          simp only [List.forall_mem_cons]
          exact ⟨vI_no _ _, vI_no _ _, vI_no _ _, vI_no _ _, vR_no (by omega), vI_no _ _, vI_no _ _, vI_no _ _, vI_no _ _, vL_no _ _, fun x hx => nomatch hx⟩
        · cases h
      · rw [eS_a hs] at h
        split at h
        · cases h
          intro j
          show rfo (if j < 8 then vR (some (3000 + (8 * s + j))) else vR none) ≠ some b
          by_cases hj : j < 8
          · rw [if_pos hj]; exact vR_no (by omega)
          · rw [if_neg hj]; exact fun z => nomatch z
        · cases h
      · rw [eS_p] at h
        split at h
        · cases h
          show ∀ x ∈ pgc u p, rfo x ≠ some b
          unfold pgc
          simp only [List.forall_mem_cons]
          exact ⟨vI_no _ _, vR_no (by omega), vI_no _ _, vI_no _ _, vI_no _ _, vI_no _ _, fun x hx => nomatch hx⟩
        · cases h
theorem grow_ren {u v u' : SS} {g : GH} {N : Nat} {F : Nat → AV} {m s : Int} (hg : NR g) (hF : ∀ j, rfo (F j) ≠ some 1099) (h8 : eS u' 1008 = some (.inr (6, N, F))) (h7 : eS u' 1007 = some (.inl (2, [vI m, vR (some 1008), vI s]))) (ho : ∀ n, n ≠ 1007 → n ≠ 1008 → eS u' n = eS u n) : rnG 1008 1099 (gup (gup (mk u v g) 1099 (.inr (6, N, F))) 1007 (.inl (2, [vI m, vR (some 1099), vI s]))) = mk u' v g := by
  funext n
  unfold rnG
  by_cases e1 : n = 1008
  · subst e1
    rw [if_pos rfl, gup_ne (by decide), gup_self, mk_c (by decide), h8]
    show some (rnc 1008 1099 (.inr (6, N, F))) = _
    rw [rnc_id (c := .inr (6, N, F)) hF]
  · rw [if_neg e1]
    by_cases e2 : n = 1099
    · subst e2
      rw [if_pos rfl, mk_c (by decide), ho 1099 (by decide) (by decide)]
      rfl
    · rw [if_neg e2]
      by_cases e3 : n = 1007
      · subst e3
        rw [gup_self, mk_c (by decide), h7]
        rfl
      · rw [gup_ne e3, gup_ne e2]
        have e4 : mk u' v g n = mk u v g n := by
          unfold mk
          rw [ho n e3 e1]
        rw [e4]
        cases h : mk u v g n with
        | none => rfl
        | some c =>
          show some (rnc 1008 1099 c) = some c
          rw [rnc_id (mk_no hg (Or.inr rfl) h (fun z => absurd z (by decide)))]
theorem elP_o {u v : SS} {g : GH} (I : CI u) (L : Nat) : elP (mk u v g) (fun j => pgr (u.2 3 j)) L := fun i _ => by
  by_cases hx : u.2 3 i < 0
  · left
    show pgr _ = _
    unfold pgr
    rw [if_pos hx]
  · right
    refine ⟨3000 + (u.2 3 i).toNat, pgc u (u.2 3 i).toNat, ?_, gp_ (by have := I.od i; omega)⟩
    show pgr _ = _
    unfold pgr
    rw [if_neg hx]
/-- the list's row, one size greater -/
def gr0 (u : SS) : SS := stF (stS u 12 10) 3 (fun _ => -1)
def ncap (c : Int) : Int := c + (if 1 < bShr c 1 then bShr c 1 else 1)
def gr1 (u : SS) : SS := stF (stS u 12 (ncap (u.1 12))) 3 (fun j => if (j : Int) < u.1 12 then u.2 3 j else -1)
theorem ncap_bd : ∀ c : Fin 49, 1 ≤ c.val → (c.val : Int) + 1 ≤ ncap (c.val : Int) ∧ ncap (c.val : Int) ≤ 73 ∧ 0 ≤ bShr (c.val : Int) 1 ∧ bShr (c.val : Int) 1 ≤ 24 := by decide +kernel
theorem ncap_b {c : Int} (h1 : 1 ≤ c) (h2 : c ≤ 48) : c + 1 ≤ ncap c ∧ ncap c ≤ 73 ∧ 0 ≤ bShr c 1 ∧ bShr c 1 ≤ 24 := by
  have h := ncap_bd ⟨c.toNat, by omega⟩ (by show 1 ≤ c.toNat; omega)
  have e : ((c.toNat : Nat) : Int) = c := by omega
  simp only [e] at h
  exact h
theorem gr1_F {u : SS} {L : Nat} (hL : u.1 12 = (L : Int)) : (fun j => pgr ((gr1 u).2 3 j)) = va_cpy (fun j => pgr (u.2 3 j)) nulF 0 0 L := by
  funext j
  show pgr (if (j : Int) < u.1 12 then u.2 3 j else -1) = va_cpy (fun j => pgr (u.2 3 j)) nulF 0 0 L j
  unfold va_cpy
  by_cases e : j < L
  · rw [if_pos (by omega), if_pos (by omega)]
    simp
  · rw [if_neg (by omega), if_neg (by omega)]
    rfl
set_option maxHeartbeats 4000000 in
set_option maxRecDepth 100000 in
theorem c_grow0 {u v : SS} {g : GH} (I : CI u) (hc : u.1 12 = 0) : Cn yJx4a65c_grow_92f84 (wsy yJx4a65c_grow_92f84 cJx4a65c_grow_92f84 4 (some (.array (.object "java/lang/Object")))) 3 1 73 nwG [vR (some 1007), vI (u.1 11 + 1)] (mk u v g) (.inl (some (vR (some 1008)), mk (gr0 u) v g)) := by
  refine con_k2 (lv := [(0, vR (some 1007)), (1, vI (u.1 11 + 1))]) (by decide) (by unfold nwG; decide) (fun ad => Nat.le_of_ble_eq_true rfl) (fun ad => rfl) rfl ?_
  intro k C hr hkG hlv hmc hms hw hPo hPx htab
  refine ev_s C dJx4a65c_grow_92f84_0 (q := 1) rfl rfl ?_
  refine cz_1007 C dJx4a65c_grow_92f84_1 kf_Jx4a65c_9 (q := 4) rfl hc ?_
  refine ev_alen0 C dJx4a65c_grow_92f84_4 (q := 5) rfl ?_
  refine ev_s C dJx4a65c_grow_92f84_5 (q := 6) rfl rfl ?_
  refine ev_s C dJx4a65c_grow_92f84_6 (q := 7) rfl rfl ?_
  refine ev_if_gt C dJx4a65c_grow_92f84_7 (tgt := 20) (q := 10) (by decide) rfl (by first | (unfold rg; decide) | (have h11 := I.s11; unfold rg; omega)) (fun b0 => ?_) (fun b0 => ?_)
  · exact absurd b0 (by decide)
  · refine ev_s C dJx4a65c_grow_92f84_10 (q := 11) rfl rfl ?_
    refine cz_1007 C dJx4a65c_grow_92f84_11 kf_Jx4a65c_9 (q := 14) rfl hc ?_
    refine ev_getS C dJx4a65c_grow_92f84_14 (q := 17) rfl (q9 94 (by decide +kernel) (by decide +kernel)) ?_
    refine ev_acmp_eq C dJx4a65c_grow_92f84_17 (tgt := 45) (q := 20) (by decide) rfl (fun n h => by cases h; decide) (fun n h => by cases h; decide) (fun _ => ?_) (fun h => absurd rfl h)
    refine ev_s C dJx4a65c_grow_92f84_45 (q := 46) rfl rfl ?_
    refine ev_s C dJx4a65c_grow_92f84_46 (q := 48) rfl rfl ?_
    refine ev_s C dJx4a65c_grow_92f84_48 (q := 49) rfl rfl ?_
    refine ev_mmax C dJx4a65c_grow_92f84_49 (q := 52) rfl km_Jx4a65c_79 (by first | (unfold rg; decide) | (have h11 := I.s11; unfold rg; omega)) (by first | (unfold rg; decide) | (have h11 := I.s11; unfold rg; omega)) (Nat.le_of_ble_eq_true rfl) (by first | exact Nat.zero_le _ | (rw [hmc]; decide) | (rw [hmc]; omega)) (by first | exact Nat.zero_le _ | (rw [hms]; decide) | (rw [hms]; omega)) ?_
    have h11 := I.sz
    have h11b := I.s11
    have e11 : (if (10 : Int) < u.1 11 + 1 then u.1 11 + 1 else 10) = ((10 : Nat) : Int) := by rw [if_neg (by omega)]; rfl
    rw [e11]
    refine ev_anewa (t := 6) (N := 10) (n := 1008) C dJx4a65c_grow_92f84_52 (q := 55) rfl (Or.inr rfl) rfl kl_Jx4a65c_7 rfl (by decide) (show (if u.1 12 = 0 then none else _) = none by rw [if_pos hc]) (by unfold fgn; decide) (by rw [hw]; exact Or.inl rfl) (by rw [hmc]; decide) (by rw [hms]; decide) rfl ?_
    refine ev_s C dJx4a65c_grow_92f84_55 (q := 56) rfl rfl ?_
    refine ev_put (j := 1) (fs := [vI (u.1 10), vR (some (if u.1 12 = 0 then 1013 else 1008)), vI (u.1 11)]) C dJx4a65c_grow_92f84_56 kf_Jx4a65c_9 (q := 59) rfl (fit_A _ _) (by rw [gup_ne (by decide)]; rfl) (Nat.le_of_ble_eq_true rfl) (mk_cput2 (u' := gr0 u) (by decide) (by decide) (by decide) rfl rfl (fun m h1 h2 => eS_lo (fun s _ _ h => by show (stS u 12 10).1 s = _; rw [stS_1, if_neg h]) (fun a h => by show (if a = 3 then _ else _) = _; rw [if_neg h]; rfl) h2 h1)) ?_
    exact ev_aret C hr (Or.inr ⟨_, rfl⟩) dJx4a65c_grow_92f84_59 (by rw [hmc]; decide) (by rw [hms]; omega) (po_1 hPo rfl rfl)
set_option maxHeartbeats 4000000 in
set_option maxRecDepth 100000 in
theorem c_grow1 {u v : SS} {g : GH} (I : CI u) (hg : NR g) (hc : u.1 12 ≠ 0) (hs : u.1 11 = u.1 12) : Cn yJx4a65c_grow_92f84 (wsy yJx4a65c_grow_92f84 cJx4a65c_grow_92f84 4 (some (.array (.object "java/lang/Object")))) 3 1 73 nwG [vR (some 1007), vI (u.1 11 + 1)] (mk u v g) (.inl (some (vR (some 1008)), mk (gr1 u) v g)) := by
  refine con_k2 (lv := [(0, vR (some 1007)), (1, vI (u.1 11 + 1))]) (by decide) (by unfold nwG; decide) (fun ad => Nat.le_of_ble_eq_true rfl) (fun ad => rfl) rfl ?_
  intro k C hr hkG hlv hmc hms hw hPo hPx htab
  refine ev_s C dJx4a65c_grow_92f84_0 (q := 1) rfl rfl ?_
  refine cd_1007 C dJx4a65c_grow_92f84_1 kf_Jx4a65c_9 (q := 4) rfl hc ?_
  have h12 := I.s12
  have h11 := I.s11
  have hb := ncap_b (c := u.1 12) (by omega) (by omega)
  refine ev_alen C dJx4a65c_grow_92f84_4 (q := 5) rfl (gd_1008 hc) ?_
  refine ev_eqS (st := [vI (u.1 12)]) (by rw [Int.toNat_of_nonneg h12.1]) ?_
  refine ev_s C dJx4a65c_grow_92f84_5 (q := 6) rfl rfl ?_
  refine ev_s C dJx4a65c_grow_92f84_6 (q := 7) rfl rfl ?_
  refine ev_if_gt C dJx4a65c_grow_92f84_7 (tgt := 20) (q := 10) (by decide) rfl (by first | decide | (unfold rg; omega) | assumption | exact bAnd_rg _ _) (fun b0 => ?_) (fun b0 => ?_)
  · refine ev_s C dJx4a65c_grow_92f84_20 (q := 21) rfl rfl ?_
    refine ev_s C dJx4a65c_grow_92f84_21 (q := 22) rfl rfl ?_
    refine ev_s C dJx4a65c_grow_92f84_22 (q := 23) rfl rfl ?_
    refine ev_s C dJx4a65c_grow_92f84_23 (q := 24) rfl rfl ?_
    refine ev_s C dJx4a65c_grow_92f84_24 (q := 25) rfl rfl ?_
    refine ev_s C dJx4a65c_grow_92f84_25 (q := 26) rfl rfl ?_
    refine ev_s C dJx4a65c_grow_92f84_26 (q := 27) rfl rfl ?_
    refine ev_cS C dJx4a65c_grow_92f84_27 (q := 30) rfl km_Jx4a65c_73 ks_J8_newLength_cabcc kc_J8_newLength_cabcc (c_J8_newLength_cabcc (by omega) (by omega) (by omega)) rfl rfl (by rw [hlv]; first | decide | omega) (by decide) (Nat.le_of_ble_eq_true rfl) (by first | exact Nat.zero_le _ | (rw [hmc]; decide) | (rw [hmc]; omega)) (by first | exact Nat.zero_le _ | (rw [hms]; decide) | (rw [hms]; omega)) ?_
    refine ev_s C dJx4a65c_grow_92f84_30 (q := 31) rfl rfl ?_
    refine ev_s C dJx4a65c_grow_92f84_31 (q := 32) rfl rfl ?_
    refine ev_s C dJx4a65c_grow_92f84_32 (q := 33) rfl rfl ?_
    refine cd_1007 C dJx4a65c_grow_92f84_33 kf_Jx4a65c_9 (q := 36) rfl hc ?_
    refine ev_s C dJx4a65c_grow_92f84_36 (q := 37) rfl rfl ?_
    obtain ⟨N, hN⟩ : ∃ N : Nat, ncap (u.1 12) = (N : Int) := ⟨(ncap (u.1 12)).toNat, by omega⟩
    have e7 : u.1 12 + (if u.1 11 + 1 - u.1 12 < bShr (u.1 12) 1 then bShr (u.1 12) 1 else u.1 11 + 1 - u.1 12) = (N : Int) := by rw [← hN, show u.1 11 + 1 - u.1 12 = 1 by omega]; rfl
    rw [e7]
    refine ev_cSn C dJx4a65c_grow_92f84_37 (q := 40) rfl km_Jx4a65c_66 ks_J7_copyOf_1904c kc_J7_copyOf_1904c (c_J7_copyOf_1904c (N := N) (gd_1008 hc) (by omega) (by omega) (elP_o I _) rfl) rfl rfl (by rw [hlv]; first | decide | omega) (by decide) (Nat.le_of_ble_eq_true rfl) (by first | exact Nat.zero_le _ | (rw [hmc]; decide) | (rw [hmc]; omega)) (by first | exact Nat.zero_le _ | (rw [hms]; decide) | (rw [hms]; omega)) (by rw [hw]; exact fun _ h => Or.inr h) (by repeat' (first | exact nvA_0 | exact nvB_0 | apply nvA_c | apply nvB_c | exact nv_I | exact nv_L | exact nv_N | exact nv_R (by unfold nwT; omega) | exact nv_I' | exact nv_L' | exact nv_N' | exact nv_R' (by unfold nwT; omega))) (by repeat' (first | exact nvA_0 | exact nvB_0 | apply nvA_c | apply nvB_c | exact nv_I | exact nv_L | exact nv_N | exact nv_R (by unfold nwT; omega) | exact nv_I' | exact nv_L' | exact nv_N' | exact nv_R' (by unfold nwT; omega))) ?_
    refine ev_s C dJx4a65c_grow_92f84_40 (q := 41) rfl rfl ?_
    refine ev_put (j := 1) (fs := [vI (u.1 10), vR (some (if u.1 12 = 0 then 1013 else 1008)), vI (u.1 11)]) C dJx4a65c_grow_92f84_41 kf_Jx4a65c_9 (q := 44) rfl (fit_A _ _) (by rw [gup_ne (by decide)]; rfl) (Nat.le_of_ble_eq_true rfl) rfl ?_
    refine ev_keep [] rfl ?_
    have hF : ∀ j, rfo (va_cpy (fun j => pgr (u.2 3 j)) nulF 0 0 (u.1 12).toNat j) ≠ some 1099 ∧ rfo (va_cpy (fun j => pgr (u.2 3 j)) nulF 0 0 (u.1 12).toNat j) ≠ some 1008 := fun j => by
      unfold va_cpy
      split
      · exact ⟨pgr_no _ (by decide), pgr_no _ (by decide)⟩
      · exact ⟨fun z => (nomatch z), fun z => (nomatch z)⟩
    refine ev_ren (a := 1008) (b := 1099) (G' := mk (gr1 u) v g) (by decide) (by unfold fgn; decide) (by unfold fgn; decide) (by rw [gup_ne (by decide), gup_self]; exact fun z => nomatch z) (by rw [hw]; exact Or.inl rfl) (by rw [hkG]; rfl) (fun n c hn h => ?_) (fun q hq => nomatch hq) (fun x hx => by cases hx with | head => exact vR_no (by decide) | tail _ hx => nomatch hx) (grow_ren hg (fun j => (hF j).1) ?_ ?_ (fun m h1 h2 => eS_lo (fun s _ _ h => by show (stS u 12 _).1 s = _; rw [stS_1, if_neg h]) (fun a h => by show (if a = 3 then _ else _) = _; rw [if_neg h]; rfl) h1 h2)) ?_
    · by_cases e7 : n = 1007
      · subst e7
        rw [gup_self] at h
        cases h
        show ∀ x ∈ [_, _, _], rfo x ≠ some 1008
        simp only [List.forall_mem_cons]
        exact ⟨vI_no _ _, vR_no (by decide), vI_no _ _, fun x hx => nomatch hx⟩
      · rw [gup_ne e7] at h
        by_cases e9 : n = 1099
        · subst e9
          rw [gup_self] at h
          cases h
          exact fun j _ => (hF j).2
        · rw [gup_ne e9] at h
          exact nosA_n (mk_no hg (Or.inl rfl) h (fun _ => e7))
    · show (if ncap (u.1 12) = 0 then none else some (Sum.inr (6, (ncap (u.1 12)).toNat, fun j => pgr ((gr1 u).2 3 j)))) = _
      rw [if_neg (by omega), hN, Int.toNat_natCast, gr1_F (L := (u.1 12).toNat) (by omega)]
    · show some (Sum.inl (2, [vI (u.1 10), vR (some (if ncap (u.1 12) = 0 then 1013 else 1008)), vI (u.1 11)])) = _
      rw [if_neg (by omega)]
    exact ev_aret C hr (Or.inr ⟨_, rfl⟩) dJx4a65c_grow_92f84_44 (by rw [hmc]; decide) (by rw [hms]; omega) (po_1 hPo rfl rfl)
  · exfalso; omega
