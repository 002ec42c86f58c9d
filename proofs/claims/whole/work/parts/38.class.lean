/-! THE CLASS: stalls, history, scores, the store -/
def csum (u : SS) : Int := u.2 4 0 + u.2 4 1 + u.2 4 2 + u.2 4 3
def addM (u : SS) (x : Int) : SS := stA u 4 0 (u.2 4 0 + x)
def fgM (u : SS) : SS := stA (stA (stA (stA u 4 0 0) 4 1 0) 4 2 0) 4 3 0
def bt1 (u : SS) (i : Nat) : SS := stA u 4 (i + 1) (u.2 4 i)
def btM (u : SS) : SS := stA (bt1 (bt1 (bt1 u 2) 1) 0) 4 0 0
set_option maxHeartbeats 4000000 in
set_option maxRecDepth 100000 in
theorem c_X3_add {u v : SS} {g : GH} (I : CI u) {x : Int} : Cn yX3_add (wsy yX3_add cX3_add 2 none) 0 0 0 nn [vR (some 1009), vI x] (mk u v g) (.inl (none, mk (addM u x) v g)) := by
  refine con_j (lv := [(0, vR (some 1009)), (1, vI x)]) (by decide) (fun ad => Nat.le_of_ble_eq_true rfl) (fun ad => rfl) rfl ?_
  intro k C hr hlv hmc hms hPo hPx htab
  refine ev_s C dX3_add_0 (q := 1) rfl rfl ?_
  refine cg_1009_0 C dX3_add_1 kf_X3_7 (q := 4) rfl ?_
  refine ev_s C dX3_add_4 (q := 5) rfl rfl ?_
  refine ev_s C dX3_add_5 (q := 6) rfl rfl ?_
  refine cl_1010 C dX3_add_6 (q := 7) rfl (by omega) ?_
  refine ev_s C dX3_add_7 (q := 8) rfl rfl ?_
  refine ev_s C dX3_add_8 (q := 9) rfl rfl ?_
  refine cs_1010 C dX3_add_9 (q := 10) rfl (by omega) ?_
  exact ev_vret C hr dX3_add_10 (Nat.zero_le _) (Nat.zero_le _) (po_0 hPo rfl)
set_option maxHeartbeats 4000000 in
set_option maxRecDepth 100000 in
theorem c_X3_sum {u v : SS} {g : GH} (I : CI u) : Cn yX3_sum (wsy yX3_sum cX3_sum 6 (some .int)) 0 0 0 nn [vR (some 1009)] (mk u v g) (.inl (some (vI (csum u)), mk u v g)) := by
  refine con_j (lv := [(0, vR (some 1009))]) (by decide) (fun ad => Nat.le_of_ble_eq_true rfl) (fun ad => rfl) rfl ?_
  intro k C hr hlv hmc hms hPo hPx htab
  refine ev_s C dX3_sum_0 (q := 1) rfl rfl ?_
  refine ev_s C dX3_sum_1 (q := 2) rfl rfl ?_
  refine ev_s C dX3_sum_2 (q := 3) rfl rfl ?_
  refine cg_1009_0 C dX3_sum_3 kf_X3_7 (q := 6) rfl ?_
  refine ev_s C dX3_sum_6 (q := 7) rfl rfl ?_
  refine ev_s C dX3_sum_7 (q := 8) rfl rfl ?_
  refine cn_1010 C dX3_sum_8 (q := 9) rfl ?_
  refine ev_s C dX3_sum_9 (q := 10) rfl rfl ?_
  refine ev_s C dX3_sum_10 (q := 11) rfl rfl ?_
  refine ev_s C dX3_sum_11 (q := 13) rfl rfl ?_
  refine ev_s C dX3_sum_13 (q := 15) rfl rfl ?_
  refine ev_s C dX3_sum_15 (q := 16) rfl rfl ?_
  refine ev_icmp_ge C dX3_sum_16 (tgt := 36) (q := 19) (by decide) rfl (by unfold rg; decide) (by unfold rg; decide) (fun b0 => ?_) (fun b0 => ?_)
  · exact absurd b0 (by decide)
  · refine ev_s C dX3_sum_19 (q := 20) rfl rfl ?_
    refine ev_s C dX3_sum_20 (q := 22) rfl rfl ?_
    refine cl_1010 C dX3_sum_22 (q := 23) rfl (by decide) ?_
    refine ev_s C dX3_sum_23 (q := 25) rfl rfl ?_
    refine ev_s C dX3_sum_25 (q := 26) rfl rfl ?_
    refine ev_s C dX3_sum_26 (q := 28) rfl rfl ?_
    refine ev_s C dX3_sum_28 (q := 29) rfl rfl ?_
    refine ev_s C dX3_sum_29 (q := 30) rfl rfl ?_
    refine ev_s C dX3_sum_30 (q := 33) rfl rfl ?_
    refine ev_goto C dX3_sum_33 (tgt := 13) (by decide) ?_
    refine ev_s C dX3_sum_13 (q := 15) rfl rfl ?_
    refine ev_s C dX3_sum_15 (q := 16) rfl rfl ?_
    refine ev_icmp_ge C dX3_sum_16 (tgt := 36) (q := 19) (by decide) rfl (by unfold rg; decide) (by unfold rg; decide) (fun b1 => ?_) (fun b1 => ?_)
    · exact absurd b1 (by decide)
    · refine ev_s C dX3_sum_19 (q := 20) rfl rfl ?_
      refine ev_s C dX3_sum_20 (q := 22) rfl rfl ?_
      refine cl_1010 C dX3_sum_22 (q := 23) rfl (by decide) ?_
      refine ev_s C dX3_sum_23 (q := 25) rfl rfl ?_
      refine ev_s C dX3_sum_25 (q := 26) rfl rfl ?_
      refine ev_s C dX3_sum_26 (q := 28) rfl rfl ?_
      refine ev_s C dX3_sum_28 (q := 29) rfl rfl ?_
      refine ev_s C dX3_sum_29 (q := 30) rfl rfl ?_
      refine ev_s C dX3_sum_30 (q := 33) rfl rfl ?_
      refine ev_goto C dX3_sum_33 (tgt := 13) (by decide) ?_
      refine ev_s C dX3_sum_13 (q := 15) rfl rfl ?_
      refine ev_s C dX3_sum_15 (q := 16) rfl rfl ?_
      refine ev_icmp_ge C dX3_sum_16 (tgt := 36) (q := 19) (by decide) rfl (by unfold rg; decide) (by unfold rg; decide) (fun b2 => ?_) (fun b2 => ?_)
      · exact absurd b2 (by decide)
      · refine ev_s C dX3_sum_19 (q := 20) rfl rfl ?_
        refine ev_s C dX3_sum_20 (q := 22) rfl rfl ?_
        refine cl_1010 C dX3_sum_22 (q := 23) rfl (by decide) ?_
        refine ev_s C dX3_sum_23 (q := 25) rfl rfl ?_
        refine ev_s C dX3_sum_25 (q := 26) rfl rfl ?_
        refine ev_s C dX3_sum_26 (q := 28) rfl rfl ?_
        refine ev_s C dX3_sum_28 (q := 29) rfl rfl ?_
        refine ev_s C dX3_sum_29 (q := 30) rfl rfl ?_
        refine ev_s C dX3_sum_30 (q := 33) rfl rfl ?_
        refine ev_goto C dX3_sum_33 (tgt := 13) (by decide) ?_
        refine ev_s C dX3_sum_13 (q := 15) rfl rfl ?_
        refine ev_s C dX3_sum_15 (q := 16) rfl rfl ?_
        refine ev_icmp_ge C dX3_sum_16 (tgt := 36) (q := 19) (by decide) rfl (by unfold rg; decide) (by unfold rg; decide) (fun b3 => ?_) (fun b3 => ?_)
        · exact absurd b3 (by decide)
        · refine ev_s C dX3_sum_19 (q := 20) rfl rfl ?_
          refine ev_s C dX3_sum_20 (q := 22) rfl rfl ?_
          refine cl_1010 C dX3_sum_22 (q := 23) rfl (by decide) ?_
          refine ev_s C dX3_sum_23 (q := 25) rfl rfl ?_
          refine ev_s C dX3_sum_25 (q := 26) rfl rfl ?_
          refine ev_s C dX3_sum_26 (q := 28) rfl rfl ?_
          refine ev_s C dX3_sum_28 (q := 29) rfl rfl ?_
          refine ev_s C dX3_sum_29 (q := 30) rfl rfl ?_
          refine ev_s C dX3_sum_30 (q := 33) rfl rfl ?_
          refine ev_goto C dX3_sum_33 (tgt := 13) (by decide) ?_
          refine ev_s C dX3_sum_13 (q := 15) rfl rfl ?_
          refine ev_s C dX3_sum_15 (q := 16) rfl rfl ?_
          refine ev_icmp_ge C dX3_sum_16 (tgt := 36) (q := 19) (by decide) rfl (by unfold rg; decide) (by unfold rg; decide) (fun b4 => ?_) (fun b4 => ?_)
          · refine ev_s C dX3_sum_36 (q := 37) rfl rfl ?_
            exact ev_iret C hr dX3_sum_37 (Nat.zero_le _) (Nat.zero_le _) (po_1 hPo (by unfold csum; congr 1; show u.2 4 0 + u.2 4 1 + u.2 4 2 + u.2 4 3 = 0 + u.2 4 0 + u.2 4 1 + u.2 4 2 + u.2 4 3; omega) rfl)
          · exact absurd b4 (by decide)
set_option maxHeartbeats 4000000 in
set_option maxRecDepth 100000 in
theorem c_X3_forget {u v : SS} {g : GH} (I : CI u) : Cn yX3_forget (wsy yX3_forget cX3_forget 2 none) 0 0 0 nn [vR (some 1009)] (mk u v g) (.inl (none, mk (fgM u) v g)) := by
  refine con_j (lv := [(0, vR (some 1009))]) (by decide) (fun ad => Nat.le_of_ble_eq_true rfl) (fun ad => rfl) rfl ?_
  intro k C hr hlv hmc hms hPo hPx htab
  refine ev_s C dX3_forget_0 (q := 1) rfl rfl ?_
  refine ev_s C dX3_forget_1 (q := 2) rfl rfl ?_
  refine ev_s C dX3_forget_2 (q := 3) rfl rfl ?_
  refine ev_s C dX3_forget_3 (q := 4) rfl rfl ?_
  refine cg_1009_0 C dX3_forget_4 kf_X3_7 (q := 7) rfl ?_
  refine cn_1010 C dX3_forget_7 (q := 8) rfl ?_
  refine ev_icmp_ge C dX3_forget_8 (tgt := 24) (q := 11) (by decide) rfl (by unfold rg; decide) (by unfold rg; decide) (fun b0 => ?_) (fun b0 => ?_)
  · exact absurd b0 (by decide)
  · refine ev_s C dX3_forget_11 (q := 12) rfl rfl ?_
    refine cg_1009_0 C dX3_forget_12 kf_X3_7 (q := 15) rfl ?_
    refine ev_s C dX3_forget_15 (q := 16) rfl rfl ?_
    refine ev_s C dX3_forget_16 (q := 17) rfl rfl ?_
    refine cs_1010 C dX3_forget_17 (q := 18) rfl (by decide) ?_
    refine ev_s C dX3_forget_18 (q := 21) rfl rfl ?_
    refine ev_goto C dX3_forget_21 (tgt := 2) (by decide) ?_
    refine ev_s C dX3_forget_2 (q := 3) rfl rfl ?_
    refine ev_s C dX3_forget_3 (q := 4) rfl rfl ?_
    refine cg_1009_0 C dX3_forget_4 kf_X3_7 (q := 7) rfl ?_
    refine cn_1010 C dX3_forget_7 (q := 8) rfl ?_
    refine ev_icmp_ge C dX3_forget_8 (tgt := 24) (q := 11) (by decide) rfl (by unfold rg; decide) (by unfold rg; decide) (fun b1 => ?_) (fun b1 => ?_)
    · exact absurd b1 (by decide)
    · refine ev_s C dX3_forget_11 (q := 12) rfl rfl ?_
      refine cg_1009_0 C dX3_forget_12 kf_X3_7 (q := 15) rfl ?_
      refine ev_s C dX3_forget_15 (q := 16) rfl rfl ?_
      refine ev_s C dX3_forget_16 (q := 17) rfl rfl ?_
      refine cs_1010 C dX3_forget_17 (q := 18) rfl (by decide) ?_
      refine ev_s C dX3_forget_18 (q := 21) rfl rfl ?_
      refine ev_goto C dX3_forget_21 (tgt := 2) (by decide) ?_
      refine ev_s C dX3_forget_2 (q := 3) rfl rfl ?_
      refine ev_s C dX3_forget_3 (q := 4) rfl rfl ?_
      refine cg_1009_0 C dX3_forget_4 kf_X3_7 (q := 7) rfl ?_
      refine cn_1010 C dX3_forget_7 (q := 8) rfl ?_
      refine ev_icmp_ge C dX3_forget_8 (tgt := 24) (q := 11) (by decide) rfl (by unfold rg; decide) (by unfold rg; decide) (fun b2 => ?_) (fun b2 => ?_)
      · exact absurd b2 (by decide)
      · refine ev_s C dX3_forget_11 (q := 12) rfl rfl ?_
        refine cg_1009_0 C dX3_forget_12 kf_X3_7 (q := 15) rfl ?_
        refine ev_s C dX3_forget_15 (q := 16) rfl rfl ?_
        refine ev_s C dX3_forget_16 (q := 17) rfl rfl ?_
        refine cs_1010 C dX3_forget_17 (q := 18) rfl (by decide) ?_
        refine ev_s C dX3_forget_18 (q := 21) rfl rfl ?_
        refine ev_goto C dX3_forget_21 (tgt := 2) (by decide) ?_
        refine ev_s C dX3_forget_2 (q := 3) rfl rfl ?_
        refine ev_s C dX3_forget_3 (q := 4) rfl rfl ?_
        refine cg_1009_0 C dX3_forget_4 kf_X3_7 (q := 7) rfl ?_
        refine cn_1010 C dX3_forget_7 (q := 8) rfl ?_
        refine ev_icmp_ge C dX3_forget_8 (tgt := 24) (q := 11) (by decide) rfl (by unfold rg; decide) (by unfold rg; decide) (fun b3 => ?_) (fun b3 => ?_)
        · exact absurd b3 (by decide)
        · refine ev_s C dX3_forget_11 (q := 12) rfl rfl ?_
          refine cg_1009_0 C dX3_forget_12 kf_X3_7 (q := 15) rfl ?_
          refine ev_s C dX3_forget_15 (q := 16) rfl rfl ?_
          refine ev_s C dX3_forget_16 (q := 17) rfl rfl ?_
          refine cs_1010 C dX3_forget_17 (q := 18) rfl (by decide) ?_
          refine ev_s C dX3_forget_18 (q := 21) rfl rfl ?_
          refine ev_goto C dX3_forget_21 (tgt := 2) (by decide) ?_
          refine ev_s C dX3_forget_2 (q := 3) rfl rfl ?_
          refine ev_s C dX3_forget_3 (q := 4) rfl rfl ?_
          refine cg_1009_0 C dX3_forget_4 kf_X3_7 (q := 7) rfl ?_
          refine cn_1010 C dX3_forget_7 (q := 8) rfl ?_
          refine ev_icmp_ge C dX3_forget_8 (tgt := 24) (q := 11) (by decide) rfl (by unfold rg; decide) (by unfold rg; decide) (fun b4 => ?_) (fun b4 => ?_)
          · exact ev_vret C hr dX3_forget_24 (Nat.zero_le _) (Nat.zero_le _) (po_0 hPo rfl)
          · exact absurd b4 (by decide)
set_option maxHeartbeats 4000000 in
set_option maxRecDepth 100000 in
theorem c_X3_beginTick {u v : SS} {g : GH} (I : CI u) : Cn yX3_beginTick (wsy yX3_beginTick cX3_beginTick 2 none) 0 0 0 nn [vR (some 1009)] (mk u v g) (.inl (none, mk (btM u) v g)) := by
  refine con_j (lv := [(0, vR (some 1009))]) (by decide) (fun ad => Nat.le_of_ble_eq_true rfl) (fun ad => rfl) rfl ?_
  intro k C hr hlv hmc hms hPo hPx htab
  refine ev_s C dX3_beginTick_0 (q := 1) rfl rfl ?_
  refine cg_1009_0 C dX3_beginTick_1 kf_X3_7 (q := 4) rfl ?_
  refine cn_1010 C dX3_beginTick_4 (q := 5) rfl ?_
  refine ev_s C dX3_beginTick_5 (q := 6) rfl rfl ?_
  refine ev_s C dX3_beginTick_6 (q := 7) rfl rfl ?_
  refine ev_s C dX3_beginTick_7 (q := 8) rfl rfl ?_
  refine ev_s C dX3_beginTick_8 (q := 9) rfl rfl ?_
  refine ev_if_le C dX3_beginTick_9 (tgt := 32) (q := 12) (by decide) rfl (by unfold rg; decide) (fun b0 => ?_) (fun b0 => ?_)
  · exact absurd b0 (by decide)
  · refine ev_s C dX3_beginTick_12 (q := 13) rfl rfl ?_
    refine cg_1009_0 C dX3_beginTick_13 kf_X3_7 (q := 16) rfl ?_
    refine ev_s C dX3_beginTick_16 (q := 17) rfl rfl ?_
    refine ev_s C dX3_beginTick_17 (q := 18) rfl rfl ?_
    refine cg_1009_0 C dX3_beginTick_18 kf_X3_7 (q := 21) rfl ?_
    refine ev_s C dX3_beginTick_21 (q := 22) rfl rfl ?_
    refine ev_s C dX3_beginTick_22 (q := 23) rfl rfl ?_
    refine ev_s C dX3_beginTick_23 (q := 24) rfl rfl ?_
    refine cl_1010 C dX3_beginTick_24 (q := 25) rfl (by decide) ?_
    refine cs_1010 C dX3_beginTick_25 (q := 26) rfl (by decide) ?_
    refine ev_s C dX3_beginTick_26 (q := 29) rfl rfl ?_
    refine ev_goto C dX3_beginTick_29 (tgt := 8) (by decide) ?_
    refine ev_s C dX3_beginTick_8 (q := 9) rfl rfl ?_
    refine ev_if_le C dX3_beginTick_9 (tgt := 32) (q := 12) (by decide) rfl (by unfold rg; decide) (fun b1 => ?_) (fun b1 => ?_)
    · exact absurd b1 (by decide)
    · refine ev_s C dX3_beginTick_12 (q := 13) rfl rfl ?_
      refine cg_1009_0 C dX3_beginTick_13 kf_X3_7 (q := 16) rfl ?_
      refine ev_s C dX3_beginTick_16 (q := 17) rfl rfl ?_
      refine ev_s C dX3_beginTick_17 (q := 18) rfl rfl ?_
      refine cg_1009_0 C dX3_beginTick_18 kf_X3_7 (q := 21) rfl ?_
      refine ev_s C dX3_beginTick_21 (q := 22) rfl rfl ?_
      refine ev_s C dX3_beginTick_22 (q := 23) rfl rfl ?_
      refine ev_s C dX3_beginTick_23 (q := 24) rfl rfl ?_
      refine cl_1010 C dX3_beginTick_24 (q := 25) rfl (by decide) ?_
      refine cs_1010 C dX3_beginTick_25 (q := 26) rfl (by decide) ?_
      refine ev_s C dX3_beginTick_26 (q := 29) rfl rfl ?_
      refine ev_goto C dX3_beginTick_29 (tgt := 8) (by decide) ?_
      refine ev_s C dX3_beginTick_8 (q := 9) rfl rfl ?_
      refine ev_if_le C dX3_beginTick_9 (tgt := 32) (q := 12) (by decide) rfl (by unfold rg; decide) (fun b2 => ?_) (fun b2 => ?_)
      · exact absurd b2 (by decide)
      · refine ev_s C dX3_beginTick_12 (q := 13) rfl rfl ?_
        refine cg_1009_0 C dX3_beginTick_13 kf_X3_7 (q := 16) rfl ?_
        refine ev_s C dX3_beginTick_16 (q := 17) rfl rfl ?_
        refine ev_s C dX3_beginTick_17 (q := 18) rfl rfl ?_
        refine cg_1009_0 C dX3_beginTick_18 kf_X3_7 (q := 21) rfl ?_
        refine ev_s C dX3_beginTick_21 (q := 22) rfl rfl ?_
        refine ev_s C dX3_beginTick_22 (q := 23) rfl rfl ?_
        refine ev_s C dX3_beginTick_23 (q := 24) rfl rfl ?_
        refine cl_1010 C dX3_beginTick_24 (q := 25) rfl (by decide) ?_
        refine cs_1010 C dX3_beginTick_25 (q := 26) rfl (by decide) ?_
        refine ev_s C dX3_beginTick_26 (q := 29) rfl rfl ?_
        refine ev_goto C dX3_beginTick_29 (tgt := 8) (by decide) ?_
        refine ev_s C dX3_beginTick_8 (q := 9) rfl rfl ?_
        refine ev_if_le C dX3_beginTick_9 (tgt := 32) (q := 12) (by decide) rfl (by unfold rg; decide) (fun b3 => ?_) (fun b3 => ?_)
        · refine ev_s C dX3_beginTick_32 (q := 33) rfl rfl ?_
          refine cg_1009_0 C dX3_beginTick_33 kf_X3_7 (q := 36) rfl ?_
          refine ev_s C dX3_beginTick_36 (q := 37) rfl rfl ?_
          refine ev_s C dX3_beginTick_37 (q := 38) rfl rfl ?_
          refine cs_1010 C dX3_beginTick_38 (q := 39) rfl (by decide) ?_
          exact ev_vret C hr dX3_beginTick_39 (Nat.zero_le _) (Nat.zero_le _) (po_0 hPo rfl)
        · exact absurd b3 (by decide)
def rpE : Nat → SS → SS
  | 0, u => u
  | z + 1, u => stA (rpE z u) 1 (bShr (u.2 0 z) 8).toNat (bAnd (u.2 0 z) 255 % 65536)
def rpC (u : SS) (z : Nat) : SS := stF u 1 (fun j => if j < z then 45 else u.2 1 j)
def rpM (u : SS) : SS := rpE (u.1 6).toNat (rpC u 48)
theorem rpC_0 {u : SS} : rpC u 0 = u := by
  unfold rpC
  have : (fun j => if j < 0 then (45 : Int) else u.2 1 j) = u.2 1 := by funext j; rw [if_neg (by omega)]
  rw [this, stF_self]
theorem rpC_s {u : SS} {z : Nat} : stA (rpC u z) 1 z 45 = rpC u (z + 1) := by
  unfold rpC
  rw [stF_A]
  congr 1
  funext j
  by_cases e : j = z
  · subst e; rw [if_pos rfl, if_pos (by omega)]
  · rw [if_neg e]
    by_cases h2 : j < z
    · rw [if_pos h2, if_pos (by omega)]
    · rw [if_neg h2, if_neg (by omega)]
theorem rpE_S {s : Nat} : ∀ {z : Nat} {u : SS}, (rpE z u).1 s = u.1 s
  | 0, _ => rfl
  | z + 1, u => by show (rpE z u).1 s = _; exact rpE_S
theorem rpE_A {a j : Nat} (h : a ≠ 1) : ∀ {z : Nat} {u : SS}, (rpE z u).2 a j = u.2 a j
  | 0, _ => rfl
  | z + 1, u => by show (stA (rpE z u) 1 _ _).2 a j = _; rw [stA_2, if_neg h]; exact rpE_A h
theorem rpM_S {u : SS} {s : Nat} : (rpM u).1 s = u.1 s := by unfold rpM; rw [rpE_S]; rfl
theorem rpC_A {u : SS} {z a j : Nat} (h : a ≠ 1) : (rpC u z).2 a j = u.2 a j := by show (if a = 1 then _ else u.2 a) j = _; rw [if_neg h]
theorem rpM_A {u : SS} {a j : Nat} (h : a ≠ 1) : (rpM u).2 a j = u.2 a j := by unfold rpM; rw [rpE_A h, rpC_A h]
theorem CI_F {u : SS} {a : Nat} {f : Nat → Int} (I : CI u) (h : ∀ j, lD a ≤ f j ∧ f j ≤ hD a) (h2 : a ≠ 2) (h3 : a ≠ 3) : CI (stF u a f) := by
  have e : ∀ b, b ≠ a → (stF u a f).2 b = u.2 b := fun b hb => by show (if b = a then _ else _) = _; rw [if_neg hb]
  refine ⟨I.1, fun b j => ?_, I.2.2.1, I.2.2.2.1, ?_, ?_, ?_⟩
  · by_cases c : b = a
    · subst c; show lD b ≤ (if b = b then f else u.2 b) j ∧ (if b = b then f else u.2 b) j ≤ hD b; rw [if_pos rfl]; exact h j
    · rw [e b c]; exact I.2.1 b j
  · rw [e 2 (Ne.symm h2)]; exact I.2.2.2.2.1
  · rw [e 3 (Ne.symm h3)]; exact I.2.2.2.2.2.1
  · rw [e 3 (Ne.symm h3)]; exact I.2.2.2.2.2.2
theorem CI_rpC {u : SS} {z : Nat} (I : CI u) : CI (rpC u z) := CI_F I (fun j => by by_cases h : j < z; · rw [if_pos h]; decide
                                                                                   · rw [if_neg h]; exact I.a1 j) (by decide) (by decide)
theorem CI_rpE {u : SS} : ∀ {z : Nat}, CI u → CI (rpE z u)
  | 0, I => I
  | z + 1, I => CI_A (CI_rpE I) (by
      have h1 := Int.emod_nonneg (bAnd (u.2 0 z) 255) (b := 65536) (by decide)
      have h2 := Int.emod_lt_of_pos (bAnd (u.2 0 z) 255) (b := 65536) (by decide)
      show 0 ≤ _ ∧ _ ≤ (65535 : Int)
      omega) (by decide) (by decide)
theorem CI_rp {u : SS} (I : CI u) : CI (rpM u) := CI_rpE (CI_rpC I)
def evOK (u : SS) : Prop := ∀ z : Nat, (z : Int) < u.1 6 → 0 ≤ bShr (u.2 0 z) 8 ∧ bShr (u.2 0 z) 8 < 48
theorem bShr_rg (x y : Int) : rg (bShr x y) := by
  unfold rg bShr
  have h1 := Int32.le_toInt (iI x >>> (iI y &&& 31))
  have h2 := Int32.toInt_lt (iI x >>> (iI y &&& 31))
  omega
set_option maxHeartbeats 4000000 in
set_option maxRecDepth 100000 in
theorem l_X1_replay1 {k : Kx} (C : CX k RX1 cX1_replay 3) {u v : SS} {g : GH} (I : CI u) : ∀ (m z : Nat), z ≤ 48 → 48 < z + m → EV k 25 [(0, vR (some 1001)), (1, vI ((48 : Nat) : Int))] [] (mk (rpC u 48) v g) 0 0 → EV k 2 [(0, vR (some 1001)), (1, vI (z : Int))] [] (mk (rpC u z) v g) 0 0 := by
  intro m
  induction m with
  | zero =>
    intros
    exfalso
    omega
  | succ m ih =>
    intro z h1 h2 kx
    refine ev_s C dX1_replay_2 (q := 3) rfl rfl ?_
    refine ev_s C dX1_replay_3 (q := 4) rfl rfl ?_
    refine cg_1001_2 C dX1_replay_4 kf_X1_15 (q := 7) rfl ?_
    refine cn_1003 C dX1_replay_7 (q := 8) rfl ?_
    refine ev_icmp_ge C dX1_replay_8 (tgt := 25) (q := 11) (by decide) rfl (by first | decide | (unfold rg; omega) | assumption | exact bAnd_rg _ _) (by first | decide | (unfold rg; omega) | assumption | exact bAnd_rg _ _) (fun b0 => ?_) (fun b0 => ?_)
    · obtain rfl : z = 48 := by omega
      exact kx
    · refine ev_s C dX1_replay_11 (q := 12) rfl rfl ?_
      refine cg_1001_2 C dX1_replay_12 kf_X1_15 (q := 15) rfl ?_
      refine ev_s C dX1_replay_15 (q := 16) rfl rfl ?_
      refine ev_s C dX1_replay_16 (q := 18) rfl rfl ?_
      refine cs_1003 C dX1_replay_18 (q := 19) rfl (by decide) (by omega) ?_
      refine ev_s C dX1_replay_19 (q := 22) rfl rfl ?_
      refine ev_goto C dX1_replay_22 (tgt := 2) (by decide) ?_
      refine ev_eq (G := mk (rpC u (z + 1)) v g) (by rw [← rpC_s]; rfl) ?_
      exact ih (z + 1) (by omega) (by omega) kx
set_option maxHeartbeats 4000000 in
set_option maxRecDepth 100000 in
theorem l_X1_replay2 {k : Kx} (C : CX k RX1 cX1_replay 3) {u v : SS} {g : GH} (I : CI u) (hev : evOK u) {N : Nat} (hN : u.1 6 = (N : Int)) (hr : (kmeth k).sig.returnType = none) (hPo : kPo k = PoR (.inl (none, mk (rpE N u) v g))) : ∀ (m z : Nat), z ≤ N → N < z + m → EV k 27 [(0, vR (some 1001)), (1, vI (z : Int))] [] (mk (rpE z u) v g) 0 0 := by
  intro m
  induction m with
  | zero =>
    intros
    exfalso
    omega
  | succ m ih =>
    intro z h1 h2
    have i6 := I.s6
    have e6 : (rpE z u).1 6 = u.1 6 := rpE_S
    have e0 : (rpE z u).2 0 z = u.2 0 z := rpE_A (by decide)
    have e1 : (rpE z u).2 0 ((z : Int)).toNat = u.2 0 z := e0
    refine ev_s C dX1_replay_27 (q := 28) rfl rfl ?_
    refine ev_s C dX1_replay_28 (q := 29) rfl rfl ?_
    refine cg_1001_1 C dX1_replay_29 kf_X1_19 (q := 32) rfl ?_
    show EV k 32 _ (vI ((rpE z u).1 6) :: _) _ _ _
    rw [e6]
    refine ev_icmp_ge C dX1_replay_32 (tgt := 90) (q := 35) (by decide) rfl (by first | decide | (unfold rg; omega) | assumption | exact bAnd_rg _ _ | exact bShr_rg _ _) (by first | decide | (unfold rg; omega) | assumption | exact bAnd_rg _ _ | exact bShr_rg _ _) (fun b0 => ?_) (fun b0 => ?_)
    · exact ev_vret C hr dX1_replay_90 (Nat.zero_le _) (Nat.zero_le _) (po_0 hPo (by (obtain rfl : z = N := (by omega)); rfl))
    · refine ev_s C dX1_replay_35 (q := 36) rfl rfl ?_
      refine ev_s C dX1_replay_36 (q := 37) rfl rfl ?_
      refine cg_1001_0 C dX1_replay_37 kf_X1_9 (q := 40) rfl ?_
      refine cn_1002 C dX1_replay_40 (q := 41) rfl ?_
      refine ev_icmp_ge C dX1_replay_41 (tgt := 90) (q := 44) (by decide) rfl (by first | decide | (unfold rg; omega) | assumption | exact bAnd_rg _ _ | exact bShr_rg _ _) (by first | decide | (unfold rg; omega) | assumption | exact bAnd_rg _ _ | exact bShr_rg _ _) (fun b1 => ?_) (fun b1 => ?_)
      · exact ev_vret C hr dX1_replay_90 (Nat.zero_le _) (Nat.zero_le _) (po_0 hPo (by (obtain rfl : z = N := (by omega)); rfl))
      · refine ev_s C dX1_replay_44 (q := 45) rfl rfl ?_
        refine cg_1001_0 C dX1_replay_45 kf_X1_9 (q := 48) rfl ?_
        refine ev_s C dX1_replay_48 (q := 49) rfl rfl ?_
        refine cl_1002 C dX1_replay_49 (q := 50) rfl (by omega) ?_
        have hb := hev z (by omega)
        have hb2 : 0 ≤ bShr ((rpE z u).2 0 ((z : Int)).toNat) 8 ∧ bShr ((rpE z u).2 0 ((z : Int)).toNat) 8 < 48 := by rw [e1]; exact hb
        refine ev_s C dX1_replay_50 (q := 52) rfl rfl ?_
        refine ev_s C dX1_replay_52 (q := 53) rfl rfl ?_
        refine ev_s C dX1_replay_53 (q := 54) rfl rfl ?_
        refine ev_s C dX1_replay_54 (q := 55) rfl rfl ?_
        refine ev_if_lt C dX1_replay_55 (tgt := 84) (q := 58) (by decide) rfl (by first | decide | (unfold rg; omega) | assumption | exact bAnd_rg _ _ | exact bShr_rg _ _) (fun b2 => ?_) (fun b2 => ?_)
        · exfalso; omega
        · refine ev_s C dX1_replay_58 (q := 59) rfl rfl ?_
          refine ev_s C dX1_replay_59 (q := 60) rfl rfl ?_
          refine cg_1001_2 C dX1_replay_60 kf_X1_15 (q := 63) rfl ?_
          refine cn_1003 C dX1_replay_63 (q := 64) rfl ?_
          refine ev_icmp_ge C dX1_replay_64 (tgt := 84) (q := 67) (by decide) rfl (by first | decide | (unfold rg; omega) | assumption | exact bAnd_rg _ _ | exact bShr_rg _ _) (by first | decide | (unfold rg; omega) | assumption | exact bAnd_rg _ _ | exact bShr_rg _ _) (fun b3 => ?_) (fun b3 => ?_)
          · exfalso; omega
          · refine ev_s C dX1_replay_67 (q := 68) rfl rfl ?_
            refine cg_1001_2 C dX1_replay_68 kf_X1_15 (q := 71) rfl ?_
            refine ev_s C dX1_replay_71 (q := 72) rfl rfl ?_
            refine ev_s C dX1_replay_72 (q := 73) rfl rfl ?_
            refine cg_1001_0 C dX1_replay_73 kf_X1_9 (q := 76) rfl ?_
            refine ev_s C dX1_replay_76 (q := 77) rfl rfl ?_
            refine cl_1002 C dX1_replay_77 (q := 78) rfl (by omega) ?_
            refine ev_s C dX1_replay_78 (q := 81) rfl rfl ?_
            refine ev_s C dX1_replay_81 (q := 82) rfl rfl ?_
            refine ev_i2c C dX1_replay_82 (q := 83) rfl ?_
            refine cs_1003 C dX1_replay_83 (q := 84) rfl (by exact ⟨Int.emod_nonneg _ (by decide), Int.emod_lt_of_pos _ (by decide)⟩) (by omega) ?_
            refine ev_s C dX1_replay_84 (q := 87) rfl rfl ?_
            refine ev_goto C dX1_replay_87 (tgt := 27) (by decide) ?_
            refine ev_keep [0, 1] rfl ?_
            refine ev_eq (G := mk (rpE (z + 1) u) v g) (by show _ = mk (stA (rpE z u) 1 (bShr (u.2 0 z) 8).toNat (bAnd (u.2 0 z) 255 % 65536)) v g; rw [← e0]; rfl) ?_
            exact ih (z + 1) (by omega) (by omega)
set_option maxHeartbeats 4000000 in
set_option maxRecDepth 100000 in
theorem c_X1_replay {u v : SS} {g : GH} (I : CI u) (hev : evOK u) : Cn yX1_replay (wsy yX1_replay cX1_replay 3 none) 0 0 0 nn [vR (some 1001)] (mk u v g) (.inl (none, mk (rpM u) v g)) := by
  refine con_j (lv := [(0, vR (some 1001))]) (by decide) (fun ad => Nat.le_of_ble_eq_true rfl) (fun ad => rfl) rfl ?_
  intro k C hr hlv hmc hms hPo hPx htab
  refine ev_s C dX1_replay_0 (q := 1) rfl rfl ?_
  refine ev_s C dX1_replay_1 (q := 2) rfl rfl ?_
  refine ev_eq (G := mk (rpC u 0) v g) (by rw [rpC_0]) ?_
  refine l_X1_replay1 C I 49 0 (by decide) (by decide) ?_
  refine ev_s C dX1_replay_25 (q := 26) rfl rfl ?_
  refine ev_s C dX1_replay_26 (q := 27) rfl rfl ?_
  have i6 := I.s6
  exact l_X1_replay2 C (CI_rpC I) hev (N := (u.1 6).toNat) (by show u.1 6 = _; omega) hr hPo ((u.1 6).toNat + 1) 0 (Nat.zero_le _) (by omega)
set_option maxHeartbeats 4000000 in
set_option maxRecDepth 100000 in
theorem c_X1_replayedPlace {u v : SS} {g : GH} (I : CI u) {p : Nat} (hp : p < 48) : Cn yX1_replayedPlace (wsy yX1_replayedPlace cX1_replayedPlace 2 (some .char)) 0 0 0 nn [vR (some 1001), vI (p : Int)] (mk u v g) (.inl (some (vI (u.2 1 p)), mk u v g)) := by
  refine con_j (lv := [(0, vR (some 1001)), (1, vI (p : Int))]) (by decide) (fun ad => Nat.le_of_ble_eq_true rfl) (fun ad => rfl) rfl ?_
  intro k C hr hlv hmc hms hPo hPx htab
  have ia := I.a1 p
  have ia2 : 0 ≤ u.2 1 ((p : Int)).toNat ∧ u.2 1 ((p : Int)).toNat < 65536 := by show 0 ≤ u.2 1 p ∧ u.2 1 p < 65536; omega
  refine ev_s C dX1_replayedPlace_0 (q := 1) rfl rfl ?_
  refine ev_if_lt C dX1_replayedPlace_1 (tgt := 22) (q := 4) (by decide) rfl (by first | decide | (unfold rg; omega) | assumption | exact bAnd_rg _ _) (fun b0 => ?_) (fun b0 => ?_)
  · exfalso; omega
  · refine ev_s C dX1_replayedPlace_4 (q := 5) rfl rfl ?_
    refine ev_s C dX1_replayedPlace_5 (q := 6) rfl rfl ?_
    refine cg_1001_2 C dX1_replayedPlace_6 kf_X1_15 (q := 9) rfl ?_
    refine cn_1003 C dX1_replayedPlace_9 (q := 10) rfl ?_
    refine ev_icmp_ge C dX1_replayedPlace_10 (tgt := 22) (q := 13) (by decide) rfl (by first | decide | (unfold rg; omega) | assumption | exact bAnd_rg _ _) (by first | decide | (unfold rg; omega) | assumption | exact bAnd_rg _ _) (fun b1 => ?_) (fun b1 => ?_)
    · exfalso; omega
    · refine ev_s C dX1_replayedPlace_13 (q := 14) rfl rfl ?_
      refine cg_1001_2 C dX1_replayedPlace_14 kf_X1_15 (q := 17) rfl ?_
      refine ev_s C dX1_replayedPlace_17 (q := 18) rfl rfl ?_
      refine cl_1003 C dX1_replayedPlace_18 (q := 19) rfl (by omega) ?_
      refine ev_goto C dX1_replayedPlace_19 (tgt := 24) (by decide) ?_
      exact ev_zret C hr (fit_C (by first | decide | omega | assumption)) dX1_replayedPlace_24 (Nat.zero_le _) (Nat.zero_le _) (po_1 hPo rfl rfl)
def cpI (u : SS) (s : Nat) (c : Int) (j : Nat) : Int := bI (decide (u.2 23 (8 * s + j) = c))
def cpN (u : SS) (s : Nat) (c : Int) : Int := sumN 8 (cpI u s c)
theorem cpI_bd (u : SS) (s : Nat) (c : Int) (n : Nat) : 0 ≤ sumN n (cpI u s c) ∧ sumN n (cpI u s c) ≤ n := by
  have := sumN_bd (N := n) (p := cpI u s c) (a := 0) (b := 1) (fun z _ => by have := bI_01 (decide (u.2 23 (8 * s + z) = c)); unfold cpI; omega)
  omega
def csc (u : SS) (s : Nat) : Int := 10 * cpN u s 102 + 3 * cpN u s 115 + cpN u s 100 - u.2 11 s - 20 * u.2 18 s
theorem csc_bd {u : SS} (I : CI u) (s : Nat) : -20000200 ≤ csc u s ∧ csc u s ≤ 200 := by
  have h1 := cpI_bd u s 102 8
  have h2 := cpI_bd u s 115 8
  have h3 := cpI_bd u s 100 8
  have h4 := I.a11 s
  have h5 := I.a18 s
  unfold csc cpN
  omega
set_option maxHeartbeats 4000000 in
set_option maxRecDepth 100000 in
theorem l_X4_countPages {k : Kx} (C : CX k RX4 cX4_countPages 7) {u v : SS} {g : GH} (I : CI u) {s : Nat} (hs : (s : Int) < u.1 14) {c : Int} (hc : rg c) (hr : (kmeth k).sig.returnType = some .int) (hPo : kPo k = PoR (.inl (some (vI (cpN u s c)), mk u v g))) : ∀ (m z : Nat) (a iz : Int), iz = z → a = sumN z (cpI u s c) → z ≤ 8 → 8 < z + m → EV k 14 [(0, vR (some (2000 + s))), (1, vI c), (2, vI a), (3, vR (some (2100 + s))), (4, vI 8), (5, vI iz)] [] (mk u v g) 0 0 := by
  intro m
  induction m with
  | zero =>
    intros
    exfalso
    omega
  | succ m ih =>
    intro z a iz e0 ea h1 h2
    have i14 := I.s14
    have hsum := cpI_bd u s c z
    have ip := I.a23 (8 * s + ((z : Int)).toNat)
    subst e0
    have ez : ((z : Int)).toNat = z := rfl
    refine ev_s C dX4_countPages_14 (q := 16) rfl rfl ?_
    refine ev_s C dX4_countPages_16 (q := 18) rfl rfl ?_
    refine ev_icmp_ge C dX4_countPages_18 (tgt := 45) (q := 21) (by decide) rfl (by first | decide | (unfold rg; omega) | assumption | exact bAnd_rg _ _) (by first | decide | (unfold rg; omega) | assumption | exact bAnd_rg _ _) (fun b0 => ?_) (fun b0 => ?_)
    · refine ev_s C dX4_countPages_45 (q := 46) rfl rfl ?_
      exact ev_iret C hr dX4_countPages_46 (Nat.zero_le _) (Nat.zero_le _) (po_1 hPo (by (obtain rfl : z = 8 := (by omega)); rw [ea]; rfl) rfl)
    · refine ev_s C dX4_countPages_21 (q := 22) rfl rfl ?_
      refine ev_s C dX4_countPages_22 (q := 24) rfl rfl ?_
      refine cl_2100 C dX4_countPages_24 (q := 25) rfl (by show (_ : Int) < u.1 14; omega) (by omega) (by omega) ?_
      refine ev_s C dX4_countPages_25 (q := 27) rfl rfl ?_
      refine ev_s C dX4_countPages_27 (q := 29) rfl rfl ?_
      refine cgp_3 C dX4_countPages_29 kf_X4_34 (q := 32) rfl (by show (_ : Int) < 8 * u.1 14; omega) ?_
      refine ev_s C dX4_countPages_32 (q := 33) rfl rfl ?_
      refine ev_icmp_ne C dX4_countPages_33 (tgt := 39) (q := 36) (by decide) rfl (by first | decide | (unfold rg; omega) | assumption | exact bAnd_rg _ _) (by first | decide | (unfold rg; omega) | assumption | exact bAnd_rg _ _) (fun b1 => ?_) (fun b1 => ?_)
      · have h9 : ¬ u.2 23 (8 * s + z) = c := b1
        refine ev_s C dX4_countPages_39 (q := 42) rfl rfl ?_
        refine ev_goto C dX4_countPages_42 (tgt := 14) (by decide) ?_
        refine ev_keep [0, 1, 2, 3, 4, 5] rfl ?_
        exact ih (z + 1) _ _ (by omega) (by show _ = sumN z (cpI u s c) + cpI u s c z; rw [ea]; unfold cpI; first | (rw [decide_eq_true h9]; rfl) | (rw [decide_eq_false h9, bI_f]; omega)) (by omega) (by omega)
      · have h9 : u.2 23 (8 * s + z) = c := b1
        refine ev_s C dX4_countPages_36 (q := 39) rfl rfl ?_
        refine ev_s C dX4_countPages_39 (q := 42) rfl rfl ?_
        refine ev_goto C dX4_countPages_42 (tgt := 14) (by decide) ?_
        refine ev_keep [0, 1, 2, 3, 4, 5] rfl ?_
        exact ih (z + 1) _ _ (by omega) (by show _ = sumN z (cpI u s c) + cpI u s c z; rw [ea]; unfold cpI; first | (rw [decide_eq_true h9]; rfl) | (rw [decide_eq_false h9, bI_f]; omega)) (by omega) (by omega)
set_option maxHeartbeats 4000000 in
set_option maxRecDepth 100000 in
theorem c_X4_countPages {u v : SS} {g : GH} (I : CI u) {s : Nat} (hs : (s : Int) < u.1 14) {c : Int} (hc : rg c) : Cn yX4_countPages (wsy yX4_countPages cX4_countPages 7 (some .int)) 0 0 0 nn [vR (some (2000 + s)), vI c] (mk u v g) (.inl (some (vI (cpN u s c)), mk u v g)) := by
  refine con_j (lv := [(0, vR (some (2000 + s))), (1, vI c)]) (by decide) (fun ad => Nat.le_of_ble_eq_true rfl) (fun ad => rfl) rfl ?_
  intro k C hr hlv hmc hms hPo hPx htab
  have i14 := I.s14
  refine ev_s C dX4_countPages_0 (q := 1) rfl rfl ?_
  refine ev_s C dX4_countPages_1 (q := 2) rfl rfl ?_
  refine ev_s C dX4_countPages_2 (q := 3) rfl rfl ?_
  refine cgs_4 C dX4_countPages_3 kf_X4_11 (q := 6) rfl (by show (_ : Int) < u.1 14; omega) (by omega) ?_
  refine ev_s C dX4_countPages_6 (q := 7) rfl rfl ?_
  refine ev_s C dX4_countPages_7 (q := 8) rfl rfl ?_
  refine cn_2100 C dX4_countPages_8 (q := 9) rfl (by show (_ : Int) < u.1 14; omega) (by omega) ?_
  refine ev_s C dX4_countPages_9 (q := 11) rfl rfl ?_
  refine ev_s C dX4_countPages_11 (q := 12) rfl rfl ?_
  refine ev_s C dX4_countPages_12 (q := 14) rfl rfl ?_
  exact l_X4_countPages C I hs hc hr hPo 9 0 _ _ rfl rfl (by decide) (by decide)
set_option maxHeartbeats 4000000 in
set_option maxRecDepth 100000 in
theorem c_X4_killScore {u v : SS} {g : GH} (I : CI u) {s : Nat} (hs : (s : Int) < u.1 14) : Cn yX4_killScore (wsy yX4_killScore cX4_killScore 1 (some .int)) 1 0 0 nn [vR (some (2000 + s))] (mk u v g) (.inl (some (vI (csc u s)), mk u v g)) := by
  refine con_j (lv := [(0, vR (some (2000 + s)))]) (by decide) (fun ad => Nat.le_of_ble_eq_true rfl) (fun ad => rfl) rfl ?_
  intro k C hr hlv hmc hms hPo hPx htab
  have i14 := I.s14
  refine ev_s C dX4_killScore_0 (q := 2) rfl rfl ?_
  refine ev_s C dX4_killScore_2 (q := 3) rfl rfl ?_
  refine ev_s C dX4_killScore_3 (q := 5) rfl rfl ?_
  refine ev_cV C dX4_killScore_5 (q := 8) rfl km_X4_37 kv_X4_countPages kc_X4_countPages (c_X4_countPages I hs (by unfold rg; decide)) rfl rfl vcX4 (gs_ (by show (_ : Int) < u.1 14; omega) (by omega)) (by rw [hlv]; first | decide | omega) (by decide) (Nat.le_of_ble_eq_true rfl) (by first | exact Nat.zero_le _ | (rw [hmc]; decide) | (rw [hmc]; omega)) (by first | exact Nat.zero_le _ | (rw [hms]; decide) | (rw [hms]; omega)) ?_
  refine ev_s C dX4_killScore_8 (q := 9) rfl rfl ?_
  refine ev_s C dX4_killScore_9 (q := 10) rfl rfl ?_
  refine ev_s C dX4_killScore_10 (q := 11) rfl rfl ?_
  refine ev_s C dX4_killScore_11 (q := 13) rfl rfl ?_
  refine ev_cV C dX4_killScore_13 (q := 16) rfl km_X4_37 kv_X4_countPages kc_X4_countPages (c_X4_countPages I hs (by unfold rg; decide)) rfl rfl vcX4 (gs_ (by show (_ : Int) < u.1 14; omega) (by omega)) (by rw [hlv]; first | decide | omega) (by decide) (Nat.le_of_ble_eq_true rfl) (by first | exact Nat.zero_le _ | (rw [hmc]; decide) | (rw [hmc]; omega)) (by first | exact Nat.zero_le _ | (rw [hms]; decide) | (rw [hms]; omega)) ?_
  refine ev_s C dX4_killScore_16 (q := 17) rfl rfl ?_
  refine ev_s C dX4_killScore_17 (q := 18) rfl rfl ?_
  refine ev_s C dX4_killScore_18 (q := 19) rfl rfl ?_
  refine ev_s C dX4_killScore_19 (q := 21) rfl rfl ?_
  refine ev_cV C dX4_killScore_21 (q := 24) rfl km_X4_37 kv_X4_countPages kc_X4_countPages (c_X4_countPages I hs (by unfold rg; decide)) rfl rfl vcX4 (gs_ (by show (_ : Int) < u.1 14; omega) (by omega)) (by rw [hlv]; first | decide | omega) (by decide) (Nat.le_of_ble_eq_true rfl) (by first | exact Nat.zero_le _ | (rw [hmc]; decide) | (rw [hmc]; omega)) (by first | exact Nat.zero_le _ | (rw [hms]; decide) | (rw [hms]; omega)) ?_
  refine ev_s C dX4_killScore_24 (q := 25) rfl rfl ?_
  refine ev_s C dX4_killScore_25 (q := 26) rfl rfl ?_
  refine cgs_1 C dX4_killScore_26 kf_X4_21 (q := 29) rfl (by show (_ : Int) < u.1 14; omega) (by omega) ?_
  refine ev_s C dX4_killScore_29 (q := 30) rfl rfl ?_
  refine ev_s C dX4_killScore_30 (q := 32) rfl rfl ?_
  refine ev_s C dX4_killScore_32 (q := 33) rfl rfl ?_
  refine cgs_8 C dX4_killScore_33 kf_X4_41 (q := 36) rfl (by show (_ : Int) < u.1 14; omega) (by omega) ?_
  refine ev_s C dX4_killScore_36 (q := 37) rfl rfl ?_
  refine ev_s C dX4_killScore_37 (q := 38) rfl rfl ?_
  exact ev_iret C hr dX4_killScore_38 (Nat.zero_le _) (Nat.zero_le _) (po_1 hPo rfl rfl)
set_option maxHeartbeats 4000000 in
set_option maxRecDepth 100000 in
theorem c_X4_delayLeft {u v : SS} {g : GH} (I : CI u) {s : Nat} (hs : (s : Int) < u.1 14) {t : Int} : Cn yX4_delayLeft (wsy yX4_delayLeft cX4_delayLeft 2 (some .int)) 0 0 0 nn [vR (some (2000 + s)), vI t] (mk u v g) (.inl (some (vI (u.2 13 s - (t - u.2 17 s))), mk u v g)) := by
  refine con_j (lv := [(0, vR (some (2000 + s))), (1, vI t)]) (by decide) (fun ad => Nat.le_of_ble_eq_true rfl) (fun ad => rfl) rfl ?_
  intro k C hr hlv hmc hms hPo hPx htab
  have i14 := I.s14
  refine ev_s C dX4_delayLeft_0 (q := 1) rfl rfl ?_
  refine cgs_3 C dX4_delayLeft_1 kf_X4_28 (q := 4) rfl (by show (_ : Int) < u.1 14; omega) (by omega) ?_
  refine ev_s C dX4_delayLeft_4 (q := 5) rfl rfl ?_
  refine ev_s C dX4_delayLeft_5 (q := 6) rfl rfl ?_
  refine cgs_7 C dX4_delayLeft_6 kf_X4_44 (q := 9) rfl (by show (_ : Int) < u.1 14; omega) (by omega) ?_
  refine ev_s C dX4_delayLeft_9 (q := 10) rfl rfl ?_
  refine ev_s C dX4_delayLeft_10 (q := 11) rfl rfl ?_
  exact ev_iret C hr dX4_delayLeft_11 (Nat.zero_le _) (Nat.zero_le _) (po_1 hPo rfl rfl)
def ctf (u : SS) (j : Nat) : Int := u.2 22 (u.2 3 j).toNat
def ctk (u : SS) : Int := sumN (u.1 11).toNat (ctf u)
theorem ctf_bd {u : SS} (I : CI u) (n : Nat) : 0 ≤ sumN n (ctf u) ∧ sumN n (ctf u) ≤ 4 * n := by
  have := sumN_bd (N := n) (p := ctf u) (a := 0) (b := 4) (fun z _ => I.a22 _)
  omega
set_option maxHeartbeats 4000000 in
set_option maxRecDepth 100000 in
theorem l_X5_takenRoom {k : Kx} (C : CX k RX5 cX5_takenRoom 3) (hlv : klev k = 3) {u v : SS} {g : GH} (I : CI u) {N : Nat} (hN : u.1 11 = (N : Int)) (hr : (kmeth k).sig.returnType = some .int) (hPo : kPo k = PoR (.inl (some (vI (sumN N (ctf u))), mk u v g))) : ∀ (m z : Nat) (a iz : Int), iz = z → a = sumN z (ctf u) → z ≤ N → N < z + m → EV k 4 [(0, vR (some 1006)), (1, vI a), (2, vI iz)] [] (mk u v g) 0 0 := by
  intro m
  induction m with
  | zero =>
    intros
    exfalso
    omega
  | succ m ih =>
    intro z a iz e0 ea h1 h2
    have i11 := I.s11
    have hsum := ctf_bd I z
    subst e0
    refine ev_s C dX5_takenRoom_4 (q := 5) rfl rfl ?_
    refine ev_s C dX5_takenRoom_5 (q := 6) rfl rfl ?_
    refine cg_1006_0 C dX5_takenRoom_6 kf_X5_12 (q := 9) rfl ?_
    refine ev_cV C dX5_takenRoom_9 (q := 12) rfl km_X5_22 kv_Jx4a65c_size_8abf5 kc_Jx4a65c_size_8abf5 (c_size_o) rfl rfl vcJx4a65c rfl (by rw [hlv]; first | decide | omega) (by decide) (Nat.le_of_ble_eq_true rfl) (by first | exact Nat.zero_le _ | (rw [hmc]; decide) | (rw [hmc]; omega)) (by first | exact Nat.zero_le _ | (rw [hms]; decide) | (rw [hms]; omega)) ?_
    refine ev_icmp_ge C dX5_takenRoom_12 (tgt := 38) (q := 15) (by decide) rfl (by first | decide | (unfold rg; omega) | assumption | exact bAnd_rg _ _) (by first | decide | (unfold rg; omega) | assumption | exact bAnd_rg _ _) (fun b0 => ?_) (fun b0 => ?_)
    · refine ev_s C dX5_takenRoom_38 (q := 39) rfl rfl ?_
      exact ev_iret C hr dX5_takenRoom_39 (Nat.zero_le _) (Nat.zero_le _) (po_1 hPo (by (obtain rfl : z = N := (by omega)); rw [ea]) rfl)
    · refine ev_s C dX5_takenRoom_15 (q := 16) rfl rfl ?_
      refine ev_s C dX5_takenRoom_16 (q := 17) rfl rfl ?_
      refine cg_1006_0 C dX5_takenRoom_17 kf_X5_12 (q := 20) rfl ?_
      refine ev_s C dX5_takenRoom_20 (q := 21) rfl rfl ?_
      refine ev_cV C dX5_takenRoom_21 (q := 24) rfl km_X5_26 kv_Jx4a65c_get_915e3 kc_Jx4a65c_get_915e3 (c_get_o I (i := z) (by omega)) rfl rfl vcJx4a65c rfl (by rw [hlv]; first | decide | omega) (by decide) (Nat.le_of_ble_eq_true rfl) (by first | exact Nat.zero_le _ | (rw [hmc]; decide) | (rw [hmc]; omega)) (by first | exact Nat.zero_le _ | (rw [hms]; decide) | (rw [hms]; omega)) ?_
      have hpz : (((u.2 3 z).toNat : Nat) : Int) < 8 * u.1 14 := (by have := I.od z; have := I.s14; have h0 := I.on (j := z) (by omega); show (((u.2 3 z).toNat : Nat) : Int) < 8 * u.1 14; omega)
      refine ev_chk C dX5_takenRoom_24 (q := 27) rfl vcX2 kl_X5_30 (fun n h => by cases h; exact ⟨_, gp_ (by show (_ : Int) < 8 * u.1 14; omega)⟩) ?_
      refine cgp_2 C dX5_takenRoom_27 kf_X5_32 (q := 30) rfl hpz ?_
      refine ev_s C dX5_takenRoom_30 (q := 31) rfl rfl ?_
      refine ev_s C dX5_takenRoom_31 (q := 32) rfl rfl ?_
      refine ev_s C dX5_takenRoom_32 (q := 35) rfl rfl ?_
      refine ev_goto C dX5_takenRoom_35 (tgt := 4) (by decide) ?_
      exact ih (z + 1) _ _ (by omega) (by show _ = sumN z (ctf u) + ctf u z; rw [ea]; rfl) (by omega) (by omega)
set_option maxHeartbeats 4000000 in
set_option maxRecDepth 100000 in
theorem c_X5_takenRoom {u v : SS} {g : GH} (I : CI u) : Cn yX5_takenRoom (wsy yX5_takenRoom cX5_takenRoom 3 (some .int)) 3 0 0 nn [vR (some 1006)] (mk u v g) (.inl (some (vI (ctk u)), mk u v g)) := by
  refine con_j (lv := [(0, vR (some 1006))]) (by decide) (fun ad => Nat.le_of_ble_eq_true rfl) (fun ad => rfl) rfl ?_
  intro k C hr hlv hmc hms hPo hPx htab
  refine ev_s C dX5_takenRoom_0 (q := 1) rfl rfl ?_
  refine ev_s C dX5_takenRoom_1 (q := 2) rfl rfl ?_
  refine ev_s C dX5_takenRoom_2 (q := 3) rfl rfl ?_
  refine ev_s C dX5_takenRoom_3 (q := 4) rfl rfl ?_
  have i11 := I.s11
  exact l_X5_takenRoom C hlv I (N := (u.1 11).toNat) (by omega) hr hPo ((u.1 11).toNat + 1) 0 _ _ rfl rfl (Nat.zero_le _) (by omega)
