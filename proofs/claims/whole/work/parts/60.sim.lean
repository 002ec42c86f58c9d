/-! TOGETHER: rows of numbers as lists -/
def lsN (n : Nat) (f : Nat → Int) : List Int := (List.range n).map f
theorem lsN_len (n : Nat) (f : Nat → Int) : (lsN n f).length = n := by simp [lsN]
theorem lsN_get {n : Nat} {f : Nat → Int} {i : Nat} (h : i < n) : (lsN n f)[i]? = some (f i) := by simp [lsN, h]
theorem lsN_get0 {n : Nat} {f : Nat → Int} {i : Nat} (h : n ≤ i) : (lsN n f)[i]? = none := by simp [lsN, h]
theorem lsN_c {n : Nat} {f g : Nat → Int} (h : ∀ i, i < n → f i = g i) : lsN n f = lsN n g := List.map_congr_left fun i hi => h i (List.mem_range.mp hi)
theorem lsN_s (n : Nat) (f : Nat → Int) : lsN (n + 1) f = lsN n f ++ [f n] := by simp [lsN, List.range_succ]
theorem lsN_0 (f : Nat → Int) : lsN 0 f = [] := rfl
theorem lsN_m {n : Nat} {f : Nat → Int} {x : Int} : x ∈ lsN n f ↔ ∃ i, i < n ∧ f i = x := by simp [lsN]
theorem lsN_shf {f : Nat → Int} {p z : Nat} (h : p ≤ z) : lsN z (shf f p z) = (lsN (z + 1) f).eraseIdx p := by
  apply List.ext_getElem?
  intro i
  rw [List.getElem?_eraseIdx]
  by_cases hi : i < z
  · rw [lsN_get hi]
    unfold shf
    by_cases h2 : i < p
    · rw [if_neg (by omega), if_pos h2, lsN_get (by omega)]
    · rw [if_pos (by omega), if_neg h2, lsN_get (by omega)]
  · rw [lsN_get0 (by omega)]
    rw [if_neg (by omega), lsN_get0 (by omega)]
theorem lsN_sum (g : Int → Int) (f : Nat → Int) : ∀ n : Nat, sumN n (fun j => g (f j)) = ((lsN n f).map g).sum
  | 0 => rfl
  | n + 1 => by
    rw [lsN_s, List.map_append, List.sum_append, ← lsN_sum g f n]
    show _ = _ + (g (f n) + 0)
    rw [Int.add_zero]
    rfl
theorem lsN_inj {f : Nat → Int} : ∀ {n : Nat}, (lsN n f).Nodup → ∀ i j, i < n → j < n → f i = f j → i = j
  | 0, _, i, j, hi, _, _ => absurd hi (Nat.not_lt_zero _)
  | n + 1, h, i, j, hi, hj, e => by
    rw [lsN_s, List.nodup_append] at h
    obtain ⟨h1, -, h3⟩ := h
    by_cases e1 : i = n
    · by_cases e2 : j = n
      · rw [e1, e2]
      · exact absurd rfl (h3 (f j) (lsN_m.mpr ⟨j, by omega, rfl⟩) (f n) List.mem_cons_self |> fun q => by rw [← e, e1] at q; exact q)
    · by_cases e2 : j = n
      · exact absurd rfl (h3 (f i) (lsN_m.mpr ⟨i, by omega, rfl⟩) (f n) List.mem_cons_self |> fun q => by rw [e, e2] at q; exact q)
      · exact lsN_inj h1 i j (by omega) (by omega) e
theorem lsN_nd {f : Nat → Int} : ∀ {n : Nat}, (∀ i j, i < n → j < n → f i = f j → i = j) → (lsN n f).Nodup
  | 0, _ => List.nodup_nil
  | n + 1, h => by
    rw [lsN_s, List.nodup_append]
    refine ⟨lsN_nd fun i j hi hj e => h i j (by omega) (by omega) e, by simp, fun a ha b hb e => ?_⟩
    obtain ⟨i, hi, rfl⟩ := lsN_m.mp ha
    obtain rfl : b = f n := by simpa using hb
    have := h i n (by omega) (by omega) e
    omega
/-- what is taken out of a list without repeats by its own value -/
theorem erase_flt {l : List Int} {k : Nat} {x : Int} (hnd : l.Nodup) (hk : l[k]? = some x) : l.eraseIdx k = l.filter (fun y => !decide (y = x)) := by
  have hlt : k < l.length := by
    rcases Nat.lt_or_ge k l.length with h | h
    · exact h
    · rw [List.getElem?_eq_none h] at hk; cases hk
  have hx : l[k] = x := by rw [List.getElem?_eq_getElem hlt] at hk; exact Option.some.inj hk
  have e : l = l.take k ++ x :: l.drop (k + 1) := by
    rw [← hx, ← List.drop_eq_getElem_cons hlt, List.take_append_drop]
  have hnd2 := hnd
  rw [e, List.nodup_append] at hnd2
  obtain ⟨-, h2, h3⟩ := hnd2
  rw [List.nodup_cons] at h2
  rw [List.eraseIdx_eq_take_drop_succ]
  conv => rhs; rw [e]
  rw [List.filter_append, List.filter_cons_of_neg (by simp)]
  rw [List.filter_eq_self.mpr (fun a ha => by simpa using h3 a ha x List.mem_cons_self), List.filter_eq_self.mpr (fun a ha => by
    have : a ≠ x := fun q => h2.1 (q ▸ ha)
    simpa using this)]
/-- pigeons -/
theorem nd_len : ∀ (N : Nat) (l : List Int), l.Nodup → (∀ x ∈ l, 0 ≤ x ∧ x < N) → l.length ≤ N
  | 0, l, _, h => by
    cases l with
    | nil => exact Nat.zero_le _
    | cons a r => have := h a List.mem_cons_self; omega
  | N + 1, l, hnd, h => by
    have h1 := nd_len N (l.filter (fun y => !decide (y = (N : Int)))) (hnd.sublist List.filter_sublist) (fun x hx => by
      have hm := List.mem_filter.mp hx
      have hb := h x hm.1
      have hn : x ≠ (N : Int) := by simpa using hm.2
      omega)
    by_cases hN : (N : Int) ∈ l
    · obtain ⟨k, hk⟩ := List.mem_iff_getElem?.mp hN
      rw [← erase_flt hnd hk] at h1
      have := List.length_eraseIdx (l := l) (i := k)
      split at this <;> omega
    · rw [List.filter_eq_self.mpr (fun a ha => by
        have : a ≠ (N : Int) := fun q => hN (q ▸ ha)
        simpa using this)] at h1
      omega
def SL (v : SS) : List Int := lsN (v.1 16).toNat (v.2 17)
def OL (u : SS) : List Int := lsN (u.1 11).toNat (u.2 3)
theorem SL_len (v : SS) : (SL v).length = (v.1 16).toNat := lsN_len _ _
theorem OL_len (u : SS) : (OL u).length = (u.1 11).toNat := lsN_len _ _
theorem SL_c {v w : SS} (h1 : w.1 16 = v.1 16) (h2 : w.2 17 = v.2 17) : SL w = SL v := by unfold SL; rw [h1, h2]
theorem OL_c {v w : SS} (h1 : w.1 11 = v.1 11) (h2 : w.2 3 = v.2 3) : OL w = OL v := by unfold OL; rw [h1, h2]
theorem tk_SL (v : SS) : tk v = ((SL v).map (fun x => v.2 9 x.toNat)).sum := lsN_sum (fun x => v.2 9 x.toNat) (v.2 17) _
theorem ctk_OL (u : SS) : ctk u = ((OL u).map (fun x => u.2 22 x.toNat)).sum := lsN_sum (fun x => u.2 22 x.toNat) (u.2 3) _
/-- one place of the model's store -/
theorem SL_uns {v : SS} {k : Nat} (h : (k : Int) < v.1 16) : SL (unsM v k) = (SL v).eraseIdx k := by
  show lsN (v.1 16 - 1).toNat (shf (v.2 17) k (v.1 16 - 1).toNat) = _
  rw [lsN_shf (by omega)]
  unfold SL
  rw [show (v.1 16 - 1).toNat + 1 = (v.1 16).toNat by omega]
theorem SL_rml {P : Int → Bool} : ∀ (k : Nat) (v : SS), (k : Int) ≤ v.1 16 → SL (rml P k v) = ((SL v).take k).filter (fun x => !P x) ++ (SL v).drop k
  | 0, v, _ => by simp [rml]
  | k + 1, v, h => by
    rw [rml_s]
    have hlt : k < (SL v).length := by rw [SL_len]; omega
    have hx : (SL v)[k] = v.2 17 k := by
      have := lsN_get (n := (v.1 16).toNat) (f := v.2 17) (i := k) (by omega)
      have h2 := List.getElem?_eq_getElem hlt
      unfold SL at h2 ⊢
      rw [this] at h2
      exact (Option.some.inj h2).symm
    rw [List.take_succ_eq_append_getElem hlt, List.filter_append, hx]
    by_cases hp : P (v.2 17 k) = true
    · rw [if_pos hp, SL_rml k _ (by show _ ≤ v.1 16 - 1; omega), SL_uns (by omega), List.eraseIdx_eq_take_drop_succ]
      have hl : ((SL v).take k).length = k := by rw [List.length_take]; omega
      rw [List.take_left' hl, List.drop_left' hl, List.filter_cons_of_neg (by simp [hp])]
      simp
    · rw [if_neg hp, SL_rml k v (by omega), List.filter_cons_of_pos (by simp [hp]), List.drop_eq_getElem_cons hlt, hx]
      simp
theorem SL_rm {P : Int → Bool} {v : SS} (h0 : 0 ≤ v.1 16) : SL (rml P (v.1 16).toNat v) = (SL v).filter (fun x => !P x) := by
  rw [SL_rml _ v (by omega)]
  rw [List.take_of_length_le (by rw [SL_len]; omega), List.drop_eq_nil_of_le (by rw [SL_len]; omega), List.append_nil]
/-- the class's list -/
theorem OL_or {u : SS} {i : Nat} (h : (i : Int) < u.1 11) : OL (orM u i) = (OL u).eraseIdx i := by
  have e : OL (orM u i) = lsN (u.1 11 - 1).toNat (shf (u.2 3) i (u.1 11 - 1).toNat) := by
    refine lsN_c fun j hj => ?_
    have hj2 : j < (u.1 11 - 1).toNat := hj
    rw [orM_3, if_neg (by omega)]
  rw [e, lsN_shf (by omega)]
  unfold OL
  rw [show (u.1 11 - 1).toNat + 1 = (u.1 11).toNat by omega]
theorem OL_oa {u : SS} {p : Int} (I : CI u) : OL (oaM u p) = OL u ++ [p] := by
  have i11 := I.s11
  have e : OL (oaM u p) = lsN ((u.1 11).toNat + 1) (fun j => if (j : Int) = u.1 11 then p else u.2 3 j) := by
    show lsN (u.1 11 + 1).toNat _ = _
    rw [show (u.1 11 + 1).toNat = (u.1 11).toNat + 1 by omega]
    refine lsN_c fun j hj => ?_
    rw [oaM_3 I (by omega)]
  rw [e, lsN_s, if_pos (by omega)]
  unfold OL
  rw [lsN_c (f := fun j : Nat => if (j : Int) = u.1 11 then p else u.2 3 j) (g := u.2 3) (fun i hi => by rw [if_neg (by omega)])]
theorem OL_dr {u : SS} {p : Nat} (hnd : (OL u).Nodup) (h0 : 0 ≤ u.1 11) : OL (drM u p) = (OL u).filter (fun x => !decide (x = (p : Int))) := by
  unfold drM
  by_cases h : 0 ≤ drI u p
  · rw [if_pos h]
    have hb := drI_b u p
    rw [OL_or (by omega)]
    refine erase_flt hnd ?_
    unfold OL
    rw [lsN_get (by omega)]
    have h2 : odP u p (drI u p).toNat = true := fnd_at h
    rw [of_decide_eq_true h2]
  · rw [if_neg h]
    refine (List.filter_eq_self.mpr fun a ha => ?_).symm
    obtain ⟨i, hi, rfl⟩ := lsN_m.mp ha
    have h2 : odP u p i = false := fnd_all (by unfold drI at h; omega) i hi
    have h3 : ¬ u.2 3 i = (p : Int) := of_decide_eq_false h2
    simpa using h3
