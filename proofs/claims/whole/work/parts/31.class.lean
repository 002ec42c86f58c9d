/-! THE CLASS'S CELLS -/
def pgo (x : Int) : Option Nat := if x < 0 then none else some (3000 + x.toNat)
theorem pgr_o (x : Int) : pgr x = vR (pgo x) := by unfold pgr pgo; split <;> rfl
theorem pgo_k (k : Nat) : pgo (k : Int) = some (3000 + k) := by unfold pgo; rw [if_neg (by omega)]; rfl
theorem pgo_n {x : Int} (h : pgo x = none) : x < 0 := by
  unfold pgo at h
  by_cases e : x < 0
  · exact e
  · rw [if_neg e] at h; cases h
theorem pgo_s {x : Int} {n : Nat} (h : pgo x = some n) : 0 ≤ x ∧ n = 3000 + x.toNat := by
  unfold pgo at h
  by_cases e : x < 0
  · rw [if_pos e] at h; cases h
  · rw [if_neg e] at h; cases h; exact ⟨by omega, rfl⟩
theorem mk_cput {u v u' : SS} {g : GH} {n : Nat} {c : AC} (hn : 1000 ≤ n) (h1 : eS u' n = some c) (h2 : ∀ m, 1000 ≤ m → m ≠ n → eS u' m = eS u m) : gup (mk u v g) n c = mk u' v g := by
  funext m
  unfold mk
  by_cases e : m = n
  · subst e
    rw [gup_self, if_neg (by omega), if_neg (by omega), h1]
  · rw [gup_ne e]
    by_cases e1 : m < 100
    · rw [if_pos e1, if_pos e1]
    · rw [if_neg e1, if_neg e1]
      by_cases e2 : m < 1000
      · rw [if_pos e2, if_pos e2]
      · rw [if_neg e2, if_neg e2, h2 m (by omega) e]
theorem mk_c {u v : SS} {g : GH} {n : Nat} (hn : 1000 ≤ n) : mk u v g n = eS u n := by
  unfold mk
  rw [if_neg (by omega), if_neg (by omega)]
def svc (u : SS) (s : Nat) : List AV := [vI (s : Nat), vI (u.2 11 s), vI (u.2 12 s), vI (u.2 13 s), vR (some (2100 + s)), vI (u.2 15 s), vI (u.2 16 s), vI (u.2 17 s), vI (u.2 18 s), vL (u.2 19 s)]
def pgc (u : SS) (k : Nat) : List AV := [vI (k : Nat), vR (some 1001), vI (u.2 22 k), vI (u.2 23 k), vI (u.2 24 k), vI (u.2 25 k)]
theorem eS_s {u : SS} {s : Nat} (hs : s < 100) : eS u (2000 + s) = if (s : Int) < u.1 14 then some (.inl (7, svc u s)) else none := by
  unfold eS svc
  rw [if_neg (by omega), if_pos (by omega), Nat.add_sub_cancel_left, show 2000 + s + 100 = 2100 + s by omega]
theorem eS_a {u : SS} {s : Nat} (hs : s < 900) : eS u (2100 + s) = if (s : Int) < u.1 14 then some (.inr (5, 8, fun p => if p < 8 then vR (some (3000 + (8 * s + p))) else vR none)) else none := by
  unfold eS
  rw [if_neg (by omega), if_neg (by omega), if_pos (by omega), Nat.add_sub_cancel_left]
theorem eS_p {u : SS} {k : Nat} : eS u (3000 + k) = if (k : Int) < 8 * u.1 14 then some (.inl (5, pgc u k)) else none := by
  unfold eS pgc
  rw [if_neg (by omega), if_neg (by omega), if_neg (by omega), Nat.add_sub_cancel_left]
theorem gs_ {u v : SS} {g : GH} {s : Nat} (hs : (s : Int) < u.1 14) (h6 : s < 100) : mk u v g (2000 + s) = some (.inl (7, svc u s)) := by
  rw [mk_c (by omega), eS_s h6, if_pos hs]
theorem gt_ {u v : SS} {g : GH} {s : Nat} (hs : (s : Int) < u.1 14) (h6 : s < 100) : mk u v g (2100 + s) = some (.inr (5, 8, fun p => if p < 8 then vR (some (3000 + (8 * s + p))) else vR none)) := by
  rw [mk_c (by omega), eS_a (by omega), if_pos hs]
theorem gp_ {u v : SS} {g : GH} {k : Nat} (hk : (k : Int) < 8 * u.1 14) : mk u v g (3000 + k) = some (.inl (5, pgc u k)) := by
  rw [mk_c (by omega), eS_p, if_pos hk]
/-- the names of the class's side, one by one -/
theorem nm_c {n : Nat} (h : 1000 ≤ n) : n < 2000 ∨ (∃ s, s < 100 ∧ n = 2000 + s) ∨ (∃ s, s < 900 ∧ n = 2100 + s) ∨ ∃ k, n = 3000 + k := by
  by_cases h1 : n < 2000
  · exact Or.inl h1
  · by_cases h2 : n < 2100
    · exact Or.inr (Or.inl ⟨n - 2000, by omega, by omega⟩)
    · by_cases h3 : n < 3000
      · exact Or.inr (Or.inr (Or.inl ⟨n - 2100, by omega, by omega⟩))
      · exact Or.inr (Or.inr (Or.inr ⟨n - 3000, by omega⟩))
/-- what changes one service's field, or one page's -/
theorem eS_sv {u : SS} {a s m : Nat} {x : Int} (h1 : 11 ≤ a ∧ a ≤ 19) (hm : m ≠ 2000 + s) : eS (stA u a s x) m = eS u m := by
  unfold eS
  by_cases c1 : m < 2000
  · rw [if_pos c1, if_pos c1]
    have e : ∀ b j, b < 11 → (stA u a s x).2 b j = u.2 b j := fun b j hb => by rw [stA_2, if_neg (by omega)]
    split <;> first | rfl | simp only [stA_1, e 0 _ (by decide), e 1 _ (by decide), e 2 _ (by decide), e 3 _ (by decide), e 4 _ (by decide)]
  · rw [if_neg c1, if_neg c1]
    by_cases c2 : m < 2100
    · rw [if_pos c2, if_pos c2]
      have e : ∀ b, (stA u a s x).2 b (m - 2000) = u.2 b (m - 2000) := fun b => by
        rw [stA_2]
        by_cases eb : b = a
        · rw [if_pos eb, if_neg (by omega)]
        · rw [if_neg eb]
      simp only [stA_1, e]
    · rw [if_neg c2, if_neg c2]
      by_cases c3 : m < 3000
      · rw [if_pos c3, if_pos c3]; rfl
      · rw [if_neg c3, if_neg c3]
        have e : ∀ b j, 20 ≤ b → (stA u a s x).2 b j = u.2 b j := fun b j hb => by rw [stA_2, if_neg (by omega)]
        simp only [stA_1, e 22 _ (by decide), e 23 _ (by decide), e 24 _ (by decide), e 25 _ (by decide)]
theorem eS_pv {u : SS} {a p m : Nat} {x : Int} (h1 : 22 ≤ a) (hm : m ≠ 3000 + p) : eS (stA u a p x) m = eS u m := by
  unfold eS
  by_cases c1 : m < 2000
  · rw [if_pos c1, if_pos c1]
    have e : ∀ b j, b < 22 → (stA u a p x).2 b j = u.2 b j := fun b j hb => by rw [stA_2, if_neg (by omega)]
    split <;> first | rfl | simp only [stA_1, e 0 _ (by decide), e 1 _ (by decide), e 2 _ (by decide), e 3 _ (by decide), e 4 _ (by decide)]
  · rw [if_neg c1, if_neg c1]
    by_cases c2 : m < 2100
    · rw [if_pos c2, if_pos c2]
      have e : ∀ b j, b < 22 → (stA u a p x).2 b j = u.2 b j := fun b j hb => by rw [stA_2, if_neg (by omega)]
      simp only [stA_1, e 11 _ (by decide), e 12 _ (by decide), e 13 _ (by decide), e 15 _ (by decide), e 16 _ (by decide), e 17 _ (by decide), e 18 _ (by decide), e 19 _ (by decide)]
    · rw [if_neg c2, if_neg c2]
      by_cases c3 : m < 3000
      · rw [if_pos c3, if_pos c3]; rfl
      · rw [if_neg c3, if_neg c3]
        have e : ∀ b, (stA u a p x).2 b (m - 3000) = u.2 b (m - 3000) := fun b => by
          rw [stA_2]
          by_cases eb : b = a
          · rw [if_pos eb, if_neg (by omega)]
          · rw [if_neg eb]
        simp only [stA_1, e]
/-- what changes one of the plain rows, or one of the plain numbers -/
theorem eS_av {u : SS} {a i m n : Nat} {x : Int} (ha : a < 5) (hn : n = (if a = 0 then 1002 else if a = 1 then 1003 else if a = 2 then 1005 else if a = 3 then 1008 else 1010)) (hm : m ≠ n) : eS (stA u a i x) m = eS u m := by
  have e : ∀ b j, b ≠ a → (stA u a i x).2 b j = u.2 b j := fun b j hb => by rw [stA_2, if_neg hb]
  unfold eS
  by_cases c1 : m < 2000
  · rw [if_pos c1, if_pos c1]
    have ha5 : a = 0 ∨ a = 1 ∨ a = 2 ∨ a = 3 ∨ a = 4 := by omega
    rcases ha5 with rfl | rfl | rfl | rfl | rfl <;> subst hn <;> (split <;> first | rfl | exact absurd rfl hm | simp only [stA_1, e 0 _ (by decide)] | simp only [stA_1, e 1 _ (by decide)] | simp only [stA_1, e 2 _ (by decide)] | simp only [stA_1, e 3 _ (by decide)] | simp only [stA_1, e 4 _ (by decide)])
  · rw [if_neg c1, if_neg c1]
    by_cases c2 : m < 2100
    · rw [if_pos c2, if_pos c2]
      simp only [stA_1, e 11 _ (by omega), e 12 _ (by omega), e 13 _ (by omega), e 15 _ (by omega), e 16 _ (by omega), e 17 _ (by omega), e 18 _ (by omega), e 19 _ (by omega)]
    · rw [if_neg c2, if_neg c2]
      by_cases c3 : m < 3000
      · rw [if_pos c3, if_pos c3]; rfl
      · rw [if_neg c3, if_neg c3]
        simp only [stA_1, e 22 _ (by omega), e 23 _ (by omega), e 24 _ (by omega), e 25 _ (by omega)]
def nS (s : Nat) : Nat := if s < 6 then 1000 else if s = 6 then 1001 else if s = 7 then 1004 else if s = 8 then 1004 else if s = 9 then 1006 else if s < 12 then 1007 else 1011
theorem eS_nv {u : SS} {s m : Nat} {x : Int} (hs : s < 14) (h12 : s ≠ 12) (hm : m ≠ nS s) : eS (stS u s x) m = eS u m := by
  have e : ∀ b, b ≠ s → (stS u s x).1 b = u.1 b := fun b hb => by rw [stS_1, if_neg hb]
  have e2 : (stS u s x).2 = u.2 := rfl
  unfold eS
  by_cases c1 : m < 2000
  · rw [if_pos c1, if_pos c1]
    have h : s = 0 ∨ s = 1 ∨ s = 2 ∨ s = 3 ∨ s = 4 ∨ s = 5 ∨ s = 6 ∨ s = 7 ∨ s = 8 ∨ s = 9 ∨ s = 10 ∨ s = 11 ∨ s = 13 := by omega
    rcases h with rfl | rfl | rfl | rfl | rfl | rfl | rfl | rfl | rfl | rfl | rfl | rfl | rfl <;> (split <;> first | rfl | exact absurd rfl hm)
  · rw [if_neg c1, if_neg c1, e2, e 14 (by omega)]
section CC
variable {k : Kx} {own : String} {cc : ByteArray} {nL : Nat} {pc q tgt : Nat} {lv lv' : List (Nat × AV)} {st st' : List AV} {u v : SS} {g : GH} {ct sl : Nat}
theorem cg_1000_0 {index fin : Nat} {ty : FieldType} (C : CX k own cc nL) (hd : decode cc pc = .ok (.getfield index, 3)) (F : FLk own index 9 0 fin ty) (hq : pc + 3 = q) (kk : EV k q lv (vR (some 1001) :: st) (mk u v g) ct sl) : EV k pc lv (vR (some 1000) :: st) (mk u v g) ct sl := ev_get C hd F hq rfl rfl kk
theorem cg_1000_1 {index fin : Nat} {ty : FieldType} (C : CX k own cc nL) (hd : decode cc pc = .ok (.getfield index, 3)) (F : FLk own index 9 1 fin ty) (hq : pc + 3 = q) (kk : EV k q lv (vR (some 1004) :: st) (mk u v g) ct sl) : EV k pc lv (vR (some 1000) :: st) (mk u v g) ct sl := ev_get C hd F hq rfl rfl kk
theorem cg_1000_2 {index fin : Nat} {ty : FieldType} (C : CX k own cc nL) (hd : decode cc pc = .ok (.getfield index, 3)) (F : FLk own index 9 2 fin ty) (hq : pc + 3 = q) (kk : EV k q lv (vR (some 1006) :: st) (mk u v g) ct sl) : EV k pc lv (vR (some 1000) :: st) (mk u v g) ct sl := ev_get C hd F hq rfl rfl kk
theorem cg_1000_3 {index fin : Nat} {ty : FieldType} (C : CX k own cc nL) (hd : decode cc pc = .ok (.getfield index, 3)) (F : FLk own index 9 3 fin ty) (hq : pc + 3 = q) (kk : EV k q lv (vR (some 1009) :: st) (mk u v g) ct sl) : EV k pc lv (vR (some 1000) :: st) (mk u v g) ct sl := ev_get C hd F hq rfl rfl kk
theorem cg_1000_4 {index fin : Nat} {ty : FieldType} (C : CX k own cc nL) (hd : decode cc pc = .ok (.getfield index, 3)) (F : FLk own index 9 4 fin ty) (hq : pc + 3 = q) (kk : EV k q lv (vR (some 1011) :: st) (mk u v g) ct sl) : EV k pc lv (vR (some 1000) :: st) (mk u v g) ct sl := ev_get C hd F hq rfl rfl kk
theorem cg_1000_5 {index fin : Nat} {ty : FieldType} (C : CX k own cc nL) (hd : decode cc pc = .ok (.getfield index, 3)) (F : FLk own index 9 5 fin ty) (hq : pc + 3 = q) (kk : EV k q lv (vI (u.1 0) :: st) (mk u v g) ct sl) : EV k pc lv (vR (some 1000) :: st) (mk u v g) ct sl := ev_get C hd F hq rfl rfl kk
theorem cp_1000_5 {index : Nat} {ty : FieldType} {x : Int} (C : CX k own cc nL) (hd : decode cc pc = .ok (.putfield index, 3)) (F : FLk own index 9 5 0 ty) (hq : pc + 3 = q) (hf : fitA ty (vI x)) (kk : EV k q lv st (mk (stS u 0 x) v g) ct sl) : EV k pc lv (vI x :: vR (some 1000) :: st) (mk u v g) ct sl := ev_put C hd F hq hf rfl (Nat.le_of_ble_eq_true rfl) (mk_cput (by decide) rfl (fun m _ hm => eS_nv (s := 0) (by decide) (by decide) hm)) kk
theorem cg_1000_6 {index fin : Nat} {ty : FieldType} (C : CX k own cc nL) (hd : decode cc pc = .ok (.getfield index, 3)) (F : FLk own index 9 6 fin ty) (hq : pc + 3 = q) (kk : EV k q lv (vI (u.1 1) :: st) (mk u v g) ct sl) : EV k pc lv (vR (some 1000) :: st) (mk u v g) ct sl := ev_get C hd F hq rfl rfl kk
theorem cp_1000_6 {index : Nat} {ty : FieldType} {x : Int} (C : CX k own cc nL) (hd : decode cc pc = .ok (.putfield index, 3)) (F : FLk own index 9 6 0 ty) (hq : pc + 3 = q) (hf : fitA ty (vI x)) (kk : EV k q lv st (mk (stS u 1 x) v g) ct sl) : EV k pc lv (vI x :: vR (some 1000) :: st) (mk u v g) ct sl := ev_put C hd F hq hf rfl (Nat.le_of_ble_eq_true rfl) (mk_cput (by decide) rfl (fun m _ hm => eS_nv (s := 1) (by decide) (by decide) hm)) kk
theorem cg_1000_7 {index fin : Nat} {ty : FieldType} (C : CX k own cc nL) (hd : decode cc pc = .ok (.getfield index, 3)) (F : FLk own index 9 7 fin ty) (hq : pc + 3 = q) (kk : EV k q lv (vI (u.1 2) :: st) (mk u v g) ct sl) : EV k pc lv (vR (some 1000) :: st) (mk u v g) ct sl := ev_get C hd F hq rfl rfl kk
theorem cp_1000_7 {index : Nat} {ty : FieldType} {x : Int} (C : CX k own cc nL) (hd : decode cc pc = .ok (.putfield index, 3)) (F : FLk own index 9 7 0 ty) (hq : pc + 3 = q) (hf : fitA ty (vI x)) (kk : EV k q lv st (mk (stS u 2 x) v g) ct sl) : EV k pc lv (vI x :: vR (some 1000) :: st) (mk u v g) ct sl := ev_put C hd F hq hf rfl (Nat.le_of_ble_eq_true rfl) (mk_cput (by decide) rfl (fun m _ hm => eS_nv (s := 2) (by decide) (by decide) hm)) kk
theorem cg_1000_8 {index fin : Nat} {ty : FieldType} (C : CX k own cc nL) (hd : decode cc pc = .ok (.getfield index, 3)) (F : FLk own index 9 8 fin ty) (hq : pc + 3 = q) (kk : EV k q lv (vI (u.1 3) :: st) (mk u v g) ct sl) : EV k pc lv (vR (some 1000) :: st) (mk u v g) ct sl := ev_get C hd F hq rfl rfl kk
theorem cp_1000_8 {index : Nat} {ty : FieldType} {x : Int} (C : CX k own cc nL) (hd : decode cc pc = .ok (.putfield index, 3)) (F : FLk own index 9 8 0 ty) (hq : pc + 3 = q) (hf : fitA ty (vI x)) (kk : EV k q lv st (mk (stS u 3 x) v g) ct sl) : EV k pc lv (vI x :: vR (some 1000) :: st) (mk u v g) ct sl := ev_put C hd F hq hf rfl (Nat.le_of_ble_eq_true rfl) (mk_cput (by decide) rfl (fun m _ hm => eS_nv (s := 3) (by decide) (by decide) hm)) kk
theorem cg_1000_9 {index fin : Nat} {ty : FieldType} (C : CX k own cc nL) (hd : decode cc pc = .ok (.getfield index, 3)) (F : FLk own index 9 9 fin ty) (hq : pc + 3 = q) (kk : EV k q lv (vI (u.1 4) :: st) (mk u v g) ct sl) : EV k pc lv (vR (some 1000) :: st) (mk u v g) ct sl := ev_get C hd F hq rfl rfl kk
theorem cp_1000_9 {index : Nat} {ty : FieldType} {x : Int} (C : CX k own cc nL) (hd : decode cc pc = .ok (.putfield index, 3)) (F : FLk own index 9 9 0 ty) (hq : pc + 3 = q) (hf : fitA ty (vI x)) (kk : EV k q lv st (mk (stS u 4 x) v g) ct sl) : EV k pc lv (vI x :: vR (some 1000) :: st) (mk u v g) ct sl := ev_put C hd F hq hf rfl (Nat.le_of_ble_eq_true rfl) (mk_cput (by decide) rfl (fun m _ hm => eS_nv (s := 4) (by decide) (by decide) hm)) kk
theorem cg_1000_10 {index fin : Nat} {ty : FieldType} (C : CX k own cc nL) (hd : decode cc pc = .ok (.getfield index, 3)) (F : FLk own index 9 10 fin ty) (hq : pc + 3 = q) (kk : EV k q lv (vL (u.1 5) :: st) (mk u v g) ct sl) : EV k pc lv (vR (some 1000) :: st) (mk u v g) ct sl := ev_get C hd F hq rfl rfl kk
theorem cp_1000_10 {index : Nat} {ty : FieldType} {x : Int} (C : CX k own cc nL) (hd : decode cc pc = .ok (.putfield index, 3)) (F : FLk own index 9 10 0 ty) (hq : pc + 3 = q) (hf : fitA ty (vL x)) (kk : EV k q lv st (mk (stS u 5 x) v g) ct sl) : EV k pc lv (vL x :: vR (some 1000) :: st) (mk u v g) ct sl := ev_put C hd F hq hf rfl (Nat.le_of_ble_eq_true rfl) (mk_cput (by decide) rfl (fun m _ hm => eS_nv (s := 5) (by decide) (by decide) hm)) kk
theorem cg_1001_0 {index fin : Nat} {ty : FieldType} (C : CX k own cc nL) (hd : decode cc pc = .ok (.getfield index, 3)) (F : FLk own index 4 0 fin ty) (hq : pc + 3 = q) (kk : EV k q lv (vR (some 1002) :: st) (mk u v g) ct sl) : EV k pc lv (vR (some 1001) :: st) (mk u v g) ct sl := ev_get C hd F hq rfl rfl kk
theorem cg_1001_1 {index fin : Nat} {ty : FieldType} (C : CX k own cc nL) (hd : decode cc pc = .ok (.getfield index, 3)) (F : FLk own index 4 1 fin ty) (hq : pc + 3 = q) (kk : EV k q lv (vI (u.1 6) :: st) (mk u v g) ct sl) : EV k pc lv (vR (some 1001) :: st) (mk u v g) ct sl := ev_get C hd F hq rfl rfl kk
theorem cp_1001_1 {index : Nat} {ty : FieldType} {x : Int} (C : CX k own cc nL) (hd : decode cc pc = .ok (.putfield index, 3)) (F : FLk own index 4 1 0 ty) (hq : pc + 3 = q) (hf : fitA ty (vI x)) (kk : EV k q lv st (mk (stS u 6 x) v g) ct sl) : EV k pc lv (vI x :: vR (some 1001) :: st) (mk u v g) ct sl := ev_put C hd F hq hf rfl (Nat.le_of_ble_eq_true rfl) (mk_cput (by decide) rfl (fun m _ hm => eS_nv (s := 6) (by decide) (by decide) hm)) kk
theorem cg_1001_2 {index fin : Nat} {ty : FieldType} (C : CX k own cc nL) (hd : decode cc pc = .ok (.getfield index, 3)) (F : FLk own index 4 2 fin ty) (hq : pc + 3 = q) (kk : EV k q lv (vR (some 1003) :: st) (mk u v g) ct sl) : EV k pc lv (vR (some 1001) :: st) (mk u v g) ct sl := ev_get C hd F hq rfl rfl kk
theorem cg_1004_0 {index fin : Nat} {ty : FieldType} (C : CX k own cc nL) (hd : decode cc pc = .ok (.getfield index, 3)) (F : FLk own index 3 0 fin ty) (hq : pc + 3 = q) (kk : EV k q lv (vR (some 1005) :: st) (mk u v g) ct sl) : EV k pc lv (vR (some 1004) :: st) (mk u v g) ct sl := ev_get C hd F hq rfl rfl kk
theorem cg_1004_1 {index fin : Nat} {ty : FieldType} (C : CX k own cc nL) (hd : decode cc pc = .ok (.getfield index, 3)) (F : FLk own index 3 1 fin ty) (hq : pc + 3 = q) (kk : EV k q lv (vI (u.1 7) :: st) (mk u v g) ct sl) : EV k pc lv (vR (some 1004) :: st) (mk u v g) ct sl := ev_get C hd F hq rfl rfl kk
theorem cp_1004_1 {index : Nat} {ty : FieldType} {x : Int} (C : CX k own cc nL) (hd : decode cc pc = .ok (.putfield index, 3)) (F : FLk own index 3 1 0 ty) (hq : pc + 3 = q) (hf : fitA ty (vI x)) (kk : EV k q lv st (mk (stS u 7 x) v g) ct sl) : EV k pc lv (vI x :: vR (some 1004) :: st) (mk u v g) ct sl := ev_put C hd F hq hf rfl (Nat.le_of_ble_eq_true rfl) (mk_cput (by decide) rfl (fun m _ hm => eS_nv (s := 7) (by decide) (by decide) hm)) kk
theorem cg_1004_2 {index fin : Nat} {ty : FieldType} (C : CX k own cc nL) (hd : decode cc pc = .ok (.getfield index, 3)) (F : FLk own index 3 2 fin ty) (hq : pc + 3 = q) (kk : EV k q lv (vI (u.1 8) :: st) (mk u v g) ct sl) : EV k pc lv (vR (some 1004) :: st) (mk u v g) ct sl := ev_get C hd F hq rfl rfl kk
theorem cp_1004_2 {index : Nat} {ty : FieldType} {x : Int} (C : CX k own cc nL) (hd : decode cc pc = .ok (.putfield index, 3)) (F : FLk own index 3 2 0 ty) (hq : pc + 3 = q) (hf : fitA ty (vI x)) (kk : EV k q lv st (mk (stS u 8 x) v g) ct sl) : EV k pc lv (vI x :: vR (some 1004) :: st) (mk u v g) ct sl := ev_put C hd F hq hf rfl (Nat.le_of_ble_eq_true rfl) (mk_cput (by decide) rfl (fun m _ hm => eS_nv (s := 8) (by decide) (by decide) hm)) kk
theorem cg_1006_0 {index fin : Nat} {ty : FieldType} (C : CX k own cc nL) (hd : decode cc pc = .ok (.getfield index, 3)) (F : FLk own index 8 0 fin ty) (hq : pc + 3 = q) (kk : EV k q lv (vR (some 1007) :: st) (mk u v g) ct sl) : EV k pc lv (vR (some 1006) :: st) (mk u v g) ct sl := ev_get C hd F hq rfl rfl kk
theorem cg_1006_1 {index fin : Nat} {ty : FieldType} (C : CX k own cc nL) (hd : decode cc pc = .ok (.getfield index, 3)) (F : FLk own index 8 1 fin ty) (hq : pc + 3 = q) (kk : EV k q lv (vI (u.1 9) :: st) (mk u v g) ct sl) : EV k pc lv (vR (some 1006) :: st) (mk u v g) ct sl := ev_get C hd F hq rfl rfl kk
theorem cp_1006_1 {index : Nat} {ty : FieldType} {x : Int} (C : CX k own cc nL) (hd : decode cc pc = .ok (.putfield index, 3)) (F : FLk own index 8 1 0 ty) (hq : pc + 3 = q) (hf : fitA ty (vI x)) (kk : EV k q lv st (mk (stS u 9 x) v g) ct sl) : EV k pc lv (vI x :: vR (some 1006) :: st) (mk u v g) ct sl := ev_put C hd F hq hf rfl (Nat.le_of_ble_eq_true rfl) (mk_cput (by decide) rfl (fun m _ hm => eS_nv (s := 9) (by decide) (by decide) hm)) kk
theorem cg_1007_0 {index fin : Nat} {ty : FieldType} (C : CX k own cc nL) (hd : decode cc pc = .ok (.getfield index, 3)) (F : FLk own index 2 0 fin ty) (hq : pc + 3 = q) (kk : EV k q lv (vI (u.1 10) :: st) (mk u v g) ct sl) : EV k pc lv (vR (some 1007) :: st) (mk u v g) ct sl := ev_get C hd F hq rfl rfl kk
theorem cp_1007_0 {index : Nat} {ty : FieldType} {x : Int} (C : CX k own cc nL) (hd : decode cc pc = .ok (.putfield index, 3)) (F : FLk own index 2 0 0 ty) (hq : pc + 3 = q) (hf : fitA ty (vI x)) (kk : EV k q lv st (mk (stS u 10 x) v g) ct sl) : EV k pc lv (vI x :: vR (some 1007) :: st) (mk u v g) ct sl := ev_put C hd F hq hf rfl (Nat.le_of_ble_eq_true rfl) (mk_cput (by decide) rfl (fun m _ hm => eS_nv (s := 10) (by decide) (by decide) hm)) kk
theorem cg_1007_2 {index fin : Nat} {ty : FieldType} (C : CX k own cc nL) (hd : decode cc pc = .ok (.getfield index, 3)) (F : FLk own index 2 2 fin ty) (hq : pc + 3 = q) (kk : EV k q lv (vI (u.1 11) :: st) (mk u v g) ct sl) : EV k pc lv (vR (some 1007) :: st) (mk u v g) ct sl := ev_get C hd F hq rfl rfl kk
theorem cp_1007_2 {index : Nat} {ty : FieldType} {x : Int} (C : CX k own cc nL) (hd : decode cc pc = .ok (.putfield index, 3)) (F : FLk own index 2 2 0 ty) (hq : pc + 3 = q) (hf : fitA ty (vI x)) (kk : EV k q lv st (mk (stS u 11 x) v g) ct sl) : EV k pc lv (vI x :: vR (some 1007) :: st) (mk u v g) ct sl := ev_put C hd F hq hf rfl (Nat.le_of_ble_eq_true rfl) (mk_cput (by decide) rfl (fun m _ hm => eS_nv (s := 11) (by decide) (by decide) hm)) kk
theorem cg_1009_0 {index fin : Nat} {ty : FieldType} (C : CX k own cc nL) (hd : decode cc pc = .ok (.getfield index, 3)) (F : FLk own index 6 0 fin ty) (hq : pc + 3 = q) (kk : EV k q lv (vR (some 1010) :: st) (mk u v g) ct sl) : EV k pc lv (vR (some 1009) :: st) (mk u v g) ct sl := ev_get C hd F hq rfl rfl kk
theorem cg_1011_0 {index fin : Nat} {ty : FieldType} (C : CX k own cc nL) (hd : decode cc pc = .ok (.getfield index, 3)) (F : FLk own index 2 0 fin ty) (hq : pc + 3 = q) (kk : EV k q lv (vI (u.1 13) :: st) (mk u v g) ct sl) : EV k pc lv (vR (some 1011) :: st) (mk u v g) ct sl := ev_get C hd F hq rfl rfl kk
theorem cp_1011_0 {index : Nat} {ty : FieldType} {x : Int} (C : CX k own cc nL) (hd : decode cc pc = .ok (.putfield index, 3)) (F : FLk own index 2 0 0 ty) (hq : pc + 3 = q) (hf : fitA ty (vI x)) (kk : EV k q lv st (mk (stS u 13 x) v g) ct sl) : EV k pc lv (vI x :: vR (some 1011) :: st) (mk u v g) ct sl := ev_put C hd F hq hf rfl (Nat.le_of_ble_eq_true rfl) (mk_cput (by decide) rfl (fun m _ hm => eS_nv (s := 13) (by decide) (by decide) hm)) kk
theorem cg_1011_2 {index fin : Nat} {ty : FieldType} (C : CX k own cc nL) (hd : decode cc pc = .ok (.getfield index, 3)) (F : FLk own index 2 2 fin ty) (hq : pc + 3 = q) (kk : EV k q lv (vI (u.1 14) :: st) (mk u v g) ct sl) : EV k pc lv (vR (some 1011) :: st) (mk u v g) ct sl := ev_get C hd F hq rfl rfl kk
theorem cd_1007 {index fin : Nat} {ty : FieldType} (C : CX k own cc nL) (hd : decode cc pc = .ok (.getfield index, 3)) (F : FLk own index 2 1 fin ty) (hq : pc + 3 = q) (hc : u.1 12 ≠ 0) (kk : EV k q lv (vR (some 1008) :: st) (mk u v g) ct sl) : EV k pc lv (vR (some 1007) :: st) (mk u v g) ct sl := ev_get C hd F hq (fs := [vI (u.1 10), vR (some (if u.1 12 = 0 then 1013 else 1008)), vI (u.1 11)]) rfl (show some (vR (some (if u.1 12 = 0 then 1013 else 1008))) = _ by rw [if_neg hc]) kk
theorem cz_1007 {index fin : Nat} {ty : FieldType} (C : CX k own cc nL) (hd : decode cc pc = .ok (.getfield index, 3)) (F : FLk own index 2 1 fin ty) (hq : pc + 3 = q) (hc : u.1 12 = 0) (kk : EV k q lv (vR (some 1013) :: st) (mk u v g) ct sl) : EV k pc lv (vR (some 1007) :: st) (mk u v g) ct sl := ev_get C hd F hq (fs := [vI (u.1 10), vR (some (if u.1 12 = 0 then 1013 else 1008)), vI (u.1 11)]) rfl (show some (vR (some (if u.1 12 = 0 then 1013 else 1008))) = _ by rw [if_pos hc]) kk
theorem cd_1011 {index fin : Nat} {ty : FieldType} (C : CX k own cc nL) (hd : decode cc pc = .ok (.getfield index, 3)) (F : FLk own index 2 1 fin ty) (hq : pc + 3 = q) (hc : u.1 15 ≠ 0) (kk : EV k q lv (vR (some 1012) :: st) (mk u v g) ct sl) : EV k pc lv (vR (some 1011) :: st) (mk u v g) ct sl := ev_get C hd F hq (fs := [vI (u.1 13), vR (some (if u.1 15 = 0 then 1013 else 1012)), vI (u.1 14)]) rfl (show some (vR (some (if u.1 15 = 0 then 1013 else 1012))) = _ by rw [if_neg hc]) kk
theorem cz_1011 {index fin : Nat} {ty : FieldType} (C : CX k own cc nL) (hd : decode cc pc = .ok (.getfield index, 3)) (F : FLk own index 2 1 fin ty) (hq : pc + 3 = q) (hc : u.1 15 = 0) (kk : EV k q lv (vR (some 1013) :: st) (mk u v g) ct sl) : EV k pc lv (vR (some 1011) :: st) (mk u v g) ct sl := ev_get C hd F hq (fs := [vI (u.1 13), vR (some (if u.1 15 = 0 then 1013 else 1012)), vI (u.1 14)]) rfl (show some (vR (some (if u.1 15 = 0 then 1013 else 1012))) = _ by rw [if_pos hc]) kk
theorem gd_1008 (h : u.1 12 ≠ 0) : mk u v g 1008 = some (.inr (6, (u.1 12).toNat, fun j => pgr (u.2 3 j))) := by show (if u.1 12 = 0 then none else _) = _; rw [if_neg h]
theorem gd_1012 (h : u.1 15 ≠ 0) : mk u v g 1012 = some (.inr (6, (u.1 15).toNat, fun j => if (j : Int) < u.1 14 then vR (some (2000 + j)) else vR none)) := by show (if u.1 15 = 0 then none else _) = _; rw [if_neg h]
theorem cl_1002 {i : Int} (C : CX k own cc nL) (hd : decode cc pc = .ok (.iaload, 1)) (hq : pc + 1 = q) (hi : 0 ≤ i ∧ i < 2048) (kk : EV k q lv (vI (u.2 0 i.toNat) :: st) (mk u v g) ct sl) : EV k pc lv (vI i :: vR (some 1002) :: st) (mk u v g) ct sl := ev_iald C hd hq (n := 1002) (len := 2048) (f := fun j => vI (u.2 0 j)) rfl (by unfold rg; omega) hi.1 (by have := hi.2; omega) kk
theorem cs_1002 {i x : Int} (C : CX k own cc nL) (hd : decode cc pc = .ok (.iastore, 1)) (hq : pc + 1 = q) (hi : 0 ≤ i ∧ i < 2048) (kk : EV k q lv st (mk (stA u 0 i.toNat x) v g) ct sl) : EV k pc lv (vI x :: vI i :: vR (some 1002) :: st) (mk u v g) ct sl := ev_iast C hd hq (n := 1002) (len := 2048) (f := fun j => vI (u.2 0 j)) rfl (by unfold rg; omega) hi.1 (by have := hi.2; omega) (mk_cput (by decide) (congrArg (fun f => some (Sum.inr (0, 2048, f))) (stA_self (v := u) vI)) (fun m _ hm => eS_av (n := 1002) (by decide) rfl hm)) kk
theorem cl_1003 {i : Int} (C : CX k own cc nL) (hd : decode cc pc = .ok (.caload, 1)) (hq : pc + 1 = q) (hi : 0 ≤ i ∧ i < 48) (kk : EV k q lv (vI (u.2 1 i.toNat) :: st) (mk u v g) ct sl) : EV k pc lv (vI i :: vR (some 1003) :: st) (mk u v g) ct sl := ev_cald C hd hq (n := 1003) (len := 48) (f := fun j => vI (u.2 1 j)) rfl (by unfold rg; omega) hi.1 (by have := hi.2; omega) kk
theorem cs_1003 {i x : Int} (C : CX k own cc nL) (hd : decode cc pc = .ok (.castore, 1)) (hq : pc + 1 = q) (hx : 0 ≤ x ∧ x < 65536) (hi : 0 ≤ i ∧ i < 48) (kk : EV k q lv st (mk (stA u 1 i.toNat x) v g) ct sl) : EV k pc lv (vI x :: vI i :: vR (some 1003) :: st) (mk u v g) ct sl := ev_cast C hd hq hx (n := 1003) (len := 48) (f := fun j => vI (u.2 1 j)) rfl (by unfold rg; omega) hi.1 (by have := hi.2; omega) (mk_cput (by decide) (congrArg (fun f => some (Sum.inr (3, 48, f))) (stA_self (v := u) vI)) (fun m _ hm => eS_av (n := 1003) (by decide) rfl hm)) kk
theorem cl_1010 {i : Int} (C : CX k own cc nL) (hd : decode cc pc = .ok (.iaload, 1)) (hq : pc + 1 = q) (hi : 0 ≤ i ∧ i < 4) (kk : EV k q lv (vI (u.2 4 i.toNat) :: st) (mk u v g) ct sl) : EV k pc lv (vI i :: vR (some 1010) :: st) (mk u v g) ct sl := ev_iald C hd hq (n := 1010) (len := 4) (f := fun j => vI (u.2 4 j)) rfl (by unfold rg; omega) hi.1 (by have := hi.2; omega) kk
theorem cs_1010 {i x : Int} (C : CX k own cc nL) (hd : decode cc pc = .ok (.iastore, 1)) (hq : pc + 1 = q) (hi : 0 ≤ i ∧ i < 4) (kk : EV k q lv st (mk (stA u 4 i.toNat x) v g) ct sl) : EV k pc lv (vI x :: vI i :: vR (some 1010) :: st) (mk u v g) ct sl := ev_iast C hd hq (n := 1010) (len := 4) (f := fun j => vI (u.2 4 j)) rfl (by unfold rg; omega) hi.1 (by have := hi.2; omega) (mk_cput (by decide) (congrArg (fun f => some (Sum.inr (0, 4, f))) (stA_self (v := u) vI)) (fun m _ hm => eS_av (n := 1010) (by decide) rfl hm)) kk
theorem cl_1005 {i : Int} (C : CX k own cc nL) (hd : decode cc pc = .ok (.aaload, 1)) (hq : pc + 1 = q) (hi : 0 ≤ i ∧ i < 16) (kk : EV k q lv (vR (pgo (u.2 2 i.toNat)) :: st) (mk u v g) ct sl) : EV k pc lv (vI i :: vR (some 1005) :: st) (mk u v g) ct sl := ev_aald C hd hq (Or.inl rfl) (n := 1005) (len := 16) (f := fun j => pgr (u.2 2 j)) rfl (by unfold rg; omega) hi.1 (by have := hi.2; omega) (ev_eqS (congrArg (· :: st) (pgr_o _)) kk)
theorem stA_pgr {a i : Nat} {x : Int} {w : AV} (h : pgr x = w) : (fun j => pgr ((stA u a i x).2 a j)) = vset (fun j => pgr (u.2 a j)) i w := by rw [← h]; exact stA_self pgr
theorem cs_1005N {i : Int} (C : CX k own cc nL) (hd : decode cc pc = .ok (.aastore, 1)) (hq : pc + 1 = q) (hi : 0 ≤ i ∧ i < 16) (kk : EV k q lv st (mk (stA u 2 i.toNat (-1)) v g) ct sl) : EV k pc lv (vR none :: vI i :: vR (some 1005) :: st) (mk u v g) ct sl := ev_aastN C hd hq (Or.inl rfl) (n := 1005) (len := 16) (f := fun j => pgr (u.2 2 j)) rfl (by unfold rg; omega) hi.1 (by have := hi.2; omega) (mk_cput (by decide) (congrArg (fun f => some (Sum.inr (5, 16, f))) (stA_pgr rfl)) (fun m _ hm => eS_av (n := 1005) (by decide) rfl hm)) kk
theorem cs_1005 {i : Int} {p : Nat} (C : CX k own cc nL) (hd : decode cc pc = .ok (.aastore, 1)) (hq : pc + 1 = q) (hp : (p : Int) < 8 * u.1 14) (hi : 0 ≤ i ∧ i < 16) (kk : EV k q lv st (mk (stA u 2 i.toNat (p : Int)) v g) ct sl) : EV k pc lv (vR (some (3000 + p)) :: vI i :: vR (some 1005) :: st) (mk u v g) ct sl := ev_aast C hd hq (Or.inl rfl) vcX2 (Or.inl rfl) (n := 1005) (len := 16) (f := fun j => pgr (u.2 2 j)) rfl (gp_ hp) (by unfold rg; omega) hi.1 (by have := hi.2; omega) (mk_cput (by decide) (congrArg (fun f => some (Sum.inr (5, 16, f))) (stA_pgr (by rw [pgr_o, pgo_k]))) (fun m _ hm => eS_av (n := 1005) (by decide) rfl hm)) kk
theorem cl_2100 {s : Nat} {i : Int} (C : CX k own cc nL) (hd : decode cc pc = .ok (.aaload, 1)) (hq : pc + 1 = q) (hs : (s : Int) < u.1 14) (h6 : s < 100) (hi : 0 ≤ i ∧ i < 8) (kk : EV k q lv (vR (some (3000 + (8 * s + i.toNat))) :: st) (mk u v g) ct sl) : EV k pc lv (vI i :: vR (some (2100 + s)) :: st) (mk u v g) ct sl := ev_aald C hd hq (Or.inl rfl) (gt_ hs h6) (by unfold rg; omega) hi.1 (by have := hi.2; omega) (ev_eqS (congrArg (· :: st) (if_pos (by omega))) kk)
theorem cn_2100 {s : Nat} (C : CX k own cc nL) (hd : decode cc pc = .ok (.arraylength, 1)) (hq : pc + 1 = q) (hs : (s : Int) < u.1 14) (h6 : s < 100) (kk : EV k q lv (vI 8 :: st) (mk u v g) ct sl) : EV k pc lv (vR (some (2100 + s)) :: st) (mk u v g) ct sl := ev_alen C hd hq (gt_ hs h6) kk
theorem cn_1002 (C : CX k own cc nL) (hd : decode cc pc = .ok (.arraylength, 1)) (hq : pc + 1 = q) (kk : EV k q lv (vI 2048 :: st) (mk u v g) ct sl) : EV k pc lv (vR (some 1002) :: st) (mk u v g) ct sl := ev_alen C hd hq (n := 1002) (len := 2048) rfl kk
theorem cn_1003 (C : CX k own cc nL) (hd : decode cc pc = .ok (.arraylength, 1)) (hq : pc + 1 = q) (kk : EV k q lv (vI 48 :: st) (mk u v g) ct sl) : EV k pc lv (vR (some 1003) :: st) (mk u v g) ct sl := ev_alen C hd hq (n := 1003) (len := 48) rfl kk
theorem cn_1005 (C : CX k own cc nL) (hd : decode cc pc = .ok (.arraylength, 1)) (hq : pc + 1 = q) (kk : EV k q lv (vI 16 :: st) (mk u v g) ct sl) : EV k pc lv (vR (some 1005) :: st) (mk u v g) ct sl := ev_alen C hd hq (n := 1005) (len := 16) rfl kk
theorem cn_1010 (C : CX k own cc nL) (hd : decode cc pc = .ok (.arraylength, 1)) (hq : pc + 1 = q) (kk : EV k q lv (vI 4 :: st) (mk u v g) ct sl) : EV k pc lv (vR (some 1010) :: st) (mk u v g) ct sl := ev_alen C hd hq (n := 1010) (len := 4) rfl kk
theorem cgs_0 {s index fin : Nat} {ty : FieldType} (C : CX k own cc nL) (hd : decode cc pc = .ok (.getfield index, 3)) (F : FLk own index 7 0 fin ty) (hq : pc + 3 = q) (hs : (s : Int) < u.1 14) (h6 : s < 100) (kk : EV k q lv (vI (s : Nat) :: st) (mk u v g) ct sl) : EV k pc lv (vR (some (2000 + s)) :: st) (mk u v g) ct sl := ev_get C hd F hq (gs_ hs h6) rfl kk
theorem cgs_1 {s index fin : Nat} {ty : FieldType} (C : CX k own cc nL) (hd : decode cc pc = .ok (.getfield index, 3)) (F : FLk own index 7 1 fin ty) (hq : pc + 3 = q) (hs : (s : Int) < u.1 14) (h6 : s < 100) (kk : EV k q lv (vI (u.2 11 s) :: st) (mk u v g) ct sl) : EV k pc lv (vR (some (2000 + s)) :: st) (mk u v g) ct sl := ev_get C hd F hq (gs_ hs h6) rfl kk
theorem cgs_2 {s index fin : Nat} {ty : FieldType} (C : CX k own cc nL) (hd : decode cc pc = .ok (.getfield index, 3)) (F : FLk own index 7 2 fin ty) (hq : pc + 3 = q) (hs : (s : Int) < u.1 14) (h6 : s < 100) (kk : EV k q lv (vI (u.2 12 s) :: st) (mk u v g) ct sl) : EV k pc lv (vR (some (2000 + s)) :: st) (mk u v g) ct sl := ev_get C hd F hq (gs_ hs h6) rfl kk
theorem cgs_3 {s index fin : Nat} {ty : FieldType} (C : CX k own cc nL) (hd : decode cc pc = .ok (.getfield index, 3)) (F : FLk own index 7 3 fin ty) (hq : pc + 3 = q) (hs : (s : Int) < u.1 14) (h6 : s < 100) (kk : EV k q lv (vI (u.2 13 s) :: st) (mk u v g) ct sl) : EV k pc lv (vR (some (2000 + s)) :: st) (mk u v g) ct sl := ev_get C hd F hq (gs_ hs h6) rfl kk
theorem cgs_4 {s index fin : Nat} {ty : FieldType} (C : CX k own cc nL) (hd : decode cc pc = .ok (.getfield index, 3)) (F : FLk own index 7 4 fin ty) (hq : pc + 3 = q) (hs : (s : Int) < u.1 14) (h6 : s < 100) (kk : EV k q lv (vR (some (2100 + s)) :: st) (mk u v g) ct sl) : EV k pc lv (vR (some (2000 + s)) :: st) (mk u v g) ct sl := ev_get C hd F hq (gs_ hs h6) rfl kk
theorem cgs_5 {s index fin : Nat} {ty : FieldType} (C : CX k own cc nL) (hd : decode cc pc = .ok (.getfield index, 3)) (F : FLk own index 7 5 fin ty) (hq : pc + 3 = q) (hs : (s : Int) < u.1 14) (h6 : s < 100) (kk : EV k q lv (vI (u.2 15 s) :: st) (mk u v g) ct sl) : EV k pc lv (vR (some (2000 + s)) :: st) (mk u v g) ct sl := ev_get C hd F hq (gs_ hs h6) rfl kk
theorem cps_5 {s index : Nat} {ty : FieldType} {x : Int} (C : CX k own cc nL) (hd : decode cc pc = .ok (.putfield index, 3)) (F : FLk own index 7 5 0 ty) (hq : pc + 3 = q) (hf : fitA ty (vI x)) (hs : (s : Int) < u.1 14) (h6 : s < 100) (kk : EV k q lv st (mk (stA u 15 s x) v g) ct sl) : EV k pc lv (vI x :: vR (some (2000 + s)) :: st) (mk u v g) ct sl := ev_put C hd F hq hf (gs_ hs h6) (Nat.le_of_ble_eq_true rfl) (mk_cput (by omega) (by rw [eS_s h6, if_pos (by exact hs)]; unfold svc; simp [stA_2]) (fun m _ hm => eS_sv (by decide) hm)) kk
theorem cgs_6 {s index fin : Nat} {ty : FieldType} (C : CX k own cc nL) (hd : decode cc pc = .ok (.getfield index, 3)) (F : FLk own index 7 6 fin ty) (hq : pc + 3 = q) (hs : (s : Int) < u.1 14) (h6 : s < 100) (kk : EV k q lv (vI (u.2 16 s) :: st) (mk u v g) ct sl) : EV k pc lv (vR (some (2000 + s)) :: st) (mk u v g) ct sl := ev_get C hd F hq (gs_ hs h6) rfl kk
theorem cps_6 {s index : Nat} {ty : FieldType} {x : Int} (C : CX k own cc nL) (hd : decode cc pc = .ok (.putfield index, 3)) (F : FLk own index 7 6 0 ty) (hq : pc + 3 = q) (hf : fitA ty (vI x)) (hs : (s : Int) < u.1 14) (h6 : s < 100) (kk : EV k q lv st (mk (stA u 16 s x) v g) ct sl) : EV k pc lv (vI x :: vR (some (2000 + s)) :: st) (mk u v g) ct sl := ev_put C hd F hq hf (gs_ hs h6) (Nat.le_of_ble_eq_true rfl) (mk_cput (by omega) (by rw [eS_s h6, if_pos (by exact hs)]; unfold svc; simp [stA_2]) (fun m _ hm => eS_sv (by decide) hm)) kk
theorem cgs_7 {s index fin : Nat} {ty : FieldType} (C : CX k own cc nL) (hd : decode cc pc = .ok (.getfield index, 3)) (F : FLk own index 7 7 fin ty) (hq : pc + 3 = q) (hs : (s : Int) < u.1 14) (h6 : s < 100) (kk : EV k q lv (vI (u.2 17 s) :: st) (mk u v g) ct sl) : EV k pc lv (vR (some (2000 + s)) :: st) (mk u v g) ct sl := ev_get C hd F hq (gs_ hs h6) rfl kk
theorem cps_7 {s index : Nat} {ty : FieldType} {x : Int} (C : CX k own cc nL) (hd : decode cc pc = .ok (.putfield index, 3)) (F : FLk own index 7 7 0 ty) (hq : pc + 3 = q) (hf : fitA ty (vI x)) (hs : (s : Int) < u.1 14) (h6 : s < 100) (kk : EV k q lv st (mk (stA u 17 s x) v g) ct sl) : EV k pc lv (vI x :: vR (some (2000 + s)) :: st) (mk u v g) ct sl := ev_put C hd F hq hf (gs_ hs h6) (Nat.le_of_ble_eq_true rfl) (mk_cput (by omega) (by rw [eS_s h6, if_pos (by exact hs)]; unfold svc; simp [stA_2]) (fun m _ hm => eS_sv (by decide) hm)) kk
theorem cgs_8 {s index fin : Nat} {ty : FieldType} (C : CX k own cc nL) (hd : decode cc pc = .ok (.getfield index, 3)) (F : FLk own index 7 8 fin ty) (hq : pc + 3 = q) (hs : (s : Int) < u.1 14) (h6 : s < 100) (kk : EV k q lv (vI (u.2 18 s) :: st) (mk u v g) ct sl) : EV k pc lv (vR (some (2000 + s)) :: st) (mk u v g) ct sl := ev_get C hd F hq (gs_ hs h6) rfl kk
theorem cps_8 {s index : Nat} {ty : FieldType} {x : Int} (C : CX k own cc nL) (hd : decode cc pc = .ok (.putfield index, 3)) (F : FLk own index 7 8 0 ty) (hq : pc + 3 = q) (hf : fitA ty (vI x)) (hs : (s : Int) < u.1 14) (h6 : s < 100) (kk : EV k q lv st (mk (stA u 18 s x) v g) ct sl) : EV k pc lv (vI x :: vR (some (2000 + s)) :: st) (mk u v g) ct sl := ev_put C hd F hq hf (gs_ hs h6) (Nat.le_of_ble_eq_true rfl) (mk_cput (by omega) (by rw [eS_s h6, if_pos (by exact hs)]; unfold svc; simp [stA_2]) (fun m _ hm => eS_sv (by decide) hm)) kk
theorem cgs_9 {s index fin : Nat} {ty : FieldType} (C : CX k own cc nL) (hd : decode cc pc = .ok (.getfield index, 3)) (F : FLk own index 7 9 fin ty) (hq : pc + 3 = q) (hs : (s : Int) < u.1 14) (h6 : s < 100) (kk : EV k q lv (vL (u.2 19 s) :: st) (mk u v g) ct sl) : EV k pc lv (vR (some (2000 + s)) :: st) (mk u v g) ct sl := ev_get C hd F hq (gs_ hs h6) rfl kk
theorem cps_9 {s index : Nat} {ty : FieldType} {x : Int} (C : CX k own cc nL) (hd : decode cc pc = .ok (.putfield index, 3)) (F : FLk own index 7 9 0 ty) (hq : pc + 3 = q) (hf : fitA ty (vL x)) (hs : (s : Int) < u.1 14) (h6 : s < 100) (kk : EV k q lv st (mk (stA u 19 s x) v g) ct sl) : EV k pc lv (vL x :: vR (some (2000 + s)) :: st) (mk u v g) ct sl := ev_put C hd F hq hf (gs_ hs h6) (Nat.le_of_ble_eq_true rfl) (mk_cput (by omega) (by rw [eS_s h6, if_pos (by exact hs)]; unfold svc; simp [stA_2]) (fun m _ hm => eS_sv (by decide) hm)) kk
theorem cgp_0 {p index fin : Nat} {ty : FieldType} (C : CX k own cc nL) (hd : decode cc pc = .ok (.getfield index, 3)) (F : FLk own index 5 0 fin ty) (hq : pc + 3 = q) (hp : (p : Int) < 8 * u.1 14) (kk : EV k q lv (vI (p : Nat) :: st) (mk u v g) ct sl) : EV k pc lv (vR (some (3000 + p)) :: st) (mk u v g) ct sl := ev_get C hd F hq (gp_ hp) rfl kk
theorem cgp_1 {p index fin : Nat} {ty : FieldType} (C : CX k own cc nL) (hd : decode cc pc = .ok (.getfield index, 3)) (F : FLk own index 5 1 fin ty) (hq : pc + 3 = q) (hp : (p : Int) < 8 * u.1 14) (kk : EV k q lv (vR (some 1001) :: st) (mk u v g) ct sl) : EV k pc lv (vR (some (3000 + p)) :: st) (mk u v g) ct sl := ev_get C hd F hq (gp_ hp) rfl kk
theorem cgp_2 {p index fin : Nat} {ty : FieldType} (C : CX k own cc nL) (hd : decode cc pc = .ok (.getfield index, 3)) (F : FLk own index 5 2 fin ty) (hq : pc + 3 = q) (hp : (p : Int) < 8 * u.1 14) (kk : EV k q lv (vI (u.2 22 p) :: st) (mk u v g) ct sl) : EV k pc lv (vR (some (3000 + p)) :: st) (mk u v g) ct sl := ev_get C hd F hq (gp_ hp) rfl kk
theorem cpp_2 {p index : Nat} {ty : FieldType} {x : Int} (C : CX k own cc nL) (hd : decode cc pc = .ok (.putfield index, 3)) (F : FLk own index 5 2 0 ty) (hq : pc + 3 = q) (hf : fitA ty (vI x)) (hp : (p : Int) < 8 * u.1 14) (kk : EV k q lv st (mk (stA u 22 p x) v g) ct sl) : EV k pc lv (vI x :: vR (some (3000 + p)) :: st) (mk u v g) ct sl := ev_put C hd F hq hf (gp_ hp) (Nat.le_of_ble_eq_true rfl) (mk_cput (by omega) (by rw [eS_p, if_pos (by exact hp)]; unfold pgc; simp [stA_2]) (fun m _ hm => eS_pv (by decide) hm)) kk
theorem cgp_3 {p index fin : Nat} {ty : FieldType} (C : CX k own cc nL) (hd : decode cc pc = .ok (.getfield index, 3)) (F : FLk own index 5 3 fin ty) (hq : pc + 3 = q) (hp : (p : Int) < 8 * u.1 14) (kk : EV k q lv (vI (u.2 23 p) :: st) (mk u v g) ct sl) : EV k pc lv (vR (some (3000 + p)) :: st) (mk u v g) ct sl := ev_get C hd F hq (gp_ hp) rfl kk
theorem cpp_3 {p index : Nat} {ty : FieldType} {x : Int} (C : CX k own cc nL) (hd : decode cc pc = .ok (.putfield index, 3)) (F : FLk own index 5 3 0 ty) (hq : pc + 3 = q) (hf : fitA ty (vI x)) (hp : (p : Int) < 8 * u.1 14) (kk : EV k q lv st (mk (stA u 23 p x) v g) ct sl) : EV k pc lv (vI x :: vR (some (3000 + p)) :: st) (mk u v g) ct sl := ev_put C hd F hq hf (gp_ hp) (Nat.le_of_ble_eq_true rfl) (mk_cput (by omega) (by rw [eS_p, if_pos (by exact hp)]; unfold pgc; simp [stA_2]) (fun m _ hm => eS_pv (by decide) hm)) kk
theorem cgp_4 {p index fin : Nat} {ty : FieldType} (C : CX k own cc nL) (hd : decode cc pc = .ok (.getfield index, 3)) (F : FLk own index 5 4 fin ty) (hq : pc + 3 = q) (hp : (p : Int) < 8 * u.1 14) (kk : EV k q lv (vI (u.2 24 p) :: st) (mk u v g) ct sl) : EV k pc lv (vR (some (3000 + p)) :: st) (mk u v g) ct sl := ev_get C hd F hq (gp_ hp) rfl kk
theorem cpp_4 {p index : Nat} {ty : FieldType} {x : Int} (C : CX k own cc nL) (hd : decode cc pc = .ok (.putfield index, 3)) (F : FLk own index 5 4 0 ty) (hq : pc + 3 = q) (hf : fitA ty (vI x)) (hp : (p : Int) < 8 * u.1 14) (kk : EV k q lv st (mk (stA u 24 p x) v g) ct sl) : EV k pc lv (vI x :: vR (some (3000 + p)) :: st) (mk u v g) ct sl := ev_put C hd F hq hf (gp_ hp) (Nat.le_of_ble_eq_true rfl) (mk_cput (by omega) (by rw [eS_p, if_pos (by exact hp)]; unfold pgc; simp [stA_2]) (fun m _ hm => eS_pv (by decide) hm)) kk
theorem cgp_5 {p index fin : Nat} {ty : FieldType} (C : CX k own cc nL) (hd : decode cc pc = .ok (.getfield index, 3)) (F : FLk own index 5 5 fin ty) (hq : pc + 3 = q) (hp : (p : Int) < 8 * u.1 14) (kk : EV k q lv (vI (u.2 25 p) :: st) (mk u v g) ct sl) : EV k pc lv (vR (some (3000 + p)) :: st) (mk u v g) ct sl := ev_get C hd F hq (gp_ hp) rfl kk
theorem cpp_5 {p index : Nat} {ty : FieldType} {x : Int} (C : CX k own cc nL) (hd : decode cc pc = .ok (.putfield index, 3)) (F : FLk own index 5 5 0 ty) (hq : pc + 3 = q) (hf : fitA ty (vI x)) (hp : (p : Int) < 8 * u.1 14) (kk : EV k q lv st (mk (stA u 25 p x) v g) ct sl) : EV k pc lv (vI x :: vR (some (3000 + p)) :: st) (mk u v g) ct sl := ev_put C hd F hq hf (gp_ hp) (Nat.le_of_ble_eq_true rfl) (mk_cput (by omega) (by rw [eS_p, if_pos (by exact hp)]; unfold pgc; simp [stA_2]) (fun m _ hm => eS_pv (by decide) hm)) kk
end CC
