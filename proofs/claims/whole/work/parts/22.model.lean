/-! THE MODEL: its start -/
theorem con_k {y : MethodName} {cc : ByteArray} {nL : Nat} {ret : Option FieldType} {lev mc ms : Nat} {nw : Nat → Prop} {av : List AV} {G : GH} {r : Rs} {lv : List (Nat × AV)} (hy : plainName y.cls = true) (hnw : ¬ nw 1013 ∧ ¬ nw 500 ∧ ¬ nw 1014) (hlen : ∀ ad, (lg_sl (av.map (cv ad))).length ≤ nL) (hlv : ∀ ad, lv_args 0 (av.map (cv ad)) = cvl ad lv) (hlo : lv.map Prod.snd = av)
    (body : ∀ k : Kx, CX k y.cls cc nL → (kmeth k).sig.returnType = ret → (kmeth k).name = y.name → klev k = lev → kmc k = mc → kms k = ms → knw k = nw → kPo k = PoR r → kPx k = PxR r → (∀ x ∈ (kc k).exceptionTable.toList, False) → EV k 0 lv [] G 0 0) : Cn y (wsy y cc nL ret) lev mc ms nw av G r :=
  con_i hy hnw hlen hlv (fun q hq => by rw [← hlo]; exact List.mem_map_of_mem hq) (fun k C hr hn _ h1 h2 h3 hw h4 h5 h6 => body k C hr hn h1 h2 h3 hw h4 h5 h6)
def mI (fs : List AV) (K : Nat) (u v : SS) (g : GH) : GH := fun n => if n = 0 then some (.inl (10, fs)) else if n < 100 then (if n ≤ K then mA v.2 n else none) else if n < 1000 then g n else eS u n
theorem mI_put {fs fs' : List AV} {K : Nat} {u v : SS} {g : GH} : gup (mI fs K u v g) 0 (.inl (10, fs')) = mI fs' K u v g := by
  funext m
  by_cases e : m = 0
  · subst e; rw [gup_self]; rfl
  · rw [gup_ne e]; unfold mI; rw [if_neg e, if_neg e]
theorem mI_new {fs : List AV} {K j : Nat} {u v : SS} {g : GH} {c : AC} (h0 : j ≠ 0) (hj : j < 100) (h1 : mA v.2 j = some c) (hK : K < j) (h2 : ∀ m, m < j → K < m → mA v.2 m = none) : gup (mI fs K u v g) j c = mI fs j u v g := by
  funext m
  by_cases e : m = j
  · subst e
    rw [gup_self]
    unfold mI
    rw [if_neg h0, if_pos hj, if_pos (Nat.le_refl _), h1]
  · rw [gup_ne e]
    unfold mI
    by_cases e0 : m = 0
    · rw [if_pos e0, if_pos e0]
    · rw [if_neg e0, if_neg e0]
      by_cases e1 : m < 100
      · rw [if_pos e1, if_pos e1]
        by_cases e2 : m ≤ K
        · rw [if_pos e2, if_pos (by omega)]
        · rw [if_neg e2]
          by_cases e3 : m ≤ j
          · rw [if_pos e3, h2 m (by omega) (by omega)]
          · rw [if_neg e3]
      · rw [if_neg e1, if_neg e1]
theorem mI_12 {fs : List AV} {K i : Nat} {u v : SS} {g : GH} {x : Int} (hK : 12 ≤ K) : gup (mI fs K u v g) 12 (.inr (0, 16, vset (fun j => vI (v.2 12 j)) i (vI x))) = mI fs K u (stA v 12 i x) g := by
  funext m
  by_cases e : m = 12
  · subst e
    rw [gup_self]
    unfold mI
    rw [if_neg (by decide), if_pos (by decide), if_pos hK]
    exact congrArg (fun f => some (Sum.inr (0, 16, f))) (stA_self vI).symm
  · rw [gup_ne e]
    unfold mI
    rw [mA_ne e]
theorem mI_end {fs : List AV} {u v : SS} {g : GH} (h : fs = fldM v) : mI fs 20 u v g = mk u v g := by
  subst h
  funext m
  unfold mI mk mN
  by_cases e0 : m = 0
  · subst e0; rfl
  · rw [if_neg e0, if_neg e0]
    by_cases e1 : m < 100
    · rw [if_pos e1, if_pos e1]
      by_cases e2 : m ≤ 20
      · rw [if_pos e2]
      · rw [if_neg e2]
        unfold mA
        split <;> first | rfl | omega
    · rw [if_neg e1, if_neg e1]
def iv1 (k : Nat) : Int := if k = 11 then 4 else if k = 15 then 6 else if k = 18 then 40 else 0
def iv0 : SS := (iv1, fun _ _ => 0)
def iv : Nat → SS
  | 0 => iv0
  | n + 1 => stA (iv n) 12 n (-1)
def nwM : Nat → Prop := fun n => 1 ≤ n ∧ n ≤ 20
def fs0 : List AV := [vI 0, vR none, vR none, vR none, vR none, vR none, vR none, vR none, vR none, vR none, vR none, vI 0, vR none, vR none, vI 0, vI 0, vI 0, vR none, vI 0, vI 0, vR none, vI 0, vI 0, vI 0, vL 0, vI 0, vI 0]
set_option maxHeartbeats 4000000 in
set_option maxRecDepth 100000 in
theorem c_X7_init {u : SS} {g : GH} : Cn yX7_init (wsy yX7_init cX7_init 1 none) 0 14 228 nwM [vR (some 0)] (mI fs0 0 u iv0 g) (.inl (none, mk u (iv 16) g)) := by
  refine con_k (lv := [(0, vR (some 0))]) (by decide) (by unfold nwM; decide) (fun ad => Nat.le_of_ble_eq_true rfl) (fun ad => rfl) rfl ?_
  intro k C hr hin hlv hmc hms hw hPo hPx htab
  refine ev_s C dX7_init_0 (q := 1) rfl rfl ?_
  refine ev_objInit C dX7_init_1 (q := 4) rfl kb_X7_1 ko_1 ko_2 rfl ?_
  refine ev_s C dX7_init_4 (q := 5) rfl rfl ?_
  refine ev_s C dX7_init_5 (q := 7) rfl rfl ?_
  refine ev_newa (t := 0) (N := 6) (n := 1) (dv := vI 0) C dX7_init_7 (q := 9) rfl (by decide) rfl ka_int (fun _ => rfl) rfl rfl (by decide) rfl (by unfold fgn; decide) (by rw [hw]; unfold nwM; decide) (by rw [hmc]; decide) (by rw [hms]; exact Nat.le_of_ble_eq_true rfl) (mI_new (K := 0) (by decide) (by decide) rfl (by decide) (fun m h1 h2 => by omega)) ?_
  refine ev_putF (j := 1) C hin dX7_init_9 kf_X7_7 (q := 12) rfl (fit_A _ _) rfl (by decide) mI_put ?_
  refine ev_s C dX7_init_12 (q := 13) rfl rfl ?_
  refine ev_s C dX7_init_13 (q := 15) rfl rfl ?_
  refine ev_newa (t := 3) (N := 6) (n := 2) (dv := vI 0) C dX7_init_15 (q := 17) rfl (by decide) rfl ka_char (fun _ => rfl) rfl rfl (by decide) rfl (by unfold fgn; decide) (by rw [hw]; unfold nwM; decide) (by rw [hmc]; decide) (by rw [hms]; exact Nat.le_of_ble_eq_true rfl) (mI_new (K := 1) (by decide) (by decide) rfl (by decide) (fun m h1 h2 => by omega)) ?_
  refine ev_putF (j := 2) C hin dX7_init_17 kf_X7_13 (q := 20) rfl (fit_A _ _) rfl (by decide) mI_put ?_
  refine ev_s C dX7_init_20 (q := 21) rfl rfl ?_
  refine ev_s C dX7_init_21 (q := 23) rfl rfl ?_
  refine ev_newa (t := 0) (N := 6) (n := 3) (dv := vI 0) C dX7_init_23 (q := 25) rfl (by decide) rfl ka_int (fun _ => rfl) rfl rfl (by decide) rfl (by unfold fgn; decide) (by rw [hw]; unfold nwM; decide) (by rw [hmc]; decide) (by rw [hms]; exact Nat.le_of_ble_eq_true rfl) (mI_new (K := 2) (by decide) (by decide) rfl (by decide) (fun m h1 h2 => by omega)) ?_
  refine ev_putF (j := 3) C hin dX7_init_25 kf_X7_17 (q := 28) rfl (fit_A _ _) rfl (by decide) mI_put ?_
  refine ev_s C dX7_init_28 (q := 29) rfl rfl ?_
  refine ev_s C dX7_init_29 (q := 31) rfl rfl ?_
  refine ev_newa (t := 2) (N := 6) (n := 4) (dv := vI 0) C dX7_init_31 (q := 33) rfl (by decide) rfl ka_boolean (fun _ => rfl) rfl rfl (by decide) rfl (by unfold fgn; decide) (by rw [hw]; unfold nwM; decide) (by rw [hmc]; decide) (by rw [hms]; exact Nat.le_of_ble_eq_true rfl) (mI_new (K := 3) (by decide) (by decide) rfl (by decide) (fun m h1 h2 => by omega)) ?_
  refine ev_putF (j := 4) C hin dX7_init_33 kf_X7_20 (q := 36) rfl (fit_A _ _) rfl (by decide) mI_put ?_
  refine ev_s C dX7_init_36 (q := 37) rfl rfl ?_
  refine ev_s C dX7_init_37 (q := 39) rfl rfl ?_
  refine ev_newa (t := 0) (N := 6) (n := 5) (dv := vI 0) C dX7_init_39 (q := 41) rfl (by decide) rfl ka_int (fun _ => rfl) rfl rfl (by decide) rfl (by unfold fgn; decide) (by rw [hw]; unfold nwM; decide) (by rw [hmc]; decide) (by rw [hms]; exact Nat.le_of_ble_eq_true rfl) (mI_new (K := 4) (by decide) (by decide) rfl (by decide) (fun m h1 h2 => by omega)) ?_
  refine ev_putF (j := 5) C hin dX7_init_41 kf_X7_24 (q := 44) rfl (fit_A _ _) rfl (by decide) mI_put ?_
  refine ev_s C dX7_init_44 (q := 45) rfl rfl ?_
  refine ev_s C dX7_init_45 (q := 47) rfl rfl ?_
  refine ev_newa (t := 0) (N := 6) (n := 6) (dv := vI 0) C dX7_init_47 (q := 49) rfl (by decide) rfl ka_int (fun _ => rfl) rfl rfl (by decide) rfl (by unfold fgn; decide) (by rw [hw]; unfold nwM; decide) (by rw [hmc]; decide) (by rw [hms]; exact Nat.le_of_ble_eq_true rfl) (mI_new (K := 5) (by decide) (by decide) rfl (by decide) (fun m h1 h2 => by omega)) ?_
  refine ev_putF (j := 6) C hin dX7_init_49 kf_X7_27 (q := 52) rfl (fit_A _ _) rfl (by decide) mI_put ?_
  refine ev_s C dX7_init_52 (q := 53) rfl rfl ?_
  refine ev_s C dX7_init_53 (q := 55) rfl rfl ?_
  refine ev_newa (t := 0) (N := 6) (n := 7) (dv := vI 0) C dX7_init_55 (q := 57) rfl (by decide) rfl ka_int (fun _ => rfl) rfl rfl (by decide) rfl (by unfold fgn; decide) (by rw [hw]; unfold nwM; decide) (by rw [hmc]; decide) (by rw [hms]; exact Nat.le_of_ble_eq_true rfl) (mI_new (K := 6) (by decide) (by decide) rfl (by decide) (fun m h1 h2 => by omega)) ?_
  refine ev_putF (j := 7) C hin dX7_init_57 kf_X7_30 (q := 60) rfl (fit_A _ _) rfl (by decide) mI_put ?_
  refine ev_s C dX7_init_60 (q := 61) rfl rfl ?_
  refine ev_s C dX7_init_61 (q := 63) rfl rfl ?_
  refine ev_newa (t := 1) (N := 6) (n := 8) (dv := vL 0) C dX7_init_63 (q := 65) rfl (by decide) rfl ka_long (fun _ => rfl) rfl rfl (by decide) rfl (by unfold fgn; decide) (by rw [hw]; unfold nwM; decide) (by rw [hmc]; decide) (by rw [hms]; exact Nat.le_of_ble_eq_true rfl) (mI_new (K := 7) (by decide) (by decide) rfl (by decide) (fun m h1 h2 => by omega)) ?_
  refine ev_putF (j := 8) C hin dX7_init_65 kf_X7_33 (q := 68) rfl (fit_A _ _) rfl (by decide) mI_put ?_
  refine ev_s C dX7_init_68 (q := 69) rfl rfl ?_
  refine ev_s C dX7_init_69 (q := 71) rfl rfl ?_
  refine ev_newa (t := 0) (N := 48) (n := 9) (dv := vI 0) C dX7_init_71 (q := 73) rfl (by decide) rfl ka_int (fun _ => rfl) rfl rfl (by decide) rfl (by unfold fgn; decide) (by rw [hw]; unfold nwM; decide) (by rw [hmc]; decide) (by rw [hms]; exact Nat.le_of_ble_eq_true rfl) (mI_new (K := 8) (by decide) (by decide) rfl (by decide) (fun m h1 h2 => by omega)) ?_
  refine ev_putF (j := 9) C hin dX7_init_73 kf_X7_37 (q := 76) rfl (fit_A _ _) rfl (by decide) mI_put ?_
  refine ev_s C dX7_init_76 (q := 77) rfl rfl ?_
  refine ev_s C dX7_init_77 (q := 79) rfl rfl ?_
  refine ev_newa (t := 0) (N := 48) (n := 10) (dv := vI 0) C dX7_init_79 (q := 81) rfl (by decide) rfl ka_int (fun _ => rfl) rfl rfl (by decide) rfl (by unfold fgn; decide) (by rw [hw]; unfold nwM; decide) (by rw [hmc]; decide) (by rw [hms]; exact Nat.le_of_ble_eq_true rfl) (mI_new (K := 9) (by decide) (by decide) rfl (by decide) (fun m h1 h2 => by omega)) ?_
  refine ev_putF (j := 10) C hin dX7_init_81 kf_X7_40 (q := 84) rfl (fit_A _ _) rfl (by decide) mI_put ?_
  refine ev_s C dX7_init_84 (q := 85) rfl rfl ?_
  refine ev_s C dX7_init_85 (q := 86) rfl rfl ?_
  refine ev_put (j := 11) C dX7_init_86 kf_X7_43 (q := 89) rfl (fit_I _) rfl (by decide) mI_put ?_
  refine ev_s C dX7_init_89 (q := 90) rfl rfl ?_
  refine ev_s C dX7_init_90 (q := 92) rfl rfl ?_
  refine ev_newa (t := 0) (N := 16) (n := 12) (dv := vI 0) C dX7_init_92 (q := 94) rfl (by decide) rfl ka_int (fun _ => rfl) rfl rfl (by decide) rfl (by unfold fgn; decide) (by rw [hw]; unfold nwM; decide) (by rw [hmc]; decide) (by rw [hms]; exact Nat.le_of_ble_eq_true rfl) (mI_new (K := 10) (by decide) (by decide) rfl (by decide) (fun m h1 h2 => by have hm : m = 11 := (by omega); rcases hm with rfl <;> rfl)) ?_
  refine ev_s C dX7_init_94 (q := 95) rfl rfl ?_
  refine ev_s C dX7_init_95 (q := 96) rfl rfl ?_
  refine ev_s C dX7_init_96 (q := 97) rfl rfl ?_
  refine ev_iast (n := 12) (len := 16) (f := fun j => vI (iv0.2 12 j)) C dX7_init_97 (q := 98) rfl rfl (by unfold rg; decide) (by decide) (by decide) (mI_12 (v := iv0) (by decide)) ?_
  refine ev_eq (G := mI _ 12 u (iv 1) g) rfl ?_
  refine ev_s C dX7_init_98 (q := 99) rfl rfl ?_
  refine ev_s C dX7_init_99 (q := 100) rfl rfl ?_
  refine ev_s C dX7_init_100 (q := 101) rfl rfl ?_
  refine ev_iast (n := 12) (len := 16) (f := fun j => vI ((iv 1).2 12 j)) C dX7_init_101 (q := 102) rfl rfl (by unfold rg; decide) (by decide) (by decide) (mI_12 (v := (iv 1)) (by decide)) ?_
  refine ev_eq (G := mI _ 12 u (iv 2) g) rfl ?_
  refine ev_s C dX7_init_102 (q := 103) rfl rfl ?_
  refine ev_s C dX7_init_103 (q := 104) rfl rfl ?_
  refine ev_s C dX7_init_104 (q := 105) rfl rfl ?_
  refine ev_iast (n := 12) (len := 16) (f := fun j => vI ((iv 2).2 12 j)) C dX7_init_105 (q := 106) rfl rfl (by unfold rg; decide) (by decide) (by decide) (mI_12 (v := (iv 2)) (by decide)) ?_
  refine ev_eq (G := mI _ 12 u (iv 3) g) rfl ?_
  refine ev_s C dX7_init_106 (q := 107) rfl rfl ?_
  refine ev_s C dX7_init_107 (q := 108) rfl rfl ?_
  refine ev_s C dX7_init_108 (q := 109) rfl rfl ?_
  refine ev_iast (n := 12) (len := 16) (f := fun j => vI ((iv 3).2 12 j)) C dX7_init_109 (q := 110) rfl rfl (by unfold rg; decide) (by decide) (by decide) (mI_12 (v := (iv 3)) (by decide)) ?_
  refine ev_eq (G := mI _ 12 u (iv 4) g) rfl ?_
  refine ev_s C dX7_init_110 (q := 111) rfl rfl ?_
  refine ev_s C dX7_init_111 (q := 112) rfl rfl ?_
  refine ev_s C dX7_init_112 (q := 113) rfl rfl ?_
  refine ev_iast (n := 12) (len := 16) (f := fun j => vI ((iv 4).2 12 j)) C dX7_init_113 (q := 114) rfl rfl (by unfold rg; decide) (by decide) (by decide) (mI_12 (v := (iv 4)) (by decide)) ?_
  refine ev_eq (G := mI _ 12 u (iv 5) g) rfl ?_
  refine ev_s C dX7_init_114 (q := 115) rfl rfl ?_
  refine ev_s C dX7_init_115 (q := 116) rfl rfl ?_
  refine ev_s C dX7_init_116 (q := 117) rfl rfl ?_
  refine ev_iast (n := 12) (len := 16) (f := fun j => vI ((iv 5).2 12 j)) C dX7_init_117 (q := 118) rfl rfl (by unfold rg; decide) (by decide) (by decide) (mI_12 (v := (iv 5)) (by decide)) ?_
  refine ev_eq (G := mI _ 12 u (iv 6) g) rfl ?_
  refine ev_s C dX7_init_118 (q := 119) rfl rfl ?_
  refine ev_s C dX7_init_119 (q := 121) rfl rfl ?_
  refine ev_s C dX7_init_121 (q := 122) rfl rfl ?_
  refine ev_iast (n := 12) (len := 16) (f := fun j => vI ((iv 6).2 12 j)) C dX7_init_122 (q := 123) rfl rfl (by unfold rg; decide) (by decide) (by decide) (mI_12 (v := (iv 6)) (by decide)) ?_
  refine ev_eq (G := mI _ 12 u (iv 7) g) rfl ?_
  refine ev_s C dX7_init_123 (q := 124) rfl rfl ?_
  refine ev_s C dX7_init_124 (q := 126) rfl rfl ?_
  refine ev_s C dX7_init_126 (q := 127) rfl rfl ?_
  refine ev_iast (n := 12) (len := 16) (f := fun j => vI ((iv 7).2 12 j)) C dX7_init_127 (q := 128) rfl rfl (by unfold rg; decide) (by decide) (by decide) (mI_12 (v := (iv 7)) (by decide)) ?_
  refine ev_eq (G := mI _ 12 u (iv 8) g) rfl ?_
  refine ev_s C dX7_init_128 (q := 129) rfl rfl ?_
  refine ev_s C dX7_init_129 (q := 131) rfl rfl ?_
  refine ev_s C dX7_init_131 (q := 132) rfl rfl ?_
  refine ev_iast (n := 12) (len := 16) (f := fun j => vI ((iv 8).2 12 j)) C dX7_init_132 (q := 133) rfl rfl (by unfold rg; decide) (by decide) (by decide) (mI_12 (v := (iv 8)) (by decide)) ?_
  refine ev_eq (G := mI _ 12 u (iv 9) g) rfl ?_
  refine ev_s C dX7_init_133 (q := 134) rfl rfl ?_
  refine ev_s C dX7_init_134 (q := 136) rfl rfl ?_
  refine ev_s C dX7_init_136 (q := 137) rfl rfl ?_
  refine ev_iast (n := 12) (len := 16) (f := fun j => vI ((iv 9).2 12 j)) C dX7_init_137 (q := 138) rfl rfl (by unfold rg; decide) (by decide) (by decide) (mI_12 (v := (iv 9)) (by decide)) ?_
  refine ev_eq (G := mI _ 12 u (iv 10) g) rfl ?_
  refine ev_s C dX7_init_138 (q := 139) rfl rfl ?_
  refine ev_s C dX7_init_139 (q := 141) rfl rfl ?_
  refine ev_s C dX7_init_141 (q := 142) rfl rfl ?_
  refine ev_iast (n := 12) (len := 16) (f := fun j => vI ((iv 10).2 12 j)) C dX7_init_142 (q := 143) rfl rfl (by unfold rg; decide) (by decide) (by decide) (mI_12 (v := (iv 10)) (by decide)) ?_
  refine ev_eq (G := mI _ 12 u (iv 11) g) rfl ?_
  refine ev_s C dX7_init_143 (q := 144) rfl rfl ?_
  refine ev_s C dX7_init_144 (q := 146) rfl rfl ?_
  refine ev_s C dX7_init_146 (q := 147) rfl rfl ?_
  refine ev_iast (n := 12) (len := 16) (f := fun j => vI ((iv 11).2 12 j)) C dX7_init_147 (q := 148) rfl rfl (by unfold rg; decide) (by decide) (by decide) (mI_12 (v := (iv 11)) (by decide)) ?_
  refine ev_eq (G := mI _ 12 u (iv 12) g) rfl ?_
  refine ev_s C dX7_init_148 (q := 149) rfl rfl ?_
  refine ev_s C dX7_init_149 (q := 151) rfl rfl ?_
  refine ev_s C dX7_init_151 (q := 152) rfl rfl ?_
  refine ev_iast (n := 12) (len := 16) (f := fun j => vI ((iv 12).2 12 j)) C dX7_init_152 (q := 153) rfl rfl (by unfold rg; decide) (by decide) (by decide) (mI_12 (v := (iv 12)) (by decide)) ?_
  refine ev_eq (G := mI _ 12 u (iv 13) g) rfl ?_
  refine ev_s C dX7_init_153 (q := 154) rfl rfl ?_
  refine ev_s C dX7_init_154 (q := 156) rfl rfl ?_
  refine ev_s C dX7_init_156 (q := 157) rfl rfl ?_
  refine ev_iast (n := 12) (len := 16) (f := fun j => vI ((iv 13).2 12 j)) C dX7_init_157 (q := 158) rfl rfl (by unfold rg; decide) (by decide) (by decide) (mI_12 (v := (iv 13)) (by decide)) ?_
  refine ev_eq (G := mI _ 12 u (iv 14) g) rfl ?_
  refine ev_s C dX7_init_158 (q := 159) rfl rfl ?_
  refine ev_s C dX7_init_159 (q := 161) rfl rfl ?_
  refine ev_s C dX7_init_161 (q := 162) rfl rfl ?_
  refine ev_iast (n := 12) (len := 16) (f := fun j => vI ((iv 14).2 12 j)) C dX7_init_162 (q := 163) rfl rfl (by unfold rg; decide) (by decide) (by decide) (mI_12 (v := (iv 14)) (by decide)) ?_
  refine ev_eq (G := mI _ 12 u (iv 15) g) rfl ?_
  refine ev_s C dX7_init_163 (q := 164) rfl rfl ?_
  refine ev_s C dX7_init_164 (q := 166) rfl rfl ?_
  refine ev_s C dX7_init_166 (q := 167) rfl rfl ?_
  refine ev_iast (n := 12) (len := 16) (f := fun j => vI ((iv 15).2 12 j)) C dX7_init_167 (q := 168) rfl rfl (by unfold rg; decide) (by decide) (by decide) (mI_12 (v := (iv 15)) (by decide)) ?_
  refine ev_eq (G := mI _ 12 u (iv 16) g) rfl ?_
  refine ev_putF (j := 12) C hin dX7_init_168 kf_X7_47 (q := 171) rfl (fit_A _ _) rfl (by decide) mI_put ?_
  refine ev_s C dX7_init_171 (q := 172) rfl rfl ?_
  refine ev_s C dX7_init_172 (q := 174) rfl rfl ?_
  refine ev_newa (t := 2) (N := 16) (n := 13) (dv := vI 0) C dX7_init_174 (q := 176) rfl (by decide) rfl ka_boolean (fun _ => rfl) rfl rfl (by decide) rfl (by unfold fgn; decide) (by rw [hw]; unfold nwM; decide) (by rw [hmc]; decide) (by rw [hms]; exact Nat.le_of_ble_eq_true rfl) (mI_new (K := 12) (by decide) (by decide) rfl (by decide) (fun m h1 h2 => by omega)) ?_
  refine ev_putF (j := 13) C hin dX7_init_176 kf_X7_50 (q := 179) rfl (fit_A _ _) rfl (by decide) mI_put ?_
  refine ev_s C dX7_init_179 (q := 180) rfl rfl ?_
  refine ev_s C dX7_init_180 (q := 182) rfl rfl ?_
  refine ev_put (j := 15) C dX7_init_182 kf_X7_53 (q := 185) rfl (fit_I _) rfl (by decide) mI_put ?_
  refine ev_s C dX7_init_185 (q := 186) rfl rfl ?_
  refine ev_s C dX7_init_186 (q := 188) rfl rfl ?_
  refine ev_newa (t := 0) (N := 48) (n := 17) (dv := vI 0) C dX7_init_188 (q := 190) rfl (by decide) rfl ka_int (fun _ => rfl) rfl rfl (by decide) rfl (by unfold fgn; decide) (by rw [hw]; unfold nwM; decide) (by rw [hmc]; decide) (by rw [hms]; exact Nat.le_of_ble_eq_true rfl) (mI_new (K := 13) (by decide) (by decide) rfl (by decide) (fun m h1 h2 => by have hm : m = 14 ∨ m = 15 ∨ m = 16 := (by omega); rcases hm with rfl | rfl | rfl <;> rfl)) ?_
  refine ev_putF (j := 17) C hin dX7_init_190 kf_X7_56 (q := 193) rfl (fit_A _ _) rfl (by decide) mI_put ?_
  refine ev_s C dX7_init_193 (q := 194) rfl rfl ?_
  refine ev_s C dX7_init_194 (q := 196) rfl rfl ?_
  refine ev_put (j := 18) C dX7_init_196 kf_X7_59 (q := 199) rfl (fit_I _) rfl (by decide) mI_put ?_
  refine ev_s C dX7_init_199 (q := 200) rfl rfl ?_
  refine ev_s C dX7_init_200 (q := 201) rfl rfl ?_
  refine ev_newa (t := 0) (N := 4) (n := 20) (dv := vI 0) C dX7_init_201 (q := 203) rfl (by decide) rfl ka_int (fun _ => rfl) rfl rfl (by decide) rfl (by unfold fgn; decide) (by rw [hw]; unfold nwM; decide) (by rw [hmc]; decide) (by rw [hms]; exact Nat.le_of_ble_eq_true rfl) (mI_new (K := 17) (by decide) (by decide) rfl (by decide) (fun m h1 h2 => by have hm : m = 18 ∨ m = 19 := (by omega); rcases hm with rfl | rfl <;> rfl)) ?_
  refine ev_putF (j := 20) C hin dX7_init_203 kf_X7_62 (q := 206) rfl (fit_A _ _) rfl (by decide) mI_put ?_
  exact ev_vret C hr dX7_init_206 (by rw [hmc]; decide) (by rw [hms]; exact Nat.le_of_ble_eq_true rfl) (po_0 hPo (mI_end rfl).symm)
theorem iv_1 (n k : Nat) : (iv n).1 k = iv1 k := by
  induction n with
  | zero => rfl
  | succ n ih => exact ih
theorem iv_2 (n a j : Nat) : (iv n).2 a j = if a = 12 ∧ j < n then -1 else 0 := by
  induction n with
  | zero => rw [if_neg (by omega)]; rfl
  | succ n ih =>
    show (stA (iv n) 12 n (-1)).2 a j = _
    rw [stA_2, ih]
    by_cases e : a = 12
    · by_cases e2 : j = n
      · rw [if_pos e, if_pos e2, if_pos ⟨e, by omega⟩]
      · rw [if_pos e, if_neg e2]
        by_cases e3 : j < n
        · rw [if_pos ⟨e, e3⟩, if_pos ⟨e, by omega⟩]
        · rw [if_neg (fun h => e3 h.2), if_neg (fun h => by omega)]
    · rw [if_neg e, if_neg (fun h => e h.1), if_neg (fun h => e h.1)]
theorem MI_iv : MI (iv 16) := by
  refine ⟨fun k => ?_, fun a j => ?_⟩
  · rw [iv_1]
    unfold iv1
    split
    · rename_i e; subst e; decide
    · split
      · rename_i e; subst e; decide
      · split
        · rename_i e; subst e; decide
        · rename_i h1 h2 h3
          unfold lS hS
          constructor <;> split <;> first | decide | omega
  · rw [iv_2]
    split
    · rename_i e; rw [e.1]; decide
    · unfold lA hA
      constructor <;> split <;> decide
