/-! THE CLASS: soundness -/
set_option maxHeartbeats 4000000 in
set_option maxRecDepth 100000 in
theorem l_X6_pa1 {k : Kx} (C : CX k RX6 cX6_placesAgree 6) (hlv : klev k = 4) {u v : SS} {g : GH} (I : CI u) {z : Nat} (hz : (z : Int) < u.1 14) (hag : ∀ p : Nat, (p : Int) < 8 * u.1 14 → u.2 1 p = u.2 23 p) : ∀ (m w : Nat), w ≤ 8 → 8 < w + m → EV k 81 [(0, vR (some 1000)), (1, vI (z : Int))] [] (mk u v g) 0 0 → EV k 41 [(0, vR (some 1000)), (1, vI (z : Int)), (2, vR (some (2100 + z))), (3, vI 8), (4, vI (w : Int))] [] (mk u v g) 0 0 := by
  intro m
  induction m with
  | zero =>
    intros
    exfalso
    omega
  | succ m ih =>
    intro w h1 h2 kx
    have i14 := I.s14
    have e1 := hag (8 * z + w)
    have ia := I.a1 (8 * z + w)
    have ic := I.a23 (8 * z + w)
    refine ev_s C dX6_placesAgree_41 (q := 43) rfl rfl ?_
    refine ev_s C dX6_placesAgree_43 (q := 44) rfl rfl ?_
    refine ev_icmp_ge C dX6_placesAgree_44 (tgt := 81) (q := 47) (by decide) rfl (by first | decide | (unfold rg; omega) | (show rg (u.2 23 (8 * z + w)); unfold rg; omega) | (show rg (u.2 1 (8 * z + w)); unfold rg; omega)) (by first | decide | (unfold rg; omega) | (show rg (u.2 23 (8 * z + w)); unfold rg; omega) | (show rg (u.2 1 (8 * z + w)); unfold rg; omega)) (fun b0 => ?_) (fun b0 => ?_)
    · refine ev_keep [0, 1] rfl ?_
      exact kx
    · refine ev_s C dX6_placesAgree_47 (q := 48) rfl rfl ?_
      refine ev_s C dX6_placesAgree_48 (q := 50) rfl rfl ?_
      refine cl_2100 C dX6_placesAgree_50 (q := 51) rfl (by show (_ : Int) < u.1 14; omega) (by omega) (by omega) ?_
      refine ev_s C dX6_placesAgree_51 (q := 53) rfl rfl ?_
      refine ev_s C dX6_placesAgree_53 (q := 55) rfl rfl ?_
      refine cgp_3 C dX6_placesAgree_55 kf_X6_112 (q := 58) rfl (by show (_ : Int) < 8 * u.1 14; omega) ?_
      refine ev_s C dX6_placesAgree_58 (q := 59) rfl rfl ?_
      refine cg_1000_0 C dX6_placesAgree_59 kf_X6_12 (q := 62) rfl ?_
      refine ev_s C dX6_placesAgree_62 (q := 64) rfl rfl ?_
      refine cgp_0 C dX6_placesAgree_64 kf_X6_171 (q := 67) rfl (by show (_ : Int) < 8 * u.1 14; omega) ?_
      refine ev_cV C dX6_placesAgree_67 (q := 70) rfl km_X6_174 kv_X1_replayedPlace kc_X1_replayedPlace (c_X1_replayedPlace I (p := 8 * z + w) (by omega)) rfl rfl vcX1 rfl (by rw [hlv]; first | decide | omega) (by decide) (Nat.le_of_ble_eq_true rfl) (by first | exact Nat.zero_le _ | (rw [hmc]; decide) | (rw [hmc]; omega)) (by first | exact Nat.zero_le _ | (rw [hms]; decide) | (rw [hms]; omega)) ?_
      refine ev_icmp_eq C dX6_placesAgree_70 (tgt := 75) (q := 73) (by decide) rfl (by first | decide | (unfold rg; omega) | (show rg (u.2 23 (8 * z + w)); unfold rg; omega) | (show rg (u.2 1 (8 * z + w)); unfold rg; omega)) (by first | decide | (unfold rg; omega) | (show rg (u.2 23 (8 * z + w)); unfold rg; omega) | (show rg (u.2 1 (8 * z + w)); unfold rg; omega)) (fun b1 => ?_) (fun b1 => ?_)
      · refine ev_s C dX6_placesAgree_75 (q := 78) rfl rfl ?_
        refine ev_goto C dX6_placesAgree_78 (tgt := 41) (by decide) ?_
        refine ev_keep [0, 1, 2, 3, 4] rfl ?_
        exact ih (w + 1) (by omega) (by omega) kx
      · exfalso; exact b1 (hag (8 * z + w) (by omega)).symm
set_option maxHeartbeats 4000000 in
set_option maxRecDepth 100000 in
theorem l_X6_pa2 {k : Kx} (C : CX k RX6 cX6_placesAgree 6) (hlv : klev k = 4) {u v : SS} {g : GH} (I : CI u) (hag : ∀ p : Nat, (p : Int) < 8 * u.1 14 → u.2 1 p = u.2 23 p) {N : Nat} (hN : u.1 14 = (N : Int)) (hr : (kmeth k).sig.returnType = some .boolean) (hPo : kPo k = PoR (.inl (some (vI (bI true)), mk u v g))) : ∀ (m z : Nat), z ≤ N → N < z + m → EV k 9 [(0, vR (some 1000)), (1, vI (z : Int))] [] (mk u v g) 0 0 := by
  intro m
  induction m with
  | zero =>
    intros
    exfalso
    omega
  | succ m ih =>
    intro z h1 h2
    have i14 := I.s14
    refine ev_s C dX6_placesAgree_9 (q := 10) rfl rfl ?_
    refine ev_s C dX6_placesAgree_10 (q := 11) rfl rfl ?_
    refine cg_1000_4 C dX6_placesAgree_11 kf_X6_40 (q := 14) rfl ?_
    refine ev_cV C dX6_placesAgree_14 (q := 17) rfl km_X6_59 kv_Jx4a65c_size_8abf5 kc_Jx4a65c_size_8abf5 (c_size_s) rfl rfl vcJx4a65c rfl (by rw [hlv]; first | decide | omega) (by decide) (Nat.le_of_ble_eq_true rfl) (by first | exact Nat.zero_le _ | (rw [hmc]; decide) | (rw [hmc]; omega)) (by first | exact Nat.zero_le _ | (rw [hms]; decide) | (rw [hms]; omega)) ?_
    refine ev_icmp_ge C dX6_placesAgree_17 (tgt := 87) (q := 20) (by decide) rfl (by first | decide | (unfold rg; omega) | assumption | exact bAnd_rg _ _) (by first | decide | (unfold rg; omega) | assumption | exact bAnd_rg _ _) (fun b0 => ?_) (fun b0 => ?_)
    · refine ev_s C dX6_placesAgree_87 (q := 88) rfl rfl ?_
      exact ev_zret C hr (fit_Z (by first | decide | exact bI_01 _ | assumption)) dX6_placesAgree_88 (Nat.zero_le _) (Nat.zero_le _) (po_1 hPo rfl rfl)
    · refine ev_s C dX6_placesAgree_20 (q := 21) rfl rfl ?_
      refine cg_1000_4 C dX6_placesAgree_21 kf_X6_40 (q := 24) rfl ?_
      refine ev_s C dX6_placesAgree_24 (q := 25) rfl rfl ?_
      refine ev_cV C dX6_placesAgree_25 (q := 28) rfl km_X6_200 kv_Jx4a65c_get_915e3 kc_Jx4a65c_get_915e3 (c_get_s I (i := z) (by omega)) rfl rfl vcJx4a65c rfl (by rw [hlv]; first | decide | omega) (by decide) (Nat.le_of_ble_eq_true rfl) (by first | exact Nat.zero_le _ | (rw [hmc]; decide) | (rw [hmc]; omega)) (by first | exact Nat.zero_le _ | (rw [hms]; decide) | (rw [hms]; omega)) ?_
      refine ev_chk C dX6_placesAgree_28 (q := 31) rfl vcX4 kl_X6_68 (fun n h => by cases h; exact ⟨_, gs_ (by show (_ : Int) < u.1 14; omega) (by omega)⟩) ?_
      refine cgs_4 C dX6_placesAgree_31 kf_X6_279 (q := 34) rfl (by show (_ : Int) < u.1 14; omega) (by omega) ?_
      refine ev_s C dX6_placesAgree_34 (q := 35) rfl rfl ?_
      refine ev_s C dX6_placesAgree_35 (q := 36) rfl rfl ?_
      refine cn_2100 C dX6_placesAgree_36 (q := 37) rfl (by show (_ : Int) < u.1 14; omega) (by omega) ?_
      refine ev_s C dX6_placesAgree_37 (q := 38) rfl rfl ?_
      refine ev_s C dX6_placesAgree_38 (q := 39) rfl rfl ?_
      refine ev_s C dX6_placesAgree_39 (q := 41) rfl rfl ?_
      refine l_X6_pa1 C hlv I (z := z) (by omega) hag 9 0 (by decide) (by decide) ?_
      refine ev_s C dX6_placesAgree_81 (q := 84) rfl rfl ?_
      refine ev_goto C dX6_placesAgree_84 (tgt := 9) (by decide) ?_
      exact ih (z + 1) (by omega) (by omega)
def agOK (u : SS) : Prop := ∀ p : Nat, (p : Int) < 8 * u.1 14 → (rpM u).2 1 p = u.2 23 p
set_option maxHeartbeats 4000000 in
set_option maxRecDepth 100000 in
theorem c_X6_placesAgree {u v : SS} {g : GH} (I : CI u) (hev : evOK u) (hag : agOK u) : Cn yX6_placesAgree (wsy yX6_placesAgree cX6_placesAgree 6 (some .boolean)) 4 0 0 nn [vR (some 1000)] (mk u v g) (.inl (some (vI (bI true)), mk (rpM u) v g)) := by
  refine con_j (lv := [(0, vR (some 1000))]) (by decide) (fun ad => Nat.le_of_ble_eq_true rfl) (fun ad => rfl) rfl ?_
  intro k C hr hlv hmc hms hPo hPx htab
  refine ev_s C dX6_placesAgree_0 (q := 1) rfl rfl ?_
  refine cg_1000_0 C dX6_placesAgree_1 kf_X6_12 (q := 4) rfl ?_
  refine ev_cV C dX6_placesAgree_4 (q := 7) rfl km_X6_168 kv_X1_replay kc_X1_replay (c_X1_replay I hev) rfl rfl vcX1 rfl (by rw [hlv]; first | decide | omega) (by decide) (Nat.le_of_ble_eq_true rfl) (by first | exact Nat.zero_le _ | (rw [hmc]; decide) | (rw [hmc]; omega)) (by first | exact Nat.zero_le _ | (rw [hms]; decide) | (rw [hms]; omega)) ?_
  refine ev_s C dX6_placesAgree_7 (q := 8) rfl rfl ?_
  refine ev_s C dX6_placesAgree_8 (q := 9) rfl rfl ?_
  have i14 := I.s14
  exact l_X6_pa2 C hlv (CI_rp I) (fun p hp => by rw [rpM_S] at hp; rw [hag p hp, rpM_A (by decide)]) (N := (u.1 14).toNat) (by rw [rpM_S]; omega) hr hPo ((u.1 14).toNat + 1) 0 (Nat.zero_le _) (by omega)
def SN (u : SS) (K sn : Nat) : Prop := sn < 2 ^ 16 ∧ ∀ f : Nat, f < 16 → hb (sn : Int) (f : Int) = true → ∃ p : Nat, p < K ∧ u.2 23 p = 102 ∧ u.2 24 p = (f : Int)
theorem SN_0 (u : SS) : SN u 0 0 := by
  refine ⟨by decide, fun f hf h => ?_⟩
  rw [show ((0 : Nat) : Int) = (0 : Nat) from rfl, hb_tb (by decide) (by omega)] at h
  simp at h
theorem SN_s {u : SS} {K sn : Nat} (h : SN u K sn) : SN u (K + 1) sn := ⟨h.1, fun f hf hh => by
  obtain ⟨p, h1, h2⟩ := h.2 f hf hh
  exact ⟨p, by omega, h2⟩⟩
theorem SN_t {u : SS} {K sn f : Nat} (h : SN u K sn) (hf : f < 16) (h1 : u.2 23 K = 102) (h2 : u.2 24 K = (f : Int)) : SN u (K + 1) (sn ||| 2 ^ f) := by
  have h3 := two_lt hf
  refine ⟨Nat.or_lt_two_pow h.1 h3, fun j hj hh => ?_⟩
  have h16 : (2 : Nat) ^ 16 = 65536 := by decide
  have h31 : (2 : Nat) ^ 31 = 2147483648 := by decide
  have hs := h.1
  rw [← bOr_nat (by omega) (by omega), ← bShl_nat (by omega), hb_or h.1 hf hj] at hh
  rcases Bool.or_eq_true_iff.mp hh with hh | hh
  · obtain ⟨p, g1, g2⟩ := h.2 j hj hh
    exact ⟨p, by omega, g2⟩
  · have e := of_decide_eq_true hh
    exact ⟨K, by omega, h1, by rw [h2, e]⟩
def fsOK (u : SS) : Prop := (∀ p : Nat, (p : Int) < 8 * u.1 14 → u.2 23 p = 102 → 0 ≤ u.2 24 p ∧ u.2 24 p < 16) ∧ ∀ p p' : Nat, (p : Int) < 8 * u.1 14 → (p' : Int) < 8 * u.1 14 → u.2 23 p = 102 → u.2 23 p' = 102 → u.2 24 p = u.2 24 p' → p = p'
theorem SN_new {u : SS} {K sn : Nat} {f : Nat} (h : SN u K sn) (hK : (K : Int) < 8 * u.1 14) (ho : fsOK u) (h1 : u.2 23 K = 102) (h2 : u.2 24 K = (f : Int)) (hf : f < 16) : hb (sn : Int) (f : Int) = false := by
  rw [← Bool.not_eq_true]
  intro hh
  obtain ⟨p, g1, g2, g3⟩ := h.2 f hf hh
  have := ho.2 p K (by omega) hK g2 h1 (by rw [g3, h2])
  omega
set_option maxHeartbeats 4000000 in
set_option maxRecDepth 100000 in
theorem l_X6_fs1 {k : Kx} (C : CX k RX6 cX6_framesAreSingle 7) (hlv : klev k = 4) {u v : SS} {g : GH} (I : CI u) {z : Nat} (hz : (z : Int) < u.1 14) (ho : fsOK u) : ∀ (m w sn : Nat), w ≤ 8 → 8 < w + m → SN u (8 * z + w) sn → (∀ sn1, SN u (8 * (z + 1)) sn1 → EV k 90 [(0, vR (some 1000)), (1, vI (sn1 : Int)), (2, vI (z : Int))] [] (mk u v g) 0 0) → EV k 37 [(0, vR (some 1000)), (1, vI (sn : Int)), (2, vI (z : Int)), (3, vR (some (2100 + z))), (4, vI 8), (5, vI (w : Int))] [] (mk u v g) 0 0 := by
  intro m
  induction m with
  | zero =>
    intros
    exfalso
    omega
  | succ m ih =>
    intro w sn h1 h2 hs kx
    have i14 := I.s14
    have ic := I.a23 (8 * z + w)
    have h16 : (2 : Nat) ^ 16 = 65536 := by decide
    have h31 : (2 : Nat) ^ 31 = 2147483648 := by decide
    have hs1 := hs.1
    refine ev_s C dX6_framesAreSingle_37 (q := 39) rfl rfl ?_
    refine ev_s C dX6_framesAreSingle_39 (q := 41) rfl rfl ?_
    refine ev_icmp_ge C dX6_framesAreSingle_41 (tgt := 90) (q := 44) (by decide) rfl (by first | decide | (unfold rg; omega) | (show rg (u.2 23 (8 * z + w)); unfold rg; omega)) (by first | decide | (unfold rg; omega) | (show rg (u.2 23 (8 * z + w)); unfold rg; omega)) (fun b0 => ?_) (fun b0 => ?_)
    · obtain rfl : w = 8 := by omega
      refine ev_keep [0, 1, 2] rfl ?_
      exact kx sn hs
    · refine ev_s C dX6_framesAreSingle_44 (q := 45) rfl rfl ?_
      refine ev_s C dX6_framesAreSingle_45 (q := 47) rfl rfl ?_
      refine cl_2100 C dX6_framesAreSingle_47 (q := 48) rfl (by show (_ : Int) < u.1 14; omega) (by omega) (by omega) ?_
      refine ev_s C dX6_framesAreSingle_48 (q := 50) rfl rfl ?_
      refine ev_s C dX6_framesAreSingle_50 (q := 52) rfl rfl ?_
      refine cgp_3 C dX6_framesAreSingle_52 kf_X6_112 (q := 55) rfl (by show (_ : Int) < 8 * u.1 14; omega) ?_
      refine ev_s C dX6_framesAreSingle_55 (q := 57) rfl rfl ?_
      refine ev_icmp_ne C dX6_framesAreSingle_57 (tgt := 84) (q := 60) (by decide) rfl (by first | decide | (unfold rg; omega) | (show rg (u.2 23 (8 * z + w)); unfold rg; omega)) (by first | decide | (unfold rg; omega) | (show rg (u.2 23 (8 * z + w)); unfold rg; omega)) (fun b1 => ?_) (fun b1 => ?_)
      · refine ev_s C dX6_framesAreSingle_84 (q := 87) rfl rfl ?_
        refine ev_goto C dX6_framesAreSingle_87 (tgt := 37) (by decide) ?_
        refine ev_keep [0, 1, 2, 3, 4, 5] rfl ?_
        first
          | (refine ev_eqL (lv := [(0, vR (some 1000)), (1, vI ((sn ||| 2 ^ f : Nat) : Int)), (2, vI (z : Int)), (3, vR (some (2100 + z))), (4, vI 8), (5, vI ((w + 1 : Nat) : Int))]) (by rw [← bOr_nat (by omega) (by omega), ← bShl_nat (by omega), ← hf1]; rfl) ?_
             exact ih (w + 1) (sn ||| 2 ^ f) (by omega) (by omega) (SN_t hs hf2 h9 hf1) kx)
          | exact ih (w + 1) sn (by omega) (by omega) (SN_s hs) kx
      · have h9 : u.2 23 (8 * z + w) = 102 := b1
        have hfb := ho.1 (8 * z + w) (by omega) h9
        obtain ⟨f, hf1⟩ : ∃ f : Nat, u.2 24 (8 * z + w) = (f : Int) := ⟨(u.2 24 (8 * z + w)).toNat, by omega⟩
        have hf2 : f < 16 := by omega
        have hnew := SN_new hs (by omega) ho h9 hf1 hf2
        have h2f := two_lt hf2
        refine ev_s C dX6_framesAreSingle_60 (q := 61) rfl rfl ?_
        refine ev_s C dX6_framesAreSingle_61 (q := 63) rfl rfl ?_
        refine cgp_4 C dX6_framesAreSingle_63 kf_X6_183 (q := 66) rfl (by show (_ : Int) < 8 * u.1 14; omega) ?_
        refine ev_cS C dX6_framesAreSingle_66 (q := 69) rfl km_X6_91 ks_X6_hasBit kc_X6_hasBit (c_X6_hasBit) rfl rfl (by rw [hlv]; first | decide | omega) (by decide) (Nat.le_of_ble_eq_true rfl) (by first | exact Nat.zero_le _ | (rw [hmc]; decide) | (rw [hmc]; omega)) (by first | exact Nat.zero_le _ | (rw [hms]; decide) | (rw [hms]; omega)) ?_
        refine ev_ifB_eq C dX6_framesAreSingle_69 (tgt := 74) (q := 72) (by decide) rfl (fun b2 => ?_) (fun b2 => ?_)
        · refine ev_s C dX6_framesAreSingle_74 (q := 75) rfl rfl ?_
          refine ev_s C dX6_framesAreSingle_75 (q := 76) rfl rfl ?_
          refine ev_s C dX6_framesAreSingle_76 (q := 78) rfl rfl ?_
          refine cgp_4 C dX6_framesAreSingle_78 kf_X6_183 (q := 81) rfl (by show (_ : Int) < 8 * u.1 14; omega) ?_
          refine ev_s C dX6_framesAreSingle_81 (q := 82) rfl rfl ?_
          refine ev_s C dX6_framesAreSingle_82 (q := 83) rfl rfl ?_
          refine ev_s C dX6_framesAreSingle_83 (q := 84) rfl rfl ?_
          refine ev_s C dX6_framesAreSingle_84 (q := 87) rfl rfl ?_
          refine ev_goto C dX6_framesAreSingle_87 (tgt := 37) (by decide) ?_
          refine ev_keep [0, 1, 2, 3, 4, 5] rfl ?_
          first
            | (refine ev_eqL (lv := [(0, vR (some 1000)), (1, vI ((sn ||| 2 ^ f : Nat) : Int)), (2, vI (z : Int)), (3, vR (some (2100 + z))), (4, vI 8), (5, vI ((w + 1 : Nat) : Int))]) (by rw [← bOr_nat (by omega) (by omega), ← bShl_nat (by omega), ← hf1]; rfl) ?_
               exact ih (w + 1) (sn ||| 2 ^ f) (by omega) (by omega) (SN_t hs hf2 h9 hf1) kx)
            | exact ih (w + 1) sn (by omega) (by omega) (SN_s hs) kx
        · exact absurd (hnew.symm.trans ((congrArg (hb (sn : Int)) hf1).symm.trans b2)) (by decide)
set_option maxHeartbeats 4000000 in
set_option maxRecDepth 100000 in
theorem l_X6_fs2 {k : Kx} (C : CX k RX6 cX6_framesAreSingle 7) (hlv : klev k = 4) {u v : SS} {g : GH} (I : CI u) (ho : fsOK u) {N : Nat} (hN : u.1 14 = (N : Int)) (hr : (kmeth k).sig.returnType = some .boolean) (hPo : kPo k = PoR (.inl (some (vI (bI true)), mk u v g))) : ∀ (m z sn : Nat), z ≤ N → N < z + m → SN u (8 * z) sn → EV k 4 [(0, vR (some 1000)), (1, vI (sn : Int)), (2, vI (z : Int))] [] (mk u v g) 0 0 := by
  intro m
  induction m with
  | zero =>
    intros
    exfalso
    omega
  | succ m ih =>
    intro z sn h1 h2 hs
    have i14 := I.s14
    refine ev_s C dX6_framesAreSingle_4 (q := 5) rfl rfl ?_
    refine ev_s C dX6_framesAreSingle_5 (q := 6) rfl rfl ?_
    refine cg_1000_4 C dX6_framesAreSingle_6 kf_X6_40 (q := 9) rfl ?_
    refine ev_cV C dX6_framesAreSingle_9 (q := 12) rfl km_X6_59 kv_Jx4a65c_size_8abf5 kc_Jx4a65c_size_8abf5 (c_size_s) rfl rfl vcJx4a65c rfl (by rw [hlv]; first | decide | omega) (by decide) (Nat.le_of_ble_eq_true rfl) (by first | exact Nat.zero_le _ | (rw [hmc]; decide) | (rw [hmc]; omega)) (by first | exact Nat.zero_le _ | (rw [hms]; decide) | (rw [hms]; omega)) ?_
    refine ev_icmp_ge C dX6_framesAreSingle_12 (tgt := 96) (q := 15) (by decide) rfl (by first | decide | (unfold rg; omega) | assumption | exact bAnd_rg _ _) (by first | decide | (unfold rg; omega) | assumption | exact bAnd_rg _ _) (fun b0 => ?_) (fun b0 => ?_)
    · refine ev_s C dX6_framesAreSingle_96 (q := 97) rfl rfl ?_
      exact ev_zret C hr (fit_Z (by first | decide | exact bI_01 _ | assumption)) dX6_framesAreSingle_97 (Nat.zero_le _) (Nat.zero_le _) (po_1 hPo rfl rfl)
    · refine ev_s C dX6_framesAreSingle_15 (q := 16) rfl rfl ?_
      refine cg_1000_4 C dX6_framesAreSingle_16 kf_X6_40 (q := 19) rfl ?_
      refine ev_s C dX6_framesAreSingle_19 (q := 20) rfl rfl ?_
      refine ev_cV C dX6_framesAreSingle_20 (q := 23) rfl km_X6_200 kv_Jx4a65c_get_915e3 kc_Jx4a65c_get_915e3 (c_get_s I (i := z) (by omega)) rfl rfl vcJx4a65c rfl (by rw [hlv]; first | decide | omega) (by decide) (Nat.le_of_ble_eq_true rfl) (by first | exact Nat.zero_le _ | (rw [hmc]; decide) | (rw [hmc]; omega)) (by first | exact Nat.zero_le _ | (rw [hms]; decide) | (rw [hms]; omega)) ?_
      refine ev_chk C dX6_framesAreSingle_23 (q := 26) rfl vcX4 kl_X6_68 (fun n h => by cases h; exact ⟨_, gs_ (by show (_ : Int) < u.1 14; omega) (by omega)⟩) ?_
      refine cgs_4 C dX6_framesAreSingle_26 kf_X6_279 (q := 29) rfl (by show (_ : Int) < u.1 14; omega) (by omega) ?_
      refine ev_s C dX6_framesAreSingle_29 (q := 30) rfl rfl ?_
      refine ev_s C dX6_framesAreSingle_30 (q := 31) rfl rfl ?_
      refine cn_2100 C dX6_framesAreSingle_31 (q := 32) rfl (by show (_ : Int) < u.1 14; omega) (by omega) ?_
      refine ev_s C dX6_framesAreSingle_32 (q := 34) rfl rfl ?_
      refine ev_s C dX6_framesAreSingle_34 (q := 35) rfl rfl ?_
      refine ev_s C dX6_framesAreSingle_35 (q := 37) rfl rfl ?_
      refine l_X6_fs1 C hlv I (z := z) (by omega) ho 9 0 sn (by decide) (by decide) hs (fun sn1 hs1 => ?_)
      refine ev_s C dX6_framesAreSingle_90 (q := 93) rfl rfl ?_
      refine ev_goto C dX6_framesAreSingle_93 (tgt := 4) (by decide) ?_
      exact ih (z + 1) sn1 (by omega) (by omega) hs1
set_option maxHeartbeats 4000000 in
set_option maxRecDepth 100000 in
theorem c_X6_framesAreSingle {u v : SS} {g : GH} (I : CI u) (ho : fsOK u) : Cn yX6_framesAreSingle (wsy yX6_framesAreSingle cX6_framesAreSingle 7 (some .boolean)) 4 0 0 nn [vR (some 1000)] (mk u v g) (.inl (some (vI (bI true)), mk u v g)) := by
  refine con_j (lv := [(0, vR (some 1000))]) (by decide) (fun ad => Nat.le_of_ble_eq_true rfl) (fun ad => rfl) rfl ?_
  intro k C hr hlv hmc hms hPo hPx htab
  refine ev_s C dX6_framesAreSingle_0 (q := 1) rfl rfl ?_
  refine ev_s C dX6_framesAreSingle_1 (q := 2) rfl rfl ?_
  refine ev_s C dX6_framesAreSingle_2 (q := 3) rfl rfl ?_
  refine ev_s C dX6_framesAreSingle_3 (q := 4) rfl rfl ?_
  have i14 := I.s14
  exact l_X6_fs2 C hlv I ho (N := (u.1 14).toNat) (by omega) hr hPo ((u.1 14).toNat + 1) 0 0 (Nat.zero_le _) (by omega) (SN_0 u)
theorem fsOK_rp {u : SS} (h : fsOK u) : fsOK (rpM u) := by
  refine ⟨fun p hp h2 => ?_, fun p p' hp hp' h2 h3 h4 => ?_⟩
  · rw [rpM_S] at hp; rw [rpM_A (by decide)] at h2 ⊢; exact h.1 p hp h2
  · rw [rpM_S] at hp hp'; rw [rpM_A (by decide)] at h2 h3 h4; rw [rpM_A (by decide)] at h4; exact h.2 p p' hp hp' h2 h3 h4
set_option maxHeartbeats 4000000 in
set_option maxRecDepth 100000 in
theorem c_X6_isSound {u v : SS} {g : GH} (I : CI u) (hev : evOK u) (hag : agOK u) (ho : fsOK u) : Cn yX6_isSound (wsy yX6_isSound cX6_isSound 1 (some .boolean)) 5 0 0 nn [vR (some 1000)] (mk u v g) (.inl (some (vI (bI (decide (ctk (rpM u) ≤ (rpM u).1 9)))), mk (rpM u) v g)) := by
  refine con_j (lv := [(0, vR (some 1000))]) (by decide) (fun ad => Nat.le_of_ble_eq_true rfl) (fun ad => rfl) rfl ?_
  intro k C hr hlv hmc hms hPo hPx htab
  have J := CI_rp I
  have j9 := J.s9
  have ht := ctf_bd J ((rpM u).1 11).toNat
  have j11 := J.s11
  have ht2 : 0 ≤ ctk (rpM u) ∧ ctk (rpM u) ≤ 4 * (rpM u).1 11 := by unfold ctk; omega
  refine ev_s C dX6_isSound_0 (q := 1) rfl rfl ?_
  refine ev_cV C dX6_isSound_1 (q := 4) rfl km_X6_265 kv_X6_placesAgree kc_X6_placesAgree (c_X6_placesAgree I hev hag) rfl rfl vcX6 rfl (by rw [hlv]; first | decide | omega) (by decide) (Nat.le_of_ble_eq_true rfl) (by first | exact Nat.zero_le _ | (rw [hmc]; decide) | (rw [hmc]; omega)) (by first | exact Nat.zero_le _ | (rw [hms]; decide) | (rw [hms]; omega)) ?_
  refine ev_ifB_eq C dX6_isSound_4 (tgt := 35) (q := 7) (by decide) rfl (fun b0 => ?_) (fun b0 => ?_)
  · cases b0
  · refine ev_s C dX6_isSound_7 (q := 8) rfl rfl ?_
    refine ev_cV C dX6_isSound_8 (q := 11) rfl km_X6_269 kv_X6_framesAreSingle kc_X6_framesAreSingle (c_X6_framesAreSingle (CI_rp I) (fsOK_rp ho)) rfl rfl vcX6 rfl (by rw [hlv]; first | decide | omega) (by decide) (Nat.le_of_ble_eq_true rfl) (by first | exact Nat.zero_le _ | (rw [hmc]; decide) | (rw [hmc]; omega)) (by first | exact Nat.zero_le _ | (rw [hms]; decide) | (rw [hms]; omega)) ?_
    refine ev_ifB_eq C dX6_isSound_11 (tgt := 35) (q := 14) (by decide) rfl (fun b1 => ?_) (fun b1 => ?_)
    · cases b1
    · refine ev_s C dX6_isSound_14 (q := 15) rfl rfl ?_
      refine cg_1000_2 C dX6_isSound_15 kf_X6_26 (q := 18) rfl ?_
      refine ev_cV C dX6_isSound_18 (q := 21) rfl km_X6_192 kv_X5_takenRoom kc_X5_takenRoom (c_X5_takenRoom (CI_rp I)) rfl rfl vcX5 rfl (by rw [hlv]; first | decide | omega) (by decide) (Nat.le_of_ble_eq_true rfl) (by first | exact Nat.zero_le _ | (rw [hmc]; decide) | (rw [hmc]; omega)) (by first | exact Nat.zero_le _ | (rw [hms]; decide) | (rw [hms]; omega)) ?_
      refine ev_s C dX6_isSound_21 (q := 22) rfl rfl ?_
      refine cg_1000_2 C dX6_isSound_22 kf_X6_26 (q := 25) rfl ?_
      refine cg_1006_1 C dX6_isSound_25 kf_X6_136 (q := 28) rfl ?_
      refine ev_icmp_gt C dX6_isSound_28 (tgt := 35) (q := 31) (by decide) rfl (by first | decide | (unfold rg; omega) | assumption | exact bAnd_rg _ _) (by first | decide | (unfold rg; omega) | assumption | exact bAnd_rg _ _) (fun b2 => ?_) (fun b2 => ?_)
      · have h9 : ¬ ctk (rpM u) ≤ (rpM u).1 9 := by omega
        refine ev_s C dX6_isSound_35 (q := 36) rfl rfl ?_
        exact ev_zret C hr (fit_Z (by first | decide | exact bI_01 _ | assumption)) dX6_isSound_36 (Nat.zero_le _) (Nat.zero_le _) (po_1 hPo (by first | (rw [decide_eq_true h9]; rfl) | (rw [decide_eq_false h9]; rfl)) rfl)
      · have h9 : ctk (rpM u) ≤ (rpM u).1 9 := by omega
        refine ev_s C dX6_isSound_31 (q := 32) rfl rfl ?_
        refine ev_goto C dX6_isSound_32 (tgt := 36) (by decide) ?_
        exact ev_zret C hr (fit_Z (by first | decide | exact bI_01 _ | assumption)) dX6_isSound_36 (Nat.zero_le _) (Nat.zero_le _) (po_1 hPo (by first | (rw [decide_eq_true h9]; rfl) | (rw [decide_eq_false h9]; rfl)) rfl)
