/-! TOGETHER: the start -/
theorem i0_1 (k : Nat) : (iv 16).1 k = iv1 k := iv_1 16 k
theorem i0_2 {a j : Nat} (h : a ≠ 12) : (iv 16).2 a j = 0 := by rw [iv_2, if_neg (fun z => h z.1)]
theorem i0_12 {j : Nat} (h : j < 16) : (iv 16).2 12 j = -1 := by rw [iv_2, if_pos ⟨rfl, h⟩]
theorem i0_nd (s k : Nat) : ndB (iv 16) s k = false := by
  unfold ndB
  rw [i0_2 (by decide)]
  have e : bShr 0 (k : Int) = 0 := by
    show (iI 0 >>> (iI (k : Int) &&& 31)).toInt = 0
    rw [iI_0, Int32.zero_shiftRight]
    rfl
  unfold ndX
  rw [e]
  decide
theorem i0_SL : SL (iv 16) = [] := rfl
theorem i0_OL : OL uz = [] := rfl
theorem WF_0 : WF (iv 16) 99 := by
  have e0 : (iv 16).1 0 = 0 := i0_1 0
  refine ⟨fun f hf h => ?_, fun p h => ?_, fun f g hf hg h => ?_, fun f hf _ => i0_2 (by decide), fun x hx => ?_, fun p h => ?_, ?_, fun p h => ?_, fun p _ => i0_2 (by decide)⟩
  · rw [i0_12 hf] at h; omega
  · rw [e0] at h; omega
  · rw [i0_12 hf] at h; omega
  · rw [i0_SL] at hx; cases hx
  · rw [e0] at h; omega
  · rw [i0_SL]; exact List.nodup_nil
  · rw [e0] at h; omega
theorem EQ_0 : EQ uz (iv 16) 99 99 := by
  have e0 : (iv 16).1 0 = 0 := i0_1 0
  refine ⟨rfl, rfl, rfl, rfl, fun p => ?_, fun f hf => ?_, rfl, fun p h => ?_, fun f hf h => ?_, fun p h => ?_, i0_2 (by decide)⟩
  · rw [i0_2 (by decide)]; rfl
  · rw [i0_12 hf]; rfl
  · rw [e0] at h; omega
  · rw [i0_12 hf] at h; omega
  · rw [e0] at h; omega
theorem HP_0 : HP uz 0 := by
  refine ⟨fun z h => ?_, fun p _ h => ?_, by decide, fun p _ => ⟨rfl, rfl⟩⟩
  · have h0 : (z : Int) < 0 := h; omega
  · have h0 : (p : Int) < 8 * 0 := h; omega
theorem SM_0 : SM uz (iv 16) (4 * (iv 16).1 22) := by
  refine ⟨⟨CI_uz, MI_iv, EQ_0, WF_0⟩, HP_0, by show (0 : Int) ≤ 6; decide, ⟨rfl, by decide⟩, ⟨fun s => ?_, fun s => ?_, fun s => ?_, fun s => ?_, fun s => ?_, fun s => ?_, fun s => ?_, fun s => ?_, rfl, rfl, rfl, rfl, rfl, rfl⟩, fun j _ => ?_, fun s => ⟨fun h => ?_, fun _ => ⟨i0_2 (by decide), i0_2 (by decide), i0_2 (by decide), i0_2 (by decide), i0_2 (by decide)⟩⟩, fun s k _ h => ?_, fun _ => 0, fun _ => (by decide : 0 < 6), fun s k _ _ h => ?_⟩
  all_goals first | (rw [i0_2 (by decide)]; rfl) | skip
  · have h0 : (s : Int) < 0 := h; omega
  · rw [i0_nd] at h; cases h
  · rw [i0_nd] at h; cases h
theorem SIM_0 : SIM 0 uz (iv 16) := by
  refine ⟨by decide, SM_0, ⟨by decide, by decide, fun j => ?_, by decide, by decide, by decide, fun j => ?_, fun j => ?_, by decide⟩, Or.inl rfl⟩
  all_goals (rw [i0_2 (by decide)]; decide)
