/-! THE TIE: the port and its run, beside the model that was told more -/
def PortI (h c r : am_F) : Prop := HC h c ∧ TLb h c ∧ TFs h c ∧ FzI h ∧ BaseI h c r
/-- nothing that the port or its run reads has changed -/
def EqP (c c' : am_F) : Prop := (∀ k, k ≠ 0 → k ≠ 1 → ¬ (133 ≤ k ∧ k ≤ 144) → ¬ (146 ≤ k ∧ k ≤ 153) → ¬ (155 ≤ k ∧ k ≤ 157) → c' k = c k) ∧ c' 0 45 = c 0 45
theorem EqP_Told {c c' : am_F} (hV : MdV c) (h : EqP c c') : Told c c' := fun k hk => by
  have h2 := hV.2.2.1
  exact h.1 k (by omega) (by omega) (by omega) (by omega) (by omega)
theorem Port_keep {h c c' r : am_F} (hE : EqP c c') (h30 : 0 ≤ c' 0 30 ∧ c' 0 30 ≤ 12) (h31 : 0 ≤ c' 0 31 ∧ c' 0 31 ≤ 8) (hd : c' 0 58 = -1 ∧ c' 0 61 = -1) (hP : PortI h c r) : PortI h c' r := by
  obtain ⟨hC, hTb, hFs, hz, hB⟩ := hP
  have hV := hC.2.1
  have e4 : c' 4 = c 4 := hE.1 4 (by decide) (by decide) (by decide) (by decide) (by decide)
  have e6 : c' 6 = c 6 := hE.1 6 (by decide) (by decide) (by decide) (by decide) (by decide)
  have hV' : MdV c' := by
    unfold MdV
    rw [e4, hE.2]
    obtain ⟨a1, a2, a3, a4, a5, a6, a7, a8, a9, a10, a11, a12, -, -⟩ := hV
    exact ⟨a1, a2, a3, a4, a5, a6, a7, a8, a9, a10, a11, a12, h30, h31⟩
  have hC' : HC h c' := HC_told (EqP_Told hV hE) hV' hE.2 hC
  have hTb' : TLb h c' := fun i a1 a2 => by
    have h5 : i < 6 := by
      have h1 := hC.2.2.2.1
      have h2 := hV.2.2.1
      unfold TN at h1
      omega
    rw [hE.1 (67 + i.toNat) (by omega) (by omega) (by omega) (by omega) (by omega)]
    exact hTb i a1 a2
  have hFs' : TFs h c' := by
    unfold TFs
    rw [e6]
    exact hFs
  exact ⟨hC', hTb', hFs', hz, BaseI_swap hC hTb hFs hC' hTb' hFs' hz hd hB⟩
theorem EqP_B {c c' : am_F} (h : EqB c c') : EqP c c' ∧ c' 0 31 = c 0 31 ∧ c' 0 58 = c 0 58 ∧ c' 0 61 = c 0 61 := ⟨⟨fun k a1 _ a3 _ _ => h.1 k a1 a3, h.2 45 (by decide)⟩, h.2 31 (by decide), h.2 58 (by decide), h.2 61 (by decide)⟩
theorem EqP_G {c c' : am_F} (h : EqG c c') : EqP c c' ∧ c' 0 30 = c 0 30 ∧ c' 0 58 = c 0 58 ∧ c' 0 61 = c 0 61 := ⟨⟨fun k a1 _ _ a4 _ => h.1 k a1 a4, h.2 45 (by decide)⟩, h.2 30 (by decide), h.2 58 (by decide), h.2 61 (by decide)⟩
theorem EqP_F {c c' : am_F} (h : FdI c c') : EqP c c' ∧ c' 0 30 = c 0 30 ∧ c' 0 31 = c 0 31 := ⟨⟨fun k a1 _ _ _ _ => h.1 k a1, h.2 45 (by decide) (by decide)⟩, h.2 30 (by decide) (by decide), h.2 31 (by decide) (by decide)⟩
theorem Port_bid {h c c' r : am_F} (hE : EqB c c') (h30 : 0 ≤ c' 0 30 ∧ c' 0 30 ≤ 12) (hP : PortI h c r) : PortI h c' r := by
  obtain ⟨a1, a2, a3, a4⟩ := EqP_B hE
  have hd := hP.2.2.2.2.1
  exact Port_keep a1 h30 (by rw [a2]; exact hP.1.2.1.2.2.2.2.2.2.2.2.2.2.2.2.2) (by rw [a3, a4]; exact hd) hP
theorem Port_gauge {h c c' r : am_F} (hE : EqG c c') (h31 : 0 ≤ c' 0 31 ∧ c' 0 31 ≤ 8) (hP : PortI h c r) : PortI h c' r := by
  obtain ⟨a1, a2, a3, a4⟩ := EqP_G hE
  have hd := hP.2.2.2.2.1
  exact Port_keep a1 (by rw [a2]; exact hP.1.2.1.2.2.2.2.2.2.2.2.2.2.2.2.1) h31 (by rw [a3, a4]; exact hd) hP
theorem Port_feed {h e e' c c' r : am_F} (hE : EqT e e' c c') (hP : PortI h c r) : PortI h c' r := by
  have hd := hP.2.2.2.2.1
  have hV := hP.1.2.1
  have e0 : ∀ j, j ≠ 1 → c' 0 j = c 0 j := hE.2.2.2
  refine Port_keep ⟨fun k a1 a2 _ _ _ => hE.2.2.1 k a1 a2, e0 45 (by decide)⟩ ?_ ?_ ?_ hP
  · rw [e0 30 (by decide)]; exact hV.2.2.2.2.2.2.2.2.2.2.2.2.1
  · rw [e0 31 (by decide)]; exact hV.2.2.2.2.2.2.2.2.2.2.2.2.2
  · rw [e0 58 (by decide), e0 61 (by decide)]; exact hd
theorem Port_image {h c c' r : am_F} (hE : ∀ m j, ¬ (155 ≤ m ∧ m ≤ 157) → ¬ (m = 0 ∧ (j = 32 ∨ j = 33)) → c' m j = c m j) (hP : PortI h c r) : PortI h c' r := by
  have hd := hP.2.2.2.2.1
  have hV := hP.1.2.1
  have e0 : ∀ j, j ≠ 32 → j ≠ 33 → c' 0 j = c 0 j := fun j a1 a2 => hE 0 j (by omega) (by omega)
  refine Port_keep ⟨fun k a1 _ _ _ a5 => funext fun j => hE k j a5 (by omega), e0 45 (by decide) (by decide)⟩ ?_ ?_ ?_ hP
  · rw [e0 30 (by decide) (by decide)]; exact hV.2.2.2.2.2.2.2.2.2.2.2.2.1
  · rw [e0 31 (by decide) (by decide)]; exact hV.2.2.2.2.2.2.2.2.2.2.2.2.2
  · rw [e0 58 (by decide) (by decide), e0 61 (by decide) (by decide)]; exact hd
