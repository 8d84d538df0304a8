/-! the model: a clause keeps what it must -/
theorem RW_56 {d : am_F} (h : RW d) (h5 : d 0 56 ≤ 11) : RW (am_put d 0 56 (d 0 56 + 1)) := by
  unfold RW at h ⊢
  rw [am_put0 (by decide), am_put_s, am_put_i (by decide), am_put_i (by decide)]
  omega
theorem RW_57 {d : am_F} (h : RW d) (h5 : d 0 57 ≤ 11) : RW (am_put d 0 57 (d 0 57 + 1)) := by
  unfold RW at h ⊢
  rw [am_put0 (by decide), am_put_s, am_put_i (by decide), am_put_i (by decide)]
  omega
theorem RW_38 {d : am_F} {v : Int} (h : RW d) (hv : 0 ≤ v ∧ v ≤ d 0 56) : RW (am_put d 3 8 v) := by
  unfold RW at h ⊢
  rw [am_put_s, am_put_i (j := 0) (by decide), am_put_i (j := 1) (by decide), am_put_i (j := 2) (by decide), am_put_i (j := 3) (by decide), am_put_i (j := 4) (by decide), am_put_i (j := 5) (by decide), am_put_i (j := 6) (by decide), am_put_i (j := 9) (by decide), am_put_i (j := 10) (by decide), am_put_kr (by decide : (0 : Nat) ≠ 3)]
  omega
theorem RW_39 {d : am_F} {v : Int} (h : RW d) (hv : 0 ≤ v ∧ v ≤ d 0 57) : RW (am_put d 3 9 v) := by
  unfold RW at h ⊢
  rw [am_put_s, am_put_i (j := 0) (by decide), am_put_i (j := 1) (by decide), am_put_i (j := 2) (by decide), am_put_i (j := 3) (by decide), am_put_i (j := 4) (by decide), am_put_i (j := 5) (by decide), am_put_i (j := 6) (by decide), am_put_i (j := 8) (by decide), am_put_i (j := 10) (by decide), am_put_kr (by decide : (0 : Nat) ≠ 3)]
  omega
theorem RC_56 {c d : am_F} (h : RC c d) (h5 : d 0 56 ≤ 11) : RC c (am_put d 0 56 (d 0 56 + 1)) := ⟨RdV_h (by decide) h.1, RW_56 h.2.1 h5, (am_put_i (by decide)).trans h.2.2⟩
theorem RC_57 {c d : am_F} (h : RC c d) (h5 : d 0 57 ≤ 11) : RC c (am_put d 0 57 (d 0 57 + 1)) := ⟨RdV_h (by decide) h.1, RW_57 h.2.1 h5, (am_put_i (by decide)).trans h.2.2⟩
theorem k_windHere_c {c : am_F} (h : RdV c) (hw : RW c) (h5 : c 0 56 ≤ 11) : RC c (k_windHere c) := by
  unfold k_windHere
  dsimp only
  have hy : RY c (k_number (k_number (k_number (k_number c 0 39).2 0 2).2 0 2).2 0 8).2 := RY_n (RY_n (RY_n (RY_n ⟨h, Ly_r⟩)))
  have h4 : RC c (k_number (k_number (k_number (k_number c 0 39).2 0 2).2 0 2).2 0 8).2 := RC_ry ⟨h, hw, rfl⟩ hy
  obtain ⟨d, hd⟩ : ∃ d, d = (k_number (k_number (k_number (k_number c 0 39).2 0 2).2 0 2).2 0 8).2 := ⟨_, rfl⟩
  rw [← hd] at hy h4 ⊢
  split
  · have e56 : d 0 56 = c 0 56 := hy.2.2 56 (by decide) (by decide) (by decide)
    have w8 := h4.2.1.2.2.2.2.2.2.2.1
    have hin := RC_56 h4 (by omega)
    refine RC_3 (RC_k (by omega) (by omega) (RC_k (by omega) (by omega) (RC_k (by omega) (by omega) (RC_k (by omega) (by omega) hin)))) (RW_38 (RC_k (by omega) (by omega) (RC_k (by omega) (by omega) (RC_k (by omega) (by omega) (RC_k (by omega) (by omega) hin)))).2.1 ?_)
    rw [am_put_k (by omega), am_put_k (by omega), am_put_k (by omega), am_put_k (by omega), am_put_s]
    split <;> omega
  · exact h4
theorem k_thinHere_c {c : am_F} (h : RdV c) (hw : RW c) (h5 : c 0 57 ≤ 11) : RC c (k_thinHere c) := by
  unfold k_thinHere
  dsimp only
  have hy : RY c (k_number (k_number c 0 39).2 0 9).2 := RY_n (RY_n ⟨h, Ly_r⟩)
  have h4 : RC c (k_number (k_number c 0 39).2 0 9).2 := RC_ry ⟨h, hw, rfl⟩ hy
  obtain ⟨d, hd⟩ : ∃ d, d = (k_number (k_number c 0 39).2 0 9).2 := ⟨_, rfl⟩
  rw [← hd] at hy h4 ⊢
  split
  · have e56 : d 0 57 = c 0 57 := hy.2.2 57 (by decide) (by decide) (by decide)
    have w8 := h4.2.1.2.2.2.2.2.2.2.2.1
    have hin := RC_57 h4 (by omega)
    refine RC_3 (RC_k (by omega) (by omega) (RC_k (by omega) (by omega) hin)) (RW_39 (RC_k (by omega) (by omega) (RC_k (by omega) (by omega) hin)).2.1 ?_)
    rw [am_put_k (by omega), am_put_k (by omega), am_put_s]
    split <;> omega
  · exact h4
theorem k_clause_x {c : am_F} (h : RdV c) (hw : RW c) : RdV (k_clause c) ∧ RW (k_clause c) ∧ (k_clause c 0 5 = 0 → k_clause c 0 7 = c 0 7 + 1) := by
  unfold k_clause
  dsimp only
  have hk := k_kindHere_x h
  obtain ⟨u, hu⟩ : ∃ u, u = k_kindHere c := ⟨_, rfl⟩
  rw [← hu] at hk ⊢
  have hwu : RW u.2 := RW_y (Ly_x hk.2.1) hw
  have h7u : u.2 0 7 = c 0 7 := hk.2.1.2 7 (by decide) (by decide) (by decide)
  obtain ⟨d, hd⟩ : ∃ d, d = (if u.1 = -1 then k_wrong u.2 1 (u.2 0 4) else if u.2 0 7 = 60 then k_wrong u.2 3 (u.2 0 4) else if k_isFull u.2 u.1 = 0 then if u.1 = 0 then if u.2 0 7 ≤ 0 then u.2 else k_wrong u.2 4 (u.2 0 4) else u.2 else k_wrong u.2 3 (u.2 0 4)) := ⟨_, rfl⟩
  rw [← hd]
  have hdx : RY u.2 d ∧ (d 0 5 = 0 → u.1 ≠ -1 ∧ u.2 0 7 ≠ 60 ∧ k_isFull u.2 u.1 = 0) := by
    rw [hd]
    have hww : ∀ x y : Int, x ≠ 0 → RY u.2 (k_wrong u.2 x y) ∧ (k_wrong u.2 x y 0 5 = 0 → u.1 ≠ -1 ∧ u.2 0 7 ≠ 60 ∧ k_isFull u.2 u.1 = 0) := fun x y hx => ⟨RY_w ⟨hk.1, Ly_r⟩, fun q => absurd q (k_wrong_5 hx)⟩
    repeat' split
    all_goals first | exact hww _ _ (by decide) | exact ⟨⟨hk.1, Ly_r⟩, fun _ => ⟨by assumption, by assumption, by assumption⟩⟩
  have hwd : RW d := RW_y hdx.1.2 hwu
  by_cases h5 : d 0 5 = 0
  · rw [if_pos h5]
    obtain ⟨q1, q2, q3⟩ := hdx.2 h5
    have hs := k_skipWord_x hdx.1.1
    have hye : Ly u.2 (k_skipWord d) := Ly_t hdx.1.2 (Ly_x hs.2)
    obtain ⟨e, he⟩ : ∃ e, e = k_skipWord d := ⟨_, rfl⟩
    rw [← he] at hs hye ⊢
    have hwe : RW e := RW_y hye hwu
    have e7 : e 0 7 = u.2 0 7 := hye.2 7 (by decide) (by decide) (by decide)
    obtain ⟨g, hg⟩ : ∃ g, g = am_put e 0 7 (e 0 7 + 1) := ⟨_, rfl⟩
    rw [← hg]
    have hRg : RdV g := by rw [hg]; exact RdV_h (by decide) hs.1
    have hWg : RW g := by rw [hg]; exact RW_p7 hwe (by omega)
    have g7 : g 0 7 = c 0 7 + 1 := by rw [hg, am_put_s]; omega
    have hfg : k_isFull g u.1 = 0 := by
      rw [hg]
      exact k_isFull_7 ((k_isFull_y hye.1 (hye.2 56 (by decide) (by decide) (by decide)) (hye.2 57 (by decide) (by decide) (by decide)) _).trans q3)
    have fin : ∀ x : am_F, RC g x → RdV x ∧ RW x ∧ (x 0 5 = 0 → x 0 7 = c 0 7 + 1) := fun x hx => ⟨hx.1, hx.2.1, fun _ => hx.2.2.trans g7⟩
    have hfl := k_isFull_s hfg
    have w9 := hWg
    obtain ⟨w0, w1, w2, w3, w4, w5, w6, w8, w7, w10, w11⟩ := w9
    by_cases e0 : u.1 = 0
    · rw [if_pos e0]; exact fin _ (k_clause_152_x hRg hWg)
    rw [if_neg e0]
    by_cases e1 : u.1 = 1
    · rw [if_pos e1]; exact fin _ (k_clause_406_x hRg hWg)
    rw [if_neg e1]
    by_cases e2 : u.1 = 2
    · rw [if_pos e2]; exact fin _ (k_clause_181_x hRg hWg hfg e2)
    rw [if_neg e2]
    by_cases e3 : u.1 = 3
    · rw [if_pos e3]; exact fin _ (k_clause_220_x hRg hWg hfg e3)
    rw [if_neg e3]
    by_cases e4 : u.1 = 4
    · rw [if_pos e4]; exact fin _ (k_clause_238_x hRg hWg hfg e4)
    rw [if_neg e4]
    by_cases e5 : u.1 = 5
    · rw [if_pos e5]; exact fin _ (k_clause_256_x hRg hWg hfg e5)
    rw [if_neg e5]
    by_cases e6 : u.1 = 6
    · rw [if_pos e6]; exact fin _ (k_clause_293_x hRg hWg hfg e6)
    rw [if_neg e6]
    by_cases e7 : u.1 = 7
    · rw [if_pos e7]; exact fin _ (k_clause_335_x hRg hWg)
    rw [if_neg e7]
    by_cases e8 : u.1 = 8
    · rw [if_pos e8]; exact fin _ (RC_s (k_windHere_c hRg hWg (by have := hfl.2.2.2.2.2.1 e8; omega)))
    rw [if_neg e8]
    by_cases e9 : u.1 = 9
    · rw [if_pos e9]; exact fin _ (RC_s (k_thinHere_c hRg hWg (by have := hfl.2.2.2.2.2.2.1 e9; omega)))
    rw [if_neg e9]
    by_cases e10 : u.1 = 10
    · rw [if_pos e10]; exact fin _ (k_clause_366_x hRg hWg hfg e10)
    rw [if_neg e10]
    exact fin _ (k_clause_406_x hRg hWg)
  · rw [if_neg h5]
    exact ⟨hdx.1.1, hwd, fun q => absurd q h5⟩
