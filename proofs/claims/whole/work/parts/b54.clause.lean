/-! THE TIE: a clause -/
theorem st_port {e s P : am_F} (hP : P 0 4 ≠ 0) : (c_readPort e s P).2 = P := by
  simp only [c_readPort, number_s hP]
theorem st_sight {e s P : am_F} (hP : P 0 4 ≠ 0) : (c_readSight e s P).2 = P := by
  simp only [c_readSight, number_s hP]
theorem st_fog {e s P : am_F} (hP : P 0 4 ≠ 0) : (c_readBank e s P).2 = c_readBlock e s P := by
  have h9 := (readBlock_s (ee := e) (ss := s) hP).1
  have h8 : c_readBlock e s P 0 4 ≠ 0 := by rw [h9]; exact hP
  simp only [c_readBank, number_s h8]
theorem st_lot {e s P : am_F} (hP : c_needRoom4 s P 0 4 ≠ 0) : (c_readLot e s P).2 = c_readBlock e s (c_needRoom4 s P) := by
  have h9 := (readBlock_s (ee := e) (ss := s) hP).1
  have h8 : c_readBlock e s (c_needRoom4 s P) 0 4 ≠ 0 := by rw [h9]; exact hP
  simp only [c_readLot, c_fine_0 h8, reduceIte, number_s h8]
theorem st_walk {e s P : am_F} (hP : c_needRoom5 s P 0 4 ≠ 0) : (c_readWalk e s P).2 = c_needRoom5 s P := by
  simp only [c_readWalk, c_readCell, c_readStep, number_s hP, word_s hP, c_fine_0 hP, reduceIte]
theorem st_wind {e s P : am_F} (hP : c_needRoom0 s P 0 4 ≠ 0) : (c_readWind e s P).2 = c_needRoom0 s P := by
  simp only [c_readWind, c_readCell, c_readStep, number_s hP]
theorem st_thin {e s P : am_F} (hP : c_needRoom1 s P 0 4 ≠ 0) : (c_readThin e s P).2 = c_needRoom1 s P := by
  simp only [c_readThin, c_readCell, c_readStep, number_s hP]
theorem st_lamp {e s P : am_F} (hP : c_needRoom2 s P 0 4 ≠ 0) : (c_readLamp e s P).2 = c_needRoom2 s P := by
  simp only [c_readLamp, c_readCell, c_readStep, number_s hP]
theorem st_steamer {e s P : am_F} (hP : c_needRoom3 s P 0 4 ≠ 0) : (c_readSteamer e s P).2 = c_needRoom3 s P := by
  simp only [c_readSteamer, c_readCell, c_readStep, number_s hP]
theorem st_watch {e s P : am_F} (hP : c_needRoom6 s P 0 4 ≠ 0) : (c_readWatch e s P).2 = c_needRoom6 s P := by
  simp only [c_readWatch, c_readCell, c_readStep, number_s hP]
theorem st_ship {e s P : am_F} (hP : c_needRoom7 s P 0 4 ≠ 0) : (c_readShip e s P).2 = c_needRoom7 s P := by
  simp only [c_readShip, c_readCell, c_readStep, number_s hP]
theorem rr_sign5 {c : am_F} {sg : Int} (h : k_sign c sg 0 5 = 0) : c 0 5 = 0 := by
  by_cases g : c 0 5 = 0
  · exact g
  · rw [show k_sign c sg = c from if_neg g] at h; exact h
/-- a clause that is read -/
theorem cc_fin {e u s' D D' : am_F} {n : Int} (t : TpI e) (hn : n < 60) (a : RR e u D') (b : D' 0 5 = 0 → HR s' D') (h7 : D' 0 7 = n + 1) : RR e (c_needSign e u 59) (k_sign D' 59) ∧ (k_sign D' 59 0 5 = 0 → HR s' (k_sign D' 59) ∧ k_sign D' 59 0 7 = n + 1 ∧ n < 60) := by
  have hx := (k_sign_x (sg := 59) a.2.2.2.2.2.2 (by decide)).2
  exact ⟨rr_sign a t (by decide), fun g => ⟨HR_L (b (rr_sign5 g)) hx, (hx.2 7 (by decide) (by decide) (by decide)).trans h7, hn⟩⟩
/-- one that is at fault -/
theorem cc_bad {e u P9 M : am_F} {Q : Prop} (h : RR e P9 M) (h5 : M 0 5 ≠ 0) (hI : RdI u) (h1 : u 0 1 = P9 0 1) (h4 : u 0 4 = P9 0 4) (hp : u 0 5 = P9 0 5) : RR e (c_needSign e u 59) M ∧ (M 0 5 = 0 → Q) := by
  have h9 := rr_still h h5 hI h1 h4 hp
  rw [needSign_s (by rw [h9.1]; exact h5)]
  exact ⟨h9, fun g => absurd g h5⟩
theorem cc_bad0 {e P9 M : am_F} {Q : Prop} (h : RR e P9 M) (h5 : M 0 5 ≠ 0) : RR e (c_needSign e P9 59) M ∧ (M 0 5 = 0 → Q) := cc_bad h h5 h.2.2.2.2.2.1 rfl rfl rfl
theorem cc_badB {e s P9 M : am_F} {Q : Prop} (t : TpI e) (hS : SpI s) (h : RR e P9 M) (h5 : M 0 5 ≠ 0) : RR e (c_needSign e (c_readBlock e s P9) 59) M ∧ (M 0 5 = 0 → Q) := by
  have h4 : P9 0 4 ≠ 0 := by rw [h.1]; exact h5
  exact cc_bad h h5 (c_readBlock_x h.2.2.2.2.2.1 t hS).1 (readBlock_1 h.2.2.2.2.2.1 t hS) (readBlock_s h4).1 (readBlock_s h4).2
theorem cc_0 {e p c s : am_F} (h : RR e p c) (t : TpI e) (h0 : c 0 5 = 0) (hR : HR s c) (hE : c 0 7 = 0 → Em s c) (hS : SpI s) (h7 : 0 ≤ c 0 7 ∧ c 0 7 ≤ 60) (hv : rK (k_wordHere c).1 = 0) (hsm : k_isSmall (k_byteAt (k_blanks c) (k_blanks c 0 4)) = 1) : (RR e (c_readClause e s p (c 0 7)).2 (k_clause c) ∧ (k_clause c 0 5 = 0 → HR (c_readClause e s p (c 0 7)).1 (k_clause c) ∧ k_clause c 0 7 = c 0 7 + 1 ∧ c 0 7 < 60)) ∧ KE c (k_clause c) := by
  obtain ⟨wd, -, w3, -, w5⟩ := rr_word h t h0
  obtain ⟨x1, x2, x3, x4, x5⟩ := w5 hsm
  have hkC := (rr_kindC wd).trans hv
  have hkK := rr_kindK h.2.2.2.2.2.2 h0
  rw [hv] at hkK
  have hk' : k_kindHere c = (0, k_blanks c) := hkK
  have hBx := k_blanks_x h.2.2.2.2.2.2
  have hB5 : k_blanks c 0 5 = 0 := k_blanks_5.trans h0
  have hB7 : k_blanks c 0 7 = c 0 7 := hBx.2.2 7 (by decide) (by decide) (by decide)
  obtain ⟨XC, eC0⟩ : ∃ X, c_readClause e s p (c 0 7) = X := ⟨_, rfl⟩
  obtain ⟨XK, eK0⟩ : ∃ X, k_clause c = X := ⟨_, rfl⟩
  have eC := eC0
  have eK := eK0
  unfold c_readClause at eC
  unfold k_clause at eK
  dsimp only at eC eK
  rw [hkC] at eC
  rw [hk'] at eK
  simp only [Int.reduceEq, Int.reduceNeg, reduceIte] at eC eK
  rw [eC0, eK0]
  clear eC0 eK0 hkC hkK hk' wd
  subst eC
  subst eK
  generalize (c_word e p).2 = P at *
  have hw : ∀ x, x ≠ 0 → RR e (c_wrong P x (P 0 3)) (k_wrong (k_blanks c) x (k_blanks c 0 4)) := fun x hx => by
    rw [w3]
    exact rr_wrong2 x1 hx x3 hB5 (x4 0 2 (by decide)).symm (by funext j; exact (x4 1 j (fun e => absurd e.1 (by decide))).symm) hBx.1
  have hP0 : P 0 4 = 0 := x1.1.trans x3
  have hwk : ∀ x, x ≠ 0 → c_wrong P x (P 0 3) 0 4 ≠ 0 := fun x hx => wrong_k hx
  have hKw : ∀ x y, KE c (k_wrong (k_blanks c) x y) := fun x y => KE_D (KD_L (Lx_t hBx.2 (k_wrong_x hBx.1).2))
  have hmk : ∀ x, x ≠ 0 → k_wrong (k_blanks c) x (k_blanks c 0 4) 0 5 ≠ 0 := fun x hx => k_wrong_5 hx
  by_cases g60 : c 0 7 = 60
  · rw [if_neg (show ¬ c 0 7 < 60 by omega), if_pos (hB7.trans g60), if_neg (hmk 3 (by decide))]
    rw [st_port (hwk 3 (by decide))]
    exact ⟨cc_bad0 (hw 3 (by decide)) (hmk 3 (by decide)), hKw _ _⟩
  rw [if_pos (show c 0 7 < 60 by omega), if_neg (show ¬ k_blanks c 0 7 = 60 by rw [hB7]; exact g60)]
  have eF : k_isFull (k_blanks c) 0 = 0 := by
    unfold k_isFull
    simp only [Int.reduceEq, reduceIte]
  rw [eF, if_pos rfl]
  by_cases gL : c 0 7 ≤ 0
  case neg =>
    rw [if_neg gL, if_neg (show ¬ k_blanks c 0 7 ≤ 0 by rw [hB7]; exact gL), if_neg (hmk 4 (by decide)), st_port (hwk 4 (by decide))]
    exact ⟨cc_bad0 (hw 4 (by decide)) (hmk 4 (by decide)), hKw _ _⟩
  rw [if_pos gL, if_pos (show k_blanks c 0 7 ≤ 0 by rw [hB7]; exact gL)]
  rw [if_pos hB5]
  have hk0 : ∀ k, k ≠ 0 → am_put (k_skipWord (k_blanks c)) 0 7 (k_skipWord (k_blanks c) 0 7 + 1) k = c k := fun k hk => (am_put_kr hk).trans ((funext fun j => x4 k j (fun e => hk e.1)).trans (hBx.2.1 k hk))
  have hk1 : ∀ j, j ≠ 4 → j ≠ 5 → j ≠ 6 → j ≠ 7 → am_put (k_skipWord (k_blanks c)) 0 7 (k_skipWord (k_blanks c) 0 7 + 1) 0 j = c 0 j := fun j j4 j5 j6 j7 => (am_put_i j7).trans ((x4 0 j (fun e => j4 e.2)).trans (hBx.2.2 j j4 j5 j6))
  have hD7 : am_put (k_skipWord (k_blanks c)) 0 7 (k_skipWord (k_blanks c) 0 7 + 1) 0 7 = c 0 7 + 1 := by rw [am_put_s, x4 0 7 (by decide), hB7]
  have hD : RR e P (am_put (k_skipWord (k_blanks c)) 0 7 (k_skipWord (k_blanks c) 0 7 + 1)) := rr_c x1 (am_put_kr (by decide)) (fun j hj => am_put_i (by omega))
  generalize am_put (k_skipWord (k_blanks c)) 0 7 (k_skipWord (k_blanks c) 0 7 + 1) = D at *
  have hRD : HR s D := HR_n hR hk0 (fun j hj => hk1 j (by omega) (by omega) (by omega) (by omega))
  have hED : Em s D := by
    have h9 := hE (by omega)
    unfold Em at h9 ⊢
    rw [hk0 3 (by decide), hk0 5 (by decide), hk1 56 (by decide) (by decide) (by decide) (by decide), hk1 57 (by decide) (by decide) (by decide) (by decide)]
    exact h9
  obtain ⟨D', e1, a, b, cc⟩ := cl_port hD t hRD hED
  rw [e1]
  exact ⟨cc_fin (D := D) t (by omega) a b ((cc.2 7 (by decide) (by decide) (by decide) (by decide) (by decide)).trans hD7), KE_t ⟨fun k k0 _ => hk0 k k0, fun j a1 a2 a3 a4 _ _ => hk1 j a1 a2 a3 a4⟩ (KE_t (KE_D cc) (KE_D (KD_L (k_sign_x a.2.2.2.2.2.2 (by decide)).2)))⟩
theorem cc_1 {e p c s : am_F} (h : RR e p c) (t : TpI e) (h0 : c 0 5 = 0) (hR : HR s c) (hE : c 0 7 = 0 → Em s c) (hS : SpI s) (h7 : 0 ≤ c 0 7 ∧ c 0 7 ≤ 60) (hv : rK (k_wordHere c).1 = 1) (hsm : k_isSmall (k_byteAt (k_blanks c) (k_blanks c 0 4)) = 1) : (RR e (c_readClause e s p (c 0 7)).2 (k_clause c) ∧ (k_clause c 0 5 = 0 → HR (c_readClause e s p (c 0 7)).1 (k_clause c) ∧ k_clause c 0 7 = c 0 7 + 1 ∧ c 0 7 < 60)) ∧ KE c (k_clause c) := by
  obtain ⟨wd, -, w3, -, w5⟩ := rr_word h t h0
  obtain ⟨x1, x2, x3, x4, x5⟩ := w5 hsm
  have hkC := (rr_kindC wd).trans hv
  have hkK := rr_kindK h.2.2.2.2.2.2 h0
  rw [hv] at hkK
  have hk' : k_kindHere c = (11, k_blanks c) := hkK
  have hBx := k_blanks_x h.2.2.2.2.2.2
  have hB5 : k_blanks c 0 5 = 0 := k_blanks_5.trans h0
  have hB7 : k_blanks c 0 7 = c 0 7 := hBx.2.2 7 (by decide) (by decide) (by decide)
  obtain ⟨XC, eC0⟩ : ∃ X, c_readClause e s p (c 0 7) = X := ⟨_, rfl⟩
  obtain ⟨XK, eK0⟩ : ∃ X, k_clause c = X := ⟨_, rfl⟩
  have eC := eC0
  have eK := eK0
  unfold c_readClause at eC
  unfold k_clause at eK
  dsimp only at eC eK
  rw [hkC] at eC
  rw [hk'] at eK
  simp only [Int.reduceEq, Int.reduceNeg, reduceIte] at eC eK
  rw [eC0, eK0]
  clear eC0 eK0 hkC hkK hk' wd
  subst eC
  subst eK
  generalize (c_word e p).2 = P at *
  have hw : ∀ x, x ≠ 0 → RR e (c_wrong P x (P 0 3)) (k_wrong (k_blanks c) x (k_blanks c 0 4)) := fun x hx => by
    rw [w3]
    exact rr_wrong2 x1 hx x3 hB5 (x4 0 2 (by decide)).symm (by funext j; exact (x4 1 j (fun e => absurd e.1 (by decide))).symm) hBx.1
  have hP0 : P 0 4 = 0 := x1.1.trans x3
  have hwk : ∀ x, x ≠ 0 → c_wrong P x (P 0 3) 0 4 ≠ 0 := fun x hx => wrong_k hx
  have hKw : ∀ x y, KE c (k_wrong (k_blanks c) x y) := fun x y => KE_D (KD_L (Lx_t hBx.2 (k_wrong_x hBx.1).2))
  have hmk : ∀ x, x ≠ 0 → k_wrong (k_blanks c) x (k_blanks c 0 4) 0 5 ≠ 0 := fun x hx => k_wrong_5 hx
  by_cases g60 : c 0 7 = 60
  · rw [if_neg (show ¬ c 0 7 < 60 by omega), if_pos (hB7.trans g60), if_neg (hmk 3 (by decide))]
    rw [st_fog (hwk 3 (by decide))]
    exact ⟨cc_badB t hS (hw 3 (by decide)) (hmk 3 (by decide)), hKw _ _⟩
  rw [if_pos (show c 0 7 < 60 by omega), if_neg (show ¬ k_blanks c 0 7 = 60 by rw [hB7]; exact g60)]
  have eF : k_isFull (k_blanks c) 11 = 0 := by
    unfold k_isFull
    simp only [Int.reduceEq, reduceIte]
  rw [eF, if_pos rfl]
  rw [if_pos hB5]
  have hk0 : ∀ k, k ≠ 0 → am_put (k_skipWord (k_blanks c)) 0 7 (k_skipWord (k_blanks c) 0 7 + 1) k = c k := fun k hk => (am_put_kr hk).trans ((funext fun j => x4 k j (fun e => hk e.1)).trans (hBx.2.1 k hk))
  have hk1 : ∀ j, j ≠ 4 → j ≠ 5 → j ≠ 6 → j ≠ 7 → am_put (k_skipWord (k_blanks c)) 0 7 (k_skipWord (k_blanks c) 0 7 + 1) 0 j = c 0 j := fun j j4 j5 j6 j7 => (am_put_i j7).trans ((x4 0 j (fun e => j4 e.2)).trans (hBx.2.2 j j4 j5 j6))
  have hD7 : am_put (k_skipWord (k_blanks c)) 0 7 (k_skipWord (k_blanks c) 0 7 + 1) 0 7 = c 0 7 + 1 := by rw [am_put_s, x4 0 7 (by decide), hB7]
  have hD : RR e P (am_put (k_skipWord (k_blanks c)) 0 7 (k_skipWord (k_blanks c) 0 7 + 1)) := rr_c x1 (am_put_kr (by decide)) (fun j hj => am_put_i (by omega))
  generalize am_put (k_skipWord (k_blanks c)) 0 7 (k_skipWord (k_blanks c) 0 7 + 1) = D at *
  have hRD : HR s D := HR_n hR hk0 (fun j hj => hk1 j (by omega) (by omega) (by omega) (by omega))
  obtain ⟨D', e1, a, b, cc⟩ := cl_fog hD t hRD hS
  rw [e1]
  exact ⟨cc_fin (D := D) t (by omega) a b ((cc.2 7 (by decide) (by decide) (by decide) (by decide) (by decide)).trans hD7), KE_t ⟨fun k k0 _ => hk0 k k0, fun j a1 a2 a3 a4 _ _ => hk1 j a1 a2 a3 a4⟩ (KE_t (KE_D cc) (KE_D (KD_L (k_sign_x a.2.2.2.2.2.2 (by decide)).2)))⟩
theorem cc_2 {e p c s : am_F} (h : RR e p c) (t : TpI e) (h0 : c 0 5 = 0) (hR : HR s c) (hE : c 0 7 = 0 → Em s c) (hS : SpI s) (h7 : 0 ≤ c 0 7 ∧ c 0 7 ≤ 60) (hv : rK (k_wordHere c).1 = 2) (hsm : k_isSmall (k_byteAt (k_blanks c) (k_blanks c 0 4)) = 1) : (RR e (c_readClause e s p (c 0 7)).2 (k_clause c) ∧ (k_clause c 0 5 = 0 → HR (c_readClause e s p (c 0 7)).1 (k_clause c) ∧ k_clause c 0 7 = c 0 7 + 1 ∧ c 0 7 < 60)) ∧ KE c (k_clause c) := by
  obtain ⟨wd, -, w3, -, w5⟩ := rr_word h t h0
  obtain ⟨x1, x2, x3, x4, x5⟩ := w5 hsm
  have hkC := (rr_kindC wd).trans hv
  have hkK := rr_kindK h.2.2.2.2.2.2 h0
  rw [hv] at hkK
  have hk' : k_kindHere c = (8, k_blanks c) := hkK
  have hBx := k_blanks_x h.2.2.2.2.2.2
  have hB5 : k_blanks c 0 5 = 0 := k_blanks_5.trans h0
  have hB7 : k_blanks c 0 7 = c 0 7 := hBx.2.2 7 (by decide) (by decide) (by decide)
  obtain ⟨XC, eC0⟩ : ∃ X, c_readClause e s p (c 0 7) = X := ⟨_, rfl⟩
  obtain ⟨XK, eK0⟩ : ∃ X, k_clause c = X := ⟨_, rfl⟩
  have eC := eC0
  have eK := eK0
  unfold c_readClause at eC
  unfold k_clause at eK
  dsimp only at eC eK
  rw [hkC] at eC
  rw [hk'] at eK
  simp only [Int.reduceEq, Int.reduceNeg, reduceIte] at eC eK
  rw [eC0, eK0]
  clear eC0 eK0 hkC hkK hk' wd
  subst eC
  subst eK
  generalize (c_word e p).2 = P at *
  have hw : ∀ x, x ≠ 0 → RR e (c_wrong P x (P 0 3)) (k_wrong (k_blanks c) x (k_blanks c 0 4)) := fun x hx => by
    rw [w3]
    exact rr_wrong2 x1 hx x3 hB5 (x4 0 2 (by decide)).symm (by funext j; exact (x4 1 j (fun e => absurd e.1 (by decide))).symm) hBx.1
  have hP0 : P 0 4 = 0 := x1.1.trans x3
  have hwk : ∀ x, x ≠ 0 → c_wrong P x (P 0 3) 0 4 ≠ 0 := fun x hx => wrong_k hx
  have hKw : ∀ x y, KE c (k_wrong (k_blanks c) x y) := fun x y => KE_D (KD_L (Lx_t hBx.2 (k_wrong_x hBx.1).2))
  have hmk : ∀ x, x ≠ 0 → k_wrong (k_blanks c) x (k_blanks c 0 4) 0 5 ≠ 0 := fun x hx => k_wrong_5 hx
  by_cases g60 : c 0 7 = 60
  · rw [if_neg (show ¬ c 0 7 < 60 by omega), if_pos (hB7.trans g60), if_neg (hmk 3 (by decide))]
    have hs9 := needRoom0_s (ss := s) (hwk 3 (by decide))
    rw [st_wind (by rw [hs9]; exact hwk 3 (by decide)), hs9]
    exact ⟨cc_bad0 (hw 3 (by decide)) (hmk 3 (by decide)), hKw _ _⟩
  rw [if_pos (show c 0 7 < 60 by omega), if_neg (show ¬ k_blanks c 0 7 = 60 by rw [hB7]; exact g60)]
  have eF : k_isFull (k_blanks c) 8 = if c 0 56 = 12 then 1 else 0 := by
    unfold k_isFull
    simp only [Int.reduceEq, reduceIte]
    rw [show k_blanks c 0 56 = c 0 56 from hBx.2.2 56 (by decide) (by decide) (by decide)]
  have hn := hR.2.1.1
  by_cases gF : c 0 56 = 12
  · rw [if_pos gF] at eF
    have eR := rrmX0 (s := s) (P := P) (by omega)
    rw [eF, if_neg (show ¬ (1 : Int) = 0 by decide), if_neg (hmk 3 (by decide)), st_wind (by rw [eR]; exact hwk 3 (by decide)), eR]
    exact ⟨cc_bad0 (hw 3 (by decide)) (hmk 3 (by decide)), hKw _ _⟩
  rw [if_neg gF] at eF
  rw [eF, if_pos rfl]
  rw [if_pos hB5]
  have hk0 : ∀ k, k ≠ 0 → am_put (k_skipWord (k_blanks c)) 0 7 (k_skipWord (k_blanks c) 0 7 + 1) k = c k := fun k hk => (am_put_kr hk).trans ((funext fun j => x4 k j (fun e => hk e.1)).trans (hBx.2.1 k hk))
  have hk1 : ∀ j, j ≠ 4 → j ≠ 5 → j ≠ 6 → j ≠ 7 → am_put (k_skipWord (k_blanks c)) 0 7 (k_skipWord (k_blanks c) 0 7 + 1) 0 j = c 0 j := fun j j4 j5 j6 j7 => (am_put_i j7).trans ((x4 0 j (fun e => j4 e.2)).trans (hBx.2.2 j j4 j5 j6))
  have hD7 : am_put (k_skipWord (k_blanks c)) 0 7 (k_skipWord (k_blanks c) 0 7 + 1) 0 7 = c 0 7 + 1 := by rw [am_put_s, x4 0 7 (by decide), hB7]
  have hD : RR e P (am_put (k_skipWord (k_blanks c)) 0 7 (k_skipWord (k_blanks c) 0 7 + 1)) := rr_c x1 (am_put_kr (by decide)) (fun j hj => am_put_i (by omega))
  generalize am_put (k_skipWord (k_blanks c)) 0 7 (k_skipWord (k_blanks c) 0 7 + 1) = D at *
  have hRD : HR s D := HR_n hR hk0 (fun j hj => hk1 j (by omega) (by omega) (by omega) (by omega))
  obtain ⟨D', e1, a, b, cc⟩ := cl_wind hD t hRD (by rw [show D 0 56 = c 0 56 from hk1 56 (by decide) (by decide) (by decide) (by decide)]; exact gF)
  rw [e1]
  exact ⟨cc_fin (D := D) t (by omega) a b ((cc.2 7 (by decide) (by decide) (by decide) (by decide) (by decide)).trans hD7), KE_t ⟨fun k k0 _ => hk0 k k0, fun j a1 a2 a3 a4 _ _ => hk1 j a1 a2 a3 a4⟩ (KE_t (KE_D cc) (KE_D (KD_L (k_sign_x a.2.2.2.2.2.2 (by decide)).2)))⟩
theorem cc_3 {e p c s : am_F} (h : RR e p c) (t : TpI e) (h0 : c 0 5 = 0) (hR : HR s c) (hE : c 0 7 = 0 → Em s c) (hS : SpI s) (h7 : 0 ≤ c 0 7 ∧ c 0 7 ≤ 60) (hv : rK (k_wordHere c).1 = 3) (hsm : k_isSmall (k_byteAt (k_blanks c) (k_blanks c 0 4)) = 1) : (RR e (c_readClause e s p (c 0 7)).2 (k_clause c) ∧ (k_clause c 0 5 = 0 → HR (c_readClause e s p (c 0 7)).1 (k_clause c) ∧ k_clause c 0 7 = c 0 7 + 1 ∧ c 0 7 < 60)) ∧ KE c (k_clause c) := by
  obtain ⟨wd, -, w3, -, w5⟩ := rr_word h t h0
  obtain ⟨x1, x2, x3, x4, x5⟩ := w5 hsm
  have hkC := (rr_kindC wd).trans hv
  have hkK := rr_kindK h.2.2.2.2.2.2 h0
  rw [hv] at hkK
  have hk' : k_kindHere c = (9, k_blanks c) := hkK
  have hBx := k_blanks_x h.2.2.2.2.2.2
  have hB5 : k_blanks c 0 5 = 0 := k_blanks_5.trans h0
  have hB7 : k_blanks c 0 7 = c 0 7 := hBx.2.2 7 (by decide) (by decide) (by decide)
  obtain ⟨XC, eC0⟩ : ∃ X, c_readClause e s p (c 0 7) = X := ⟨_, rfl⟩
  obtain ⟨XK, eK0⟩ : ∃ X, k_clause c = X := ⟨_, rfl⟩
  have eC := eC0
  have eK := eK0
  unfold c_readClause at eC
  unfold k_clause at eK
  dsimp only at eC eK
  rw [hkC] at eC
  rw [hk'] at eK
  simp only [Int.reduceEq, Int.reduceNeg, reduceIte] at eC eK
  rw [eC0, eK0]
  clear eC0 eK0 hkC hkK hk' wd
  subst eC
  subst eK
  generalize (c_word e p).2 = P at *
  have hw : ∀ x, x ≠ 0 → RR e (c_wrong P x (P 0 3)) (k_wrong (k_blanks c) x (k_blanks c 0 4)) := fun x hx => by
    rw [w3]
    exact rr_wrong2 x1 hx x3 hB5 (x4 0 2 (by decide)).symm (by funext j; exact (x4 1 j (fun e => absurd e.1 (by decide))).symm) hBx.1
  have hP0 : P 0 4 = 0 := x1.1.trans x3
  have hwk : ∀ x, x ≠ 0 → c_wrong P x (P 0 3) 0 4 ≠ 0 := fun x hx => wrong_k hx
  have hKw : ∀ x y, KE c (k_wrong (k_blanks c) x y) := fun x y => KE_D (KD_L (Lx_t hBx.2 (k_wrong_x hBx.1).2))
  have hmk : ∀ x, x ≠ 0 → k_wrong (k_blanks c) x (k_blanks c 0 4) 0 5 ≠ 0 := fun x hx => k_wrong_5 hx
  by_cases g60 : c 0 7 = 60
  · rw [if_neg (show ¬ c 0 7 < 60 by omega), if_pos (hB7.trans g60), if_neg (hmk 3 (by decide))]
    have hs9 := needRoom1_s (ss := s) (hwk 3 (by decide))
    rw [st_thin (by rw [hs9]; exact hwk 3 (by decide)), hs9]
    exact ⟨cc_bad0 (hw 3 (by decide)) (hmk 3 (by decide)), hKw _ _⟩
  rw [if_pos (show c 0 7 < 60 by omega), if_neg (show ¬ k_blanks c 0 7 = 60 by rw [hB7]; exact g60)]
  have eF : k_isFull (k_blanks c) 9 = if c 0 57 = 12 then 1 else 0 := by
    unfold k_isFull
    simp only [Int.reduceEq, reduceIte]
    rw [show k_blanks c 0 57 = c 0 57 from hBx.2.2 57 (by decide) (by decide) (by decide)]
  have hn := hR.2.2.1.1
  by_cases gF : c 0 57 = 12
  · rw [if_pos gF] at eF
    have eR := rrmX1 (s := s) (P := P) (by omega)
    rw [eF, if_neg (show ¬ (1 : Int) = 0 by decide), if_neg (hmk 3 (by decide)), st_thin (by rw [eR]; exact hwk 3 (by decide)), eR]
    exact ⟨cc_bad0 (hw 3 (by decide)) (hmk 3 (by decide)), hKw _ _⟩
  rw [if_neg gF] at eF
  rw [eF, if_pos rfl]
  rw [if_pos hB5]
  have hk0 : ∀ k, k ≠ 0 → am_put (k_skipWord (k_blanks c)) 0 7 (k_skipWord (k_blanks c) 0 7 + 1) k = c k := fun k hk => (am_put_kr hk).trans ((funext fun j => x4 k j (fun e => hk e.1)).trans (hBx.2.1 k hk))
  have hk1 : ∀ j, j ≠ 4 → j ≠ 5 → j ≠ 6 → j ≠ 7 → am_put (k_skipWord (k_blanks c)) 0 7 (k_skipWord (k_blanks c) 0 7 + 1) 0 j = c 0 j := fun j j4 j5 j6 j7 => (am_put_i j7).trans ((x4 0 j (fun e => j4 e.2)).trans (hBx.2.2 j j4 j5 j6))
  have hD7 : am_put (k_skipWord (k_blanks c)) 0 7 (k_skipWord (k_blanks c) 0 7 + 1) 0 7 = c 0 7 + 1 := by rw [am_put_s, x4 0 7 (by decide), hB7]
  have hD : RR e P (am_put (k_skipWord (k_blanks c)) 0 7 (k_skipWord (k_blanks c) 0 7 + 1)) := rr_c x1 (am_put_kr (by decide)) (fun j hj => am_put_i (by omega))
  generalize am_put (k_skipWord (k_blanks c)) 0 7 (k_skipWord (k_blanks c) 0 7 + 1) = D at *
  have hRD : HR s D := HR_n hR hk0 (fun j hj => hk1 j (by omega) (by omega) (by omega) (by omega))
  obtain ⟨D', e1, a, b, cc⟩ := cl_thin hD t hRD (by rw [show D 0 57 = c 0 57 from hk1 57 (by decide) (by decide) (by decide) (by decide)]; exact gF)
  rw [e1]
  exact ⟨cc_fin (D := D) t (by omega) a b ((cc.2 7 (by decide) (by decide) (by decide) (by decide) (by decide)).trans hD7), KE_t ⟨fun k k0 _ => hk0 k k0, fun j a1 a2 a3 a4 _ _ => hk1 j a1 a2 a3 a4⟩ (KE_t (KE_D cc) (KE_D (KD_L (k_sign_x a.2.2.2.2.2.2 (by decide)).2)))⟩
theorem cc_4 {e p c s : am_F} (h : RR e p c) (t : TpI e) (h0 : c 0 5 = 0) (hR : HR s c) (hE : c 0 7 = 0 → Em s c) (hS : SpI s) (h7 : 0 ≤ c 0 7 ∧ c 0 7 ≤ 60) (hv : rK (k_wordHere c).1 = 4) (hsm : k_isSmall (k_byteAt (k_blanks c) (k_blanks c 0 4)) = 1) : (RR e (c_readClause e s p (c 0 7)).2 (k_clause c) ∧ (k_clause c 0 5 = 0 → HR (c_readClause e s p (c 0 7)).1 (k_clause c) ∧ k_clause c 0 7 = c 0 7 + 1 ∧ c 0 7 < 60)) ∧ KE c (k_clause c) := by
  obtain ⟨wd, -, w3, -, w5⟩ := rr_word h t h0
  obtain ⟨x1, x2, x3, x4, x5⟩ := w5 hsm
  have hkC := (rr_kindC wd).trans hv
  have hkK := rr_kindK h.2.2.2.2.2.2 h0
  rw [hv] at hkK
  have hk' : k_kindHere c = (2, k_blanks c) := hkK
  have hBx := k_blanks_x h.2.2.2.2.2.2
  have hB5 : k_blanks c 0 5 = 0 := k_blanks_5.trans h0
  have hB7 : k_blanks c 0 7 = c 0 7 := hBx.2.2 7 (by decide) (by decide) (by decide)
  obtain ⟨XC, eC0⟩ : ∃ X, c_readClause e s p (c 0 7) = X := ⟨_, rfl⟩
  obtain ⟨XK, eK0⟩ : ∃ X, k_clause c = X := ⟨_, rfl⟩
  have eC := eC0
  have eK := eK0
  unfold c_readClause at eC
  unfold k_clause at eK
  dsimp only at eC eK
  rw [hkC] at eC
  rw [hk'] at eK
  simp only [Int.reduceEq, Int.reduceNeg, reduceIte] at eC eK
  rw [eC0, eK0]
  clear eC0 eK0 hkC hkK hk' wd
  subst eC
  subst eK
  generalize (c_word e p).2 = P at *
  have hw : ∀ x, x ≠ 0 → RR e (c_wrong P x (P 0 3)) (k_wrong (k_blanks c) x (k_blanks c 0 4)) := fun x hx => by
    rw [w3]
    exact rr_wrong2 x1 hx x3 hB5 (x4 0 2 (by decide)).symm (by funext j; exact (x4 1 j (fun e => absurd e.1 (by decide))).symm) hBx.1
  have hP0 : P 0 4 = 0 := x1.1.trans x3
  have hwk : ∀ x, x ≠ 0 → c_wrong P x (P 0 3) 0 4 ≠ 0 := fun x hx => wrong_k hx
  have hKw : ∀ x y, KE c (k_wrong (k_blanks c) x y) := fun x y => KE_D (KD_L (Lx_t hBx.2 (k_wrong_x hBx.1).2))
  have hmk : ∀ x, x ≠ 0 → k_wrong (k_blanks c) x (k_blanks c 0 4) 0 5 ≠ 0 := fun x hx => k_wrong_5 hx
  by_cases g60 : c 0 7 = 60
  · rw [if_neg (show ¬ c 0 7 < 60 by omega), if_pos (hB7.trans g60), if_neg (hmk 3 (by decide))]
    have hs9 := needRoom2_s (ss := s) (hwk 3 (by decide))
    rw [st_lamp (by rw [hs9]; exact hwk 3 (by decide)), hs9]
    exact ⟨cc_bad0 (hw 3 (by decide)) (hmk 3 (by decide)), hKw _ _⟩
  rw [if_pos (show c 0 7 < 60 by omega), if_neg (show ¬ k_blanks c 0 7 = 60 by rw [hB7]; exact g60)]
  have eF : k_isFull (k_blanks c) 2 = if c 3 2 = 6 then 1 else 0 := by
    unfold k_isFull
    simp only [Int.reduceEq, reduceIte]
    rw [show k_blanks c 3 2 = c 3 2 from congrFun (hBx.2.1 3 (by decide)) 2]
  have hn := hR.2.2.2.1.1
  by_cases gF : c 3 2 = 6
  · rw [if_pos gF] at eF
    have eR := rrmX2 (s := s) (P := P) (by omega)
    rw [eF, if_neg (show ¬ (1 : Int) = 0 by decide), if_neg (hmk 3 (by decide)), st_lamp (by rw [eR]; exact hwk 3 (by decide)), eR]
    exact ⟨cc_bad0 (hw 3 (by decide)) (hmk 3 (by decide)), hKw _ _⟩
  rw [if_neg gF] at eF
  rw [eF, if_pos rfl]
  rw [if_pos hB5]
  have hk0 : ∀ k, k ≠ 0 → am_put (k_skipWord (k_blanks c)) 0 7 (k_skipWord (k_blanks c) 0 7 + 1) k = c k := fun k hk => (am_put_kr hk).trans ((funext fun j => x4 k j (fun e => hk e.1)).trans (hBx.2.1 k hk))
  have hk1 : ∀ j, j ≠ 4 → j ≠ 5 → j ≠ 6 → j ≠ 7 → am_put (k_skipWord (k_blanks c)) 0 7 (k_skipWord (k_blanks c) 0 7 + 1) 0 j = c 0 j := fun j j4 j5 j6 j7 => (am_put_i j7).trans ((x4 0 j (fun e => j4 e.2)).trans (hBx.2.2 j j4 j5 j6))
  have hD7 : am_put (k_skipWord (k_blanks c)) 0 7 (k_skipWord (k_blanks c) 0 7 + 1) 0 7 = c 0 7 + 1 := by rw [am_put_s, x4 0 7 (by decide), hB7]
  have hD : RR e P (am_put (k_skipWord (k_blanks c)) 0 7 (k_skipWord (k_blanks c) 0 7 + 1)) := rr_c x1 (am_put_kr (by decide)) (fun j hj => am_put_i (by omega))
  generalize am_put (k_skipWord (k_blanks c)) 0 7 (k_skipWord (k_blanks c) 0 7 + 1) = D at *
  have hRD : HR s D := HR_n hR hk0 (fun j hj => hk1 j (by omega) (by omega) (by omega) (by omega))
  obtain ⟨D', e1, a, b, cc⟩ := cl_lamp hD t hRD (by rw [show D 3 2 = c 3 2 from congrFun (hk0 3 (by decide)) 2]; exact gF)
  rw [e1]
  exact ⟨cc_fin (D := D) t (by omega) a b ((cc.2 7 (by decide) (by decide) (by decide) (by decide) (by decide)).trans hD7), KE_t ⟨fun k k0 _ => hk0 k k0, fun j a1 a2 a3 a4 _ _ => hk1 j a1 a2 a3 a4⟩ (KE_t (KE_D cc) (KE_D (KD_L (k_sign_x a.2.2.2.2.2.2 (by decide)).2)))⟩
theorem cc_5 {e p c s : am_F} (h : RR e p c) (t : TpI e) (h0 : c 0 5 = 0) (hR : HR s c) (hE : c 0 7 = 0 → Em s c) (hS : SpI s) (h7 : 0 ≤ c 0 7 ∧ c 0 7 ≤ 60) (hv : rK (k_wordHere c).1 = 5) (hsm : k_isSmall (k_byteAt (k_blanks c) (k_blanks c 0 4)) = 1) : (RR e (c_readClause e s p (c 0 7)).2 (k_clause c) ∧ (k_clause c 0 5 = 0 → HR (c_readClause e s p (c 0 7)).1 (k_clause c) ∧ k_clause c 0 7 = c 0 7 + 1 ∧ c 0 7 < 60)) ∧ KE c (k_clause c) := by
  obtain ⟨wd, -, w3, -, w5⟩ := rr_word h t h0
  obtain ⟨x1, x2, x3, x4, x5⟩ := w5 hsm
  have hkC := (rr_kindC wd).trans hv
  have hkK := rr_kindK h.2.2.2.2.2.2 h0
  rw [hv] at hkK
  have hk' : k_kindHere c = (10, k_blanks c) := hkK
  have hBx := k_blanks_x h.2.2.2.2.2.2
  have hB5 : k_blanks c 0 5 = 0 := k_blanks_5.trans h0
  have hB7 : k_blanks c 0 7 = c 0 7 := hBx.2.2 7 (by decide) (by decide) (by decide)
  obtain ⟨XC, eC0⟩ : ∃ X, c_readClause e s p (c 0 7) = X := ⟨_, rfl⟩
  obtain ⟨XK, eK0⟩ : ∃ X, k_clause c = X := ⟨_, rfl⟩
  have eC := eC0
  have eK := eK0
  unfold c_readClause at eC
  unfold k_clause at eK
  dsimp only at eC eK
  rw [hkC] at eC
  rw [hk'] at eK
  simp only [Int.reduceEq, Int.reduceNeg, reduceIte] at eC eK
  rw [eC0, eK0]
  clear eC0 eK0 hkC hkK hk' wd
  subst eC
  subst eK
  generalize (c_word e p).2 = P at *
  have hw : ∀ x, x ≠ 0 → RR e (c_wrong P x (P 0 3)) (k_wrong (k_blanks c) x (k_blanks c 0 4)) := fun x hx => by
    rw [w3]
    exact rr_wrong2 x1 hx x3 hB5 (x4 0 2 (by decide)).symm (by funext j; exact (x4 1 j (fun e => absurd e.1 (by decide))).symm) hBx.1
  have hP0 : P 0 4 = 0 := x1.1.trans x3
  have hwk : ∀ x, x ≠ 0 → c_wrong P x (P 0 3) 0 4 ≠ 0 := fun x hx => wrong_k hx
  have hKw : ∀ x y, KE c (k_wrong (k_blanks c) x y) := fun x y => KE_D (KD_L (Lx_t hBx.2 (k_wrong_x hBx.1).2))
  have hmk : ∀ x, x ≠ 0 → k_wrong (k_blanks c) x (k_blanks c 0 4) 0 5 ≠ 0 := fun x hx => k_wrong_5 hx
  by_cases g60 : c 0 7 = 60
  · rw [if_neg (show ¬ c 0 7 < 60 by omega), if_pos (hB7.trans g60), if_neg (hmk 3 (by decide))]
    have hs9 := needRoom3_s (ss := s) (hwk 3 (by decide))
    rw [st_steamer (by rw [hs9]; exact hwk 3 (by decide)), hs9]
    exact ⟨cc_bad0 (hw 3 (by decide)) (hmk 3 (by decide)), hKw _ _⟩
  rw [if_pos (show c 0 7 < 60 by omega), if_neg (show ¬ k_blanks c 0 7 = 60 by rw [hB7]; exact g60)]
  have eF : k_isFull (k_blanks c) 10 = if c 3 10 = 6 then 1 else 0 := by
    unfold k_isFull
    simp only [Int.reduceEq, reduceIte]
    rw [show k_blanks c 3 10 = c 3 10 from congrFun (hBx.2.1 3 (by decide)) 10]
  have hn := hR.2.2.2.2.1.1
  by_cases gF : c 3 10 = 6
  · rw [if_pos gF] at eF
    have eR := rrmX3 (s := s) (P := P) (by omega)
    rw [eF, if_neg (show ¬ (1 : Int) = 0 by decide), if_neg (hmk 3 (by decide)), st_steamer (by rw [eR]; exact hwk 3 (by decide)), eR]
    exact ⟨cc_bad0 (hw 3 (by decide)) (hmk 3 (by decide)), hKw _ _⟩
  rw [if_neg gF] at eF
  rw [eF, if_pos rfl]
  rw [if_pos hB5]
  have hk0 : ∀ k, k ≠ 0 → am_put (k_skipWord (k_blanks c)) 0 7 (k_skipWord (k_blanks c) 0 7 + 1) k = c k := fun k hk => (am_put_kr hk).trans ((funext fun j => x4 k j (fun e => hk e.1)).trans (hBx.2.1 k hk))
  have hk1 : ∀ j, j ≠ 4 → j ≠ 5 → j ≠ 6 → j ≠ 7 → am_put (k_skipWord (k_blanks c)) 0 7 (k_skipWord (k_blanks c) 0 7 + 1) 0 j = c 0 j := fun j j4 j5 j6 j7 => (am_put_i j7).trans ((x4 0 j (fun e => j4 e.2)).trans (hBx.2.2 j j4 j5 j6))
  have hD7 : am_put (k_skipWord (k_blanks c)) 0 7 (k_skipWord (k_blanks c) 0 7 + 1) 0 7 = c 0 7 + 1 := by rw [am_put_s, x4 0 7 (by decide), hB7]
  have hD : RR e P (am_put (k_skipWord (k_blanks c)) 0 7 (k_skipWord (k_blanks c) 0 7 + 1)) := rr_c x1 (am_put_kr (by decide)) (fun j hj => am_put_i (by omega))
  generalize am_put (k_skipWord (k_blanks c)) 0 7 (k_skipWord (k_blanks c) 0 7 + 1) = D at *
  have hRD : HR s D := HR_n hR hk0 (fun j hj => hk1 j (by omega) (by omega) (by omega) (by omega))
  obtain ⟨D', e1, a, b, cc⟩ := cl_steamer hD t hRD (by rw [show D 3 10 = c 3 10 from congrFun (hk0 3 (by decide)) 10]; exact gF)
  rw [e1]
  exact ⟨cc_fin (D := D) t (by omega) a b ((cc.2 7 (by decide) (by decide) (by decide) (by decide) (by decide)).trans hD7), KE_t ⟨fun k k0 _ => hk0 k k0, fun j a1 a2 a3 a4 _ _ => hk1 j a1 a2 a3 a4⟩ (KE_t (KE_D cc) (KE_D (KD_L (k_sign_x a.2.2.2.2.2.2 (by decide)).2)))⟩
theorem cc_6 {e p c s : am_F} (h : RR e p c) (t : TpI e) (h0 : c 0 5 = 0) (hR : HR s c) (hE : c 0 7 = 0 → Em s c) (hS : SpI s) (h7 : 0 ≤ c 0 7 ∧ c 0 7 ≤ 60) (hv : rK (k_wordHere c).1 = 6) (hsm : k_isSmall (k_byteAt (k_blanks c) (k_blanks c 0 4)) = 1) : (RR e (c_readClause e s p (c 0 7)).2 (k_clause c) ∧ (k_clause c 0 5 = 0 → HR (c_readClause e s p (c 0 7)).1 (k_clause c) ∧ k_clause c 0 7 = c 0 7 + 1 ∧ c 0 7 < 60)) ∧ KE c (k_clause c) := by
  obtain ⟨wd, -, w3, -, w5⟩ := rr_word h t h0
  obtain ⟨x1, x2, x3, x4, x5⟩ := w5 hsm
  have hkC := (rr_kindC wd).trans hv
  have hkK := rr_kindK h.2.2.2.2.2.2 h0
  rw [hv] at hkK
  have hk' : k_kindHere c = (3, k_blanks c) := hkK
  have hBx := k_blanks_x h.2.2.2.2.2.2
  have hB5 : k_blanks c 0 5 = 0 := k_blanks_5.trans h0
  have hB7 : k_blanks c 0 7 = c 0 7 := hBx.2.2 7 (by decide) (by decide) (by decide)
  obtain ⟨XC, eC0⟩ : ∃ X, c_readClause e s p (c 0 7) = X := ⟨_, rfl⟩
  obtain ⟨XK, eK0⟩ : ∃ X, k_clause c = X := ⟨_, rfl⟩
  have eC := eC0
  have eK := eK0
  unfold c_readClause at eC
  unfold k_clause at eK
  dsimp only at eC eK
  rw [hkC] at eC
  rw [hk'] at eK
  simp only [Int.reduceEq, Int.reduceNeg, reduceIte] at eC eK
  rw [eC0, eK0]
  clear eC0 eK0 hkC hkK hk' wd
  subst eC
  subst eK
  generalize (c_word e p).2 = P at *
  have hw : ∀ x, x ≠ 0 → RR e (c_wrong P x (P 0 3)) (k_wrong (k_blanks c) x (k_blanks c 0 4)) := fun x hx => by
    rw [w3]
    exact rr_wrong2 x1 hx x3 hB5 (x4 0 2 (by decide)).symm (by funext j; exact (x4 1 j (fun e => absurd e.1 (by decide))).symm) hBx.1
  have hP0 : P 0 4 = 0 := x1.1.trans x3
  have hwk : ∀ x, x ≠ 0 → c_wrong P x (P 0 3) 0 4 ≠ 0 := fun x hx => wrong_k hx
  have hKw : ∀ x y, KE c (k_wrong (k_blanks c) x y) := fun x y => KE_D (KD_L (Lx_t hBx.2 (k_wrong_x hBx.1).2))
  have hmk : ∀ x, x ≠ 0 → k_wrong (k_blanks c) x (k_blanks c 0 4) 0 5 ≠ 0 := fun x hx => k_wrong_5 hx
  by_cases g60 : c 0 7 = 60
  · rw [if_neg (show ¬ c 0 7 < 60 by omega), if_pos (hB7.trans g60), if_neg (hmk 3 (by decide))]
    have hs9 := needRoom4_s (ss := s) (hwk 3 (by decide))
    rw [st_lot (by rw [hs9]; exact hwk 3 (by decide)), hs9]
    exact ⟨cc_badB t hS (hw 3 (by decide)) (hmk 3 (by decide)), hKw _ _⟩
  rw [if_pos (show c 0 7 < 60 by omega), if_neg (show ¬ k_blanks c 0 7 = 60 by rw [hB7]; exact g60)]
  have eF : k_isFull (k_blanks c) 3 = if c 3 3 = 6 then 1 else 0 := by
    unfold k_isFull
    simp only [Int.reduceEq, reduceIte]
    rw [show k_blanks c 3 3 = c 3 3 from congrFun (hBx.2.1 3 (by decide)) 3]
  have hn := hR.2.2.2.2.2.1.1
  by_cases gF : c 3 3 = 6
  · rw [if_pos gF] at eF
    have eR := rrmX4 (s := s) (P := P) (by omega)
    rw [eF, if_neg (show ¬ (1 : Int) = 0 by decide), if_neg (hmk 3 (by decide)), st_lot (by rw [eR]; exact hwk 3 (by decide)), eR]
    exact ⟨cc_badB t hS (hw 3 (by decide)) (hmk 3 (by decide)), hKw _ _⟩
  rw [if_neg gF] at eF
  rw [eF, if_pos rfl]
  rw [if_pos hB5]
  have hk0 : ∀ k, k ≠ 0 → am_put (k_skipWord (k_blanks c)) 0 7 (k_skipWord (k_blanks c) 0 7 + 1) k = c k := fun k hk => (am_put_kr hk).trans ((funext fun j => x4 k j (fun e => hk e.1)).trans (hBx.2.1 k hk))
  have hk1 : ∀ j, j ≠ 4 → j ≠ 5 → j ≠ 6 → j ≠ 7 → am_put (k_skipWord (k_blanks c)) 0 7 (k_skipWord (k_blanks c) 0 7 + 1) 0 j = c 0 j := fun j j4 j5 j6 j7 => (am_put_i j7).trans ((x4 0 j (fun e => j4 e.2)).trans (hBx.2.2 j j4 j5 j6))
  have hD7 : am_put (k_skipWord (k_blanks c)) 0 7 (k_skipWord (k_blanks c) 0 7 + 1) 0 7 = c 0 7 + 1 := by rw [am_put_s, x4 0 7 (by decide), hB7]
  have hD : RR e P (am_put (k_skipWord (k_blanks c)) 0 7 (k_skipWord (k_blanks c) 0 7 + 1)) := rr_c x1 (am_put_kr (by decide)) (fun j hj => am_put_i (by omega))
  generalize am_put (k_skipWord (k_blanks c)) 0 7 (k_skipWord (k_blanks c) 0 7 + 1) = D at *
  have hRD : HR s D := HR_n hR hk0 (fun j hj => hk1 j (by omega) (by omega) (by omega) (by omega))
  obtain ⟨D', e1, a, b, cc⟩ := cl_lot hD t hRD hS (by rw [show D 3 3 = c 3 3 from congrFun (hk0 3 (by decide)) 3]; exact gF)
  rw [e1]
  exact ⟨cc_fin (D := D) t (by omega) a b ((cc.2 7 (by decide) (by decide) (by decide) (by decide) (by decide)).trans hD7), KE_t ⟨fun k k0 _ => hk0 k k0, fun j a1 a2 a3 a4 _ _ => hk1 j a1 a2 a3 a4⟩ (KE_t (KE_D cc) (KE_D (KD_L (k_sign_x a.2.2.2.2.2.2 (by decide)).2)))⟩
theorem cc_7 {e p c s : am_F} (h : RR e p c) (t : TpI e) (h0 : c 0 5 = 0) (hR : HR s c) (hE : c 0 7 = 0 → Em s c) (hS : SpI s) (h7 : 0 ≤ c 0 7 ∧ c 0 7 ≤ 60) (hv : rK (k_wordHere c).1 = 7) (hsm : k_isSmall (k_byteAt (k_blanks c) (k_blanks c 0 4)) = 1) : (RR e (c_readClause e s p (c 0 7)).2 (k_clause c) ∧ (k_clause c 0 5 = 0 → HR (c_readClause e s p (c 0 7)).1 (k_clause c) ∧ k_clause c 0 7 = c 0 7 + 1 ∧ c 0 7 < 60)) ∧ KE c (k_clause c) := by
  obtain ⟨wd, -, w3, -, w5⟩ := rr_word h t h0
  obtain ⟨x1, x2, x3, x4, x5⟩ := w5 hsm
  have hkC := (rr_kindC wd).trans hv
  have hkK := rr_kindK h.2.2.2.2.2.2 h0
  rw [hv] at hkK
  have hk' : k_kindHere c = (4, k_blanks c) := hkK
  have hBx := k_blanks_x h.2.2.2.2.2.2
  have hB5 : k_blanks c 0 5 = 0 := k_blanks_5.trans h0
  have hB7 : k_blanks c 0 7 = c 0 7 := hBx.2.2 7 (by decide) (by decide) (by decide)
  obtain ⟨XC, eC0⟩ : ∃ X, c_readClause e s p (c 0 7) = X := ⟨_, rfl⟩
  obtain ⟨XK, eK0⟩ : ∃ X, k_clause c = X := ⟨_, rfl⟩
  have eC := eC0
  have eK := eK0
  unfold c_readClause at eC
  unfold k_clause at eK
  dsimp only at eC eK
  rw [hkC] at eC
  rw [hk'] at eK
  simp only [Int.reduceEq, Int.reduceNeg, reduceIte] at eC eK
  rw [eC0, eK0]
  clear eC0 eK0 hkC hkK hk' wd
  subst eC
  subst eK
  generalize (c_word e p).2 = P at *
  have hw : ∀ x, x ≠ 0 → RR e (c_wrong P x (P 0 3)) (k_wrong (k_blanks c) x (k_blanks c 0 4)) := fun x hx => by
    rw [w3]
    exact rr_wrong2 x1 hx x3 hB5 (x4 0 2 (by decide)).symm (by funext j; exact (x4 1 j (fun e => absurd e.1 (by decide))).symm) hBx.1
  have hP0 : P 0 4 = 0 := x1.1.trans x3
  have hwk : ∀ x, x ≠ 0 → c_wrong P x (P 0 3) 0 4 ≠ 0 := fun x hx => wrong_k hx
  have hKw : ∀ x y, KE c (k_wrong (k_blanks c) x y) := fun x y => KE_D (KD_L (Lx_t hBx.2 (k_wrong_x hBx.1).2))
  have hmk : ∀ x, x ≠ 0 → k_wrong (k_blanks c) x (k_blanks c 0 4) 0 5 ≠ 0 := fun x hx => k_wrong_5 hx
  by_cases g60 : c 0 7 = 60
  · rw [if_neg (show ¬ c 0 7 < 60 by omega), if_pos (hB7.trans g60), if_neg (hmk 3 (by decide))]
    have hs9 := needRoom5_s (ss := s) (hwk 3 (by decide))
    rw [st_walk (by rw [hs9]; exact hwk 3 (by decide)), hs9]
    exact ⟨cc_bad0 (hw 3 (by decide)) (hmk 3 (by decide)), hKw _ _⟩
  rw [if_pos (show c 0 7 < 60 by omega), if_neg (show ¬ k_blanks c 0 7 = 60 by rw [hB7]; exact g60)]
  have eF : k_isFull (k_blanks c) 4 = if c 3 4 = 4 then 1 else 0 := by
    unfold k_isFull
    simp only [Int.reduceEq, reduceIte]
    rw [show k_blanks c 3 4 = c 3 4 from congrFun (hBx.2.1 3 (by decide)) 4]
  have hn := hR.2.2.2.2.2.2.1.1
  by_cases gF : c 3 4 = 4
  · rw [if_pos gF] at eF
    have eR := rrmX5 (s := s) (P := P) (by omega)
    rw [eF, if_neg (show ¬ (1 : Int) = 0 by decide), if_neg (hmk 3 (by decide)), st_walk (by rw [eR]; exact hwk 3 (by decide)), eR]
    exact ⟨cc_bad0 (hw 3 (by decide)) (hmk 3 (by decide)), hKw _ _⟩
  rw [if_neg gF] at eF
  rw [eF, if_pos rfl]
  rw [if_pos hB5]
  have hk0 : ∀ k, k ≠ 0 → am_put (k_skipWord (k_blanks c)) 0 7 (k_skipWord (k_blanks c) 0 7 + 1) k = c k := fun k hk => (am_put_kr hk).trans ((funext fun j => x4 k j (fun e => hk e.1)).trans (hBx.2.1 k hk))
  have hk1 : ∀ j, j ≠ 4 → j ≠ 5 → j ≠ 6 → j ≠ 7 → am_put (k_skipWord (k_blanks c)) 0 7 (k_skipWord (k_blanks c) 0 7 + 1) 0 j = c 0 j := fun j j4 j5 j6 j7 => (am_put_i j7).trans ((x4 0 j (fun e => j4 e.2)).trans (hBx.2.2 j j4 j5 j6))
  have hD7 : am_put (k_skipWord (k_blanks c)) 0 7 (k_skipWord (k_blanks c) 0 7 + 1) 0 7 = c 0 7 + 1 := by rw [am_put_s, x4 0 7 (by decide), hB7]
  have hD : RR e P (am_put (k_skipWord (k_blanks c)) 0 7 (k_skipWord (k_blanks c) 0 7 + 1)) := rr_c x1 (am_put_kr (by decide)) (fun j hj => am_put_i (by omega))
  generalize am_put (k_skipWord (k_blanks c)) 0 7 (k_skipWord (k_blanks c) 0 7 + 1) = D at *
  have hRD : HR s D := HR_n hR hk0 (fun j hj => hk1 j (by omega) (by omega) (by omega) (by omega))
  obtain ⟨D', e1, a, b, cc⟩ := cl_walk hD t hRD (by rw [show D 3 4 = c 3 4 from congrFun (hk0 3 (by decide)) 4]; exact gF)
  rw [e1]
  exact ⟨cc_fin (D := D) t (by omega) a b ((cc.2 7 (by decide) (by decide) (by decide) (by decide) (by decide)).trans hD7), KE_t ⟨fun k k0 _ => hk0 k k0, fun j a1 a2 a3 a4 _ _ => hk1 j a1 a2 a3 a4⟩ (KE_t (KE_D cc) (KE_D (KD_L (k_sign_x a.2.2.2.2.2.2 (by decide)).2)))⟩
theorem cc_8 {e p c s : am_F} (h : RR e p c) (t : TpI e) (h0 : c 0 5 = 0) (hR : HR s c) (hE : c 0 7 = 0 → Em s c) (hS : SpI s) (h7 : 0 ≤ c 0 7 ∧ c 0 7 ≤ 60) (hv : rK (k_wordHere c).1 = 8) (hsm : k_isSmall (k_byteAt (k_blanks c) (k_blanks c 0 4)) = 1) : (RR e (c_readClause e s p (c 0 7)).2 (k_clause c) ∧ (k_clause c 0 5 = 0 → HR (c_readClause e s p (c 0 7)).1 (k_clause c) ∧ k_clause c 0 7 = c 0 7 + 1 ∧ c 0 7 < 60)) ∧ KE c (k_clause c) := by
  obtain ⟨wd, -, w3, -, w5⟩ := rr_word h t h0
  obtain ⟨x1, x2, x3, x4, x5⟩ := w5 hsm
  have hkC := (rr_kindC wd).trans hv
  have hkK := rr_kindK h.2.2.2.2.2.2 h0
  rw [hv] at hkK
  have hk' : k_kindHere c = (5, k_blanks c) := hkK
  have hBx := k_blanks_x h.2.2.2.2.2.2
  have hB5 : k_blanks c 0 5 = 0 := k_blanks_5.trans h0
  have hB7 : k_blanks c 0 7 = c 0 7 := hBx.2.2 7 (by decide) (by decide) (by decide)
  obtain ⟨XC, eC0⟩ : ∃ X, c_readClause e s p (c 0 7) = X := ⟨_, rfl⟩
  obtain ⟨XK, eK0⟩ : ∃ X, k_clause c = X := ⟨_, rfl⟩
  have eC := eC0
  have eK := eK0
  unfold c_readClause at eC
  unfold k_clause at eK
  dsimp only at eC eK
  rw [hkC] at eC
  rw [hk'] at eK
  simp only [Int.reduceEq, Int.reduceNeg, reduceIte] at eC eK
  rw [eC0, eK0]
  clear eC0 eK0 hkC hkK hk' wd
  subst eC
  subst eK
  generalize (c_word e p).2 = P at *
  have hw : ∀ x, x ≠ 0 → RR e (c_wrong P x (P 0 3)) (k_wrong (k_blanks c) x (k_blanks c 0 4)) := fun x hx => by
    rw [w3]
    exact rr_wrong2 x1 hx x3 hB5 (x4 0 2 (by decide)).symm (by funext j; exact (x4 1 j (fun e => absurd e.1 (by decide))).symm) hBx.1
  have hP0 : P 0 4 = 0 := x1.1.trans x3
  have hwk : ∀ x, x ≠ 0 → c_wrong P x (P 0 3) 0 4 ≠ 0 := fun x hx => wrong_k hx
  have hKw : ∀ x y, KE c (k_wrong (k_blanks c) x y) := fun x y => KE_D (KD_L (Lx_t hBx.2 (k_wrong_x hBx.1).2))
  have hmk : ∀ x, x ≠ 0 → k_wrong (k_blanks c) x (k_blanks c 0 4) 0 5 ≠ 0 := fun x hx => k_wrong_5 hx
  by_cases g60 : c 0 7 = 60
  · rw [if_neg (show ¬ c 0 7 < 60 by omega), if_pos (hB7.trans g60), if_neg (hmk 3 (by decide))]
    have hs9 := needRoom6_s (ss := s) (hwk 3 (by decide))
    rw [st_watch (by rw [hs9]; exact hwk 3 (by decide)), hs9]
    exact ⟨cc_bad0 (hw 3 (by decide)) (hmk 3 (by decide)), hKw _ _⟩
  rw [if_pos (show c 0 7 < 60 by omega), if_neg (show ¬ k_blanks c 0 7 = 60 by rw [hB7]; exact g60)]
  have eF : k_isFull (k_blanks c) 5 = if c 3 5 = 4 then 1 else 0 := by
    unfold k_isFull
    simp only [Int.reduceEq, reduceIte]
    rw [show k_blanks c 3 5 = c 3 5 from congrFun (hBx.2.1 3 (by decide)) 5]
  have hn := hR.2.2.2.2.2.2.2.1.1
  by_cases gF : c 3 5 = 4
  · rw [if_pos gF] at eF
    have eR := rrmX6 (s := s) (P := P) (by omega)
    rw [eF, if_neg (show ¬ (1 : Int) = 0 by decide), if_neg (hmk 3 (by decide)), st_watch (by rw [eR]; exact hwk 3 (by decide)), eR]
    exact ⟨cc_bad0 (hw 3 (by decide)) (hmk 3 (by decide)), hKw _ _⟩
  rw [if_neg gF] at eF
  rw [eF, if_pos rfl]
  rw [if_pos hB5]
  have hk0 : ∀ k, k ≠ 0 → am_put (k_skipWord (k_blanks c)) 0 7 (k_skipWord (k_blanks c) 0 7 + 1) k = c k := fun k hk => (am_put_kr hk).trans ((funext fun j => x4 k j (fun e => hk e.1)).trans (hBx.2.1 k hk))
  have hk1 : ∀ j, j ≠ 4 → j ≠ 5 → j ≠ 6 → j ≠ 7 → am_put (k_skipWord (k_blanks c)) 0 7 (k_skipWord (k_blanks c) 0 7 + 1) 0 j = c 0 j := fun j j4 j5 j6 j7 => (am_put_i j7).trans ((x4 0 j (fun e => j4 e.2)).trans (hBx.2.2 j j4 j5 j6))
  have hD7 : am_put (k_skipWord (k_blanks c)) 0 7 (k_skipWord (k_blanks c) 0 7 + 1) 0 7 = c 0 7 + 1 := by rw [am_put_s, x4 0 7 (by decide), hB7]
  have hD : RR e P (am_put (k_skipWord (k_blanks c)) 0 7 (k_skipWord (k_blanks c) 0 7 + 1)) := rr_c x1 (am_put_kr (by decide)) (fun j hj => am_put_i (by omega))
  generalize am_put (k_skipWord (k_blanks c)) 0 7 (k_skipWord (k_blanks c) 0 7 + 1) = D at *
  have hRD : HR s D := HR_n hR hk0 (fun j hj => hk1 j (by omega) (by omega) (by omega) (by omega))
  obtain ⟨D', e1, a, b, cc⟩ := cl_watch hD t hRD (by rw [show D 3 5 = c 3 5 from congrFun (hk0 3 (by decide)) 5]; exact gF)
  rw [e1]
  exact ⟨cc_fin (D := D) t (by omega) a b ((cc.2 7 (by decide) (by decide) (by decide) (by decide) (by decide)).trans hD7), KE_t ⟨fun k k0 _ => hk0 k k0, fun j a1 a2 a3 a4 _ _ => hk1 j a1 a2 a3 a4⟩ (KE_t (KE_D cc) (KE_D (KD_L (k_sign_x a.2.2.2.2.2.2 (by decide)).2)))⟩
theorem cc_9 {e p c s : am_F} (h : RR e p c) (t : TpI e) (h0 : c 0 5 = 0) (hR : HR s c) (hE : c 0 7 = 0 → Em s c) (hS : SpI s) (h7 : 0 ≤ c 0 7 ∧ c 0 7 ≤ 60) (hv : rK (k_wordHere c).1 = 9) (hsm : k_isSmall (k_byteAt (k_blanks c) (k_blanks c 0 4)) = 1) : (RR e (c_readClause e s p (c 0 7)).2 (k_clause c) ∧ (k_clause c 0 5 = 0 → HR (c_readClause e s p (c 0 7)).1 (k_clause c) ∧ k_clause c 0 7 = c 0 7 + 1 ∧ c 0 7 < 60)) ∧ KE c (k_clause c) := by
  obtain ⟨wd, -, w3, -, w5⟩ := rr_word h t h0
  obtain ⟨x1, x2, x3, x4, x5⟩ := w5 hsm
  have hkC := (rr_kindC wd).trans hv
  have hkK := rr_kindK h.2.2.2.2.2.2 h0
  rw [hv] at hkK
  have hk' : k_kindHere c = (7, k_blanks c) := hkK
  have hBx := k_blanks_x h.2.2.2.2.2.2
  have hB5 : k_blanks c 0 5 = 0 := k_blanks_5.trans h0
  have hB7 : k_blanks c 0 7 = c 0 7 := hBx.2.2 7 (by decide) (by decide) (by decide)
  obtain ⟨XC, eC0⟩ : ∃ X, c_readClause e s p (c 0 7) = X := ⟨_, rfl⟩
  obtain ⟨XK, eK0⟩ : ∃ X, k_clause c = X := ⟨_, rfl⟩
  have eC := eC0
  have eK := eK0
  unfold c_readClause at eC
  unfold k_clause at eK
  dsimp only at eC eK
  rw [hkC] at eC
  rw [hk'] at eK
  simp only [Int.reduceEq, Int.reduceNeg, reduceIte] at eC eK
  rw [eC0, eK0]
  clear eC0 eK0 hkC hkK hk' wd
  subst eC
  subst eK
  generalize (c_word e p).2 = P at *
  have hw : ∀ x, x ≠ 0 → RR e (c_wrong P x (P 0 3)) (k_wrong (k_blanks c) x (k_blanks c 0 4)) := fun x hx => by
    rw [w3]
    exact rr_wrong2 x1 hx x3 hB5 (x4 0 2 (by decide)).symm (by funext j; exact (x4 1 j (fun e => absurd e.1 (by decide))).symm) hBx.1
  have hP0 : P 0 4 = 0 := x1.1.trans x3
  have hwk : ∀ x, x ≠ 0 → c_wrong P x (P 0 3) 0 4 ≠ 0 := fun x hx => wrong_k hx
  have hKw : ∀ x y, KE c (k_wrong (k_blanks c) x y) := fun x y => KE_D (KD_L (Lx_t hBx.2 (k_wrong_x hBx.1).2))
  have hmk : ∀ x, x ≠ 0 → k_wrong (k_blanks c) x (k_blanks c 0 4) 0 5 ≠ 0 := fun x hx => k_wrong_5 hx
  by_cases g60 : c 0 7 = 60
  · rw [if_neg (show ¬ c 0 7 < 60 by omega), if_pos (hB7.trans g60), if_neg (hmk 3 (by decide))]
    rw [st_sight (hwk 3 (by decide))]
    exact ⟨cc_bad0 (hw 3 (by decide)) (hmk 3 (by decide)), hKw _ _⟩
  rw [if_pos (show c 0 7 < 60 by omega), if_neg (show ¬ k_blanks c 0 7 = 60 by rw [hB7]; exact g60)]
  have eF : k_isFull (k_blanks c) 7 = 0 := by
    unfold k_isFull
    simp only [Int.reduceEq, reduceIte]
  rw [eF, if_pos rfl]
  rw [if_pos hB5]
  have hk0 : ∀ k, k ≠ 0 → am_put (k_skipWord (k_blanks c)) 0 7 (k_skipWord (k_blanks c) 0 7 + 1) k = c k := fun k hk => (am_put_kr hk).trans ((funext fun j => x4 k j (fun e => hk e.1)).trans (hBx.2.1 k hk))
  have hk1 : ∀ j, j ≠ 4 → j ≠ 5 → j ≠ 6 → j ≠ 7 → am_put (k_skipWord (k_blanks c)) 0 7 (k_skipWord (k_blanks c) 0 7 + 1) 0 j = c 0 j := fun j j4 j5 j6 j7 => (am_put_i j7).trans ((x4 0 j (fun e => j4 e.2)).trans (hBx.2.2 j j4 j5 j6))
  have hD7 : am_put (k_skipWord (k_blanks c)) 0 7 (k_skipWord (k_blanks c) 0 7 + 1) 0 7 = c 0 7 + 1 := by rw [am_put_s, x4 0 7 (by decide), hB7]
  have hD : RR e P (am_put (k_skipWord (k_blanks c)) 0 7 (k_skipWord (k_blanks c) 0 7 + 1)) := rr_c x1 (am_put_kr (by decide)) (fun j hj => am_put_i (by omega))
  generalize am_put (k_skipWord (k_blanks c)) 0 7 (k_skipWord (k_blanks c) 0 7 + 1) = D at *
  have hRD : HR s D := HR_n hR hk0 (fun j hj => hk1 j (by omega) (by omega) (by omega) (by omega))
  obtain ⟨D', e1, a, b, cc⟩ := cl_sight hD t hRD
  rw [e1]
  exact ⟨cc_fin (D := D) t (by omega) a b ((cc.2 7 (by decide) (by decide) (by decide) (by decide) (by decide)).trans hD7), KE_t ⟨fun k k0 _ => hk0 k k0, fun j a1 a2 a3 a4 _ _ => hk1 j a1 a2 a3 a4⟩ (KE_t (KE_D cc) (KE_D (KD_L (k_sign_x a.2.2.2.2.2.2 (by decide)).2)))⟩
theorem cc_10 {e p c s : am_F} (h : RR e p c) (t : TpI e) (h0 : c 0 5 = 0) (hR : HR s c) (hE : c 0 7 = 0 → Em s c) (hS : SpI s) (h7 : 0 ≤ c 0 7 ∧ c 0 7 ≤ 60) (hv : rK (k_wordHere c).1 = 10) (hsm : k_isSmall (k_byteAt (k_blanks c) (k_blanks c 0 4)) = 1) : (RR e (c_readClause e s p (c 0 7)).2 (k_clause c) ∧ (k_clause c 0 5 = 0 → HR (c_readClause e s p (c 0 7)).1 (k_clause c) ∧ k_clause c 0 7 = c 0 7 + 1 ∧ c 0 7 < 60)) ∧ KE c (k_clause c) := by
  obtain ⟨wd, -, w3, -, w5⟩ := rr_word h t h0
  obtain ⟨x1, x2, x3, x4, x5⟩ := w5 hsm
  have hkC := (rr_kindC wd).trans hv
  have hkK := rr_kindK h.2.2.2.2.2.2 h0
  rw [hv] at hkK
  have hk' : k_kindHere c = (6, k_blanks c) := hkK
  have hBx := k_blanks_x h.2.2.2.2.2.2
  have hB5 : k_blanks c 0 5 = 0 := k_blanks_5.trans h0
  have hB7 : k_blanks c 0 7 = c 0 7 := hBx.2.2 7 (by decide) (by decide) (by decide)
  obtain ⟨XC, eC0⟩ : ∃ X, c_readClause e s p (c 0 7) = X := ⟨_, rfl⟩
  obtain ⟨XK, eK0⟩ : ∃ X, k_clause c = X := ⟨_, rfl⟩
  have eC := eC0
  have eK := eK0
  unfold c_readClause at eC
  unfold k_clause at eK
  dsimp only at eC eK
  rw [hkC] at eC
  rw [hk'] at eK
  simp only [Int.reduceEq, Int.reduceNeg, reduceIte] at eC eK
  rw [eC0, eK0]
  clear eC0 eK0 hkC hkK hk' wd
  subst eC
  subst eK
  generalize (c_word e p).2 = P at *
  have hw : ∀ x, x ≠ 0 → RR e (c_wrong P x (P 0 3)) (k_wrong (k_blanks c) x (k_blanks c 0 4)) := fun x hx => by
    rw [w3]
    exact rr_wrong2 x1 hx x3 hB5 (x4 0 2 (by decide)).symm (by funext j; exact (x4 1 j (fun e => absurd e.1 (by decide))).symm) hBx.1
  have hP0 : P 0 4 = 0 := x1.1.trans x3
  have hwk : ∀ x, x ≠ 0 → c_wrong P x (P 0 3) 0 4 ≠ 0 := fun x hx => wrong_k hx
  have hKw : ∀ x y, KE c (k_wrong (k_blanks c) x y) := fun x y => KE_D (KD_L (Lx_t hBx.2 (k_wrong_x hBx.1).2))
  have hmk : ∀ x, x ≠ 0 → k_wrong (k_blanks c) x (k_blanks c 0 4) 0 5 ≠ 0 := fun x hx => k_wrong_5 hx
  by_cases g60 : c 0 7 = 60
  · rw [if_neg (show ¬ c 0 7 < 60 by omega), if_pos (hB7.trans g60), if_neg (hmk 3 (by decide))]
    have hs9 := needRoom7_s (ss := s) (hwk 3 (by decide))
    rw [st_ship (by rw [hs9]; exact hwk 3 (by decide)), hs9]
    exact ⟨cc_bad0 (hw 3 (by decide)) (hmk 3 (by decide)), hKw _ _⟩
  rw [if_pos (show c 0 7 < 60 by omega), if_neg (show ¬ k_blanks c 0 7 = 60 by rw [hB7]; exact g60)]
  have eF : k_isFull (k_blanks c) 6 = if c 3 6 = 4 then 1 else 0 := by
    unfold k_isFull
    simp only [Int.reduceEq, reduceIte]
    rw [show k_blanks c 3 6 = c 3 6 from congrFun (hBx.2.1 3 (by decide)) 6]
  have hn := hR.2.2.2.2.2.2.2.2.1.1
  by_cases gF : c 3 6 = 4
  · rw [if_pos gF] at eF
    have eR := rrmX7 (s := s) (P := P) (by omega)
    rw [eF, if_neg (show ¬ (1 : Int) = 0 by decide), if_neg (hmk 3 (by decide)), st_ship (by rw [eR]; exact hwk 3 (by decide)), eR]
    exact ⟨cc_bad0 (hw 3 (by decide)) (hmk 3 (by decide)), hKw _ _⟩
  rw [if_neg gF] at eF
  rw [eF, if_pos rfl]
  rw [if_pos hB5]
  have hk0 : ∀ k, k ≠ 0 → am_put (k_skipWord (k_blanks c)) 0 7 (k_skipWord (k_blanks c) 0 7 + 1) k = c k := fun k hk => (am_put_kr hk).trans ((funext fun j => x4 k j (fun e => hk e.1)).trans (hBx.2.1 k hk))
  have hk1 : ∀ j, j ≠ 4 → j ≠ 5 → j ≠ 6 → j ≠ 7 → am_put (k_skipWord (k_blanks c)) 0 7 (k_skipWord (k_blanks c) 0 7 + 1) 0 j = c 0 j := fun j j4 j5 j6 j7 => (am_put_i j7).trans ((x4 0 j (fun e => j4 e.2)).trans (hBx.2.2 j j4 j5 j6))
  have hD7 : am_put (k_skipWord (k_blanks c)) 0 7 (k_skipWord (k_blanks c) 0 7 + 1) 0 7 = c 0 7 + 1 := by rw [am_put_s, x4 0 7 (by decide), hB7]
  have hD : RR e P (am_put (k_skipWord (k_blanks c)) 0 7 (k_skipWord (k_blanks c) 0 7 + 1)) := rr_c x1 (am_put_kr (by decide)) (fun j hj => am_put_i (by omega))
  generalize am_put (k_skipWord (k_blanks c)) 0 7 (k_skipWord (k_blanks c) 0 7 + 1) = D at *
  have hRD : HR s D := HR_n hR hk0 (fun j hj => hk1 j (by omega) (by omega) (by omega) (by omega))
  obtain ⟨D', e1, a, b, cc⟩ := cl_ship hD t hRD (by rw [show D 3 6 = c 3 6 from congrFun (hk0 3 (by decide)) 6]; exact gF)
  rw [e1]
  exact ⟨cc_fin (D := D) t (by omega) a b ((cc.2 7 (by decide) (by decide) (by decide) (by decide) (by decide)).trans hD7), KE_t ⟨fun k k0 _ => hk0 k k0, fun j a1 a2 a3 a4 _ _ => hk1 j a1 a2 a3 a4⟩ (KE_t (KE_D cc) (KE_D (KD_L (k_sign_x a.2.2.2.2.2.2 (by decide)).2)))⟩
theorem rK_r (v : Int) : rK v = -1 ∨ (0 ≤ rK v ∧ rK v ≤ 10) := by
  unfold rK
  repeat' split
  all_goals first | exact Or.inl rfl | exact Or.inr ⟨by decide, by decide⟩
theorem rK_0 : rK 0 = -1 := by decide
/-- no word of a clause -/
theorem cc_none {e p c s : am_F} (h : RR e p c) (t : TpI e) (h0 : c 0 5 = 0) (hv : rK (k_wordHere c).1 = -1) : (RR e (c_readClause e s p (c 0 7)).2 (k_clause c) ∧ k_clause c 0 5 ≠ 0) ∧ KE c (k_clause c) := by
  obtain ⟨wd, -, w3, w4, w5⟩ := rr_word h t h0
  have hkC := (rr_kindC wd).trans hv
  have hkK := rr_kindK h.2.2.2.2.2.2 h0
  rw [hv] at hkK
  have hk' : k_kindHere c = (-1, k_blanks c) := hkK
  have hBx := k_blanks_x h.2.2.2.2.2.2
  have hB5 : k_blanks c 0 5 = 0 := k_blanks_5.trans h0
  obtain ⟨XC, eC0⟩ : ∃ X, c_readClause e s p (c 0 7) = X := ⟨_, rfl⟩
  obtain ⟨XK, eK0⟩ : ∃ X, k_clause c = X := ⟨_, rfl⟩
  have eC := eC0
  have eK := eK0
  unfold c_readClause at eC
  unfold k_clause at eK
  dsimp only at eC eK
  rw [hkC] at eC
  rw [hk'] at eK
  simp only [Int.reduceEq, Int.reduceNeg, reduceIte] at eC eK
  have hm5 : k_wrong (k_blanks c) 1 (k_blanks c 0 4) 0 5 ≠ 0 := k_wrong_5 (by decide)
  rw [if_neg hm5] at eK
  rw [eC0, eK0]
  subst eC
  subst eK
  refine ⟨⟨?_, hm5⟩, KE_D (KD_L (Lx_t hBx.2 (k_wrong_x hBx.1).2))⟩
  dsimp only
  have hRR : RR e (c_wrong (c_word e p).2 1 ((c_word e p).2 0 3)) (k_wrong (k_blanks c) 1 (k_blanks c 0 4)) := by
    rcases k_isSmall_s (k_byteAt (k_blanks c) (k_blanks c 0 4)) with ⟨d1, -⟩ | ⟨d1, -⟩
    · obtain ⟨x1, x2, x3, x4, x5⟩ := w5 d1
      rw [w3]
      exact rr_wrong2 x1 (by decide) x3 hB5 (x4 0 2 (by decide)).symm (by funext j; exact (x4 1 j (fun e => absurd e.1 (by decide))).symm) hBx.1
    · obtain ⟨x1, -, -⟩ := w4 d1
      rw [wrong_s (by rw [x1.1]; exact hm5)]
      exact x1
  exact (cc_bad0 (Q := True) hRR hm5).1
theorem cc_all {e p c s : am_F} (h : RR e p c) (t : TpI e) (h0 : c 0 5 = 0) (hR : HR s c) (hE : c 0 7 = 0 → Em s c) (hS : SpI s) (h7 : 0 ≤ c 0 7 ∧ c 0 7 ≤ 60) : (RR e (c_readClause e s p (c 0 7)).2 (k_clause c) ∧ (k_clause c 0 5 = 0 → HR (c_readClause e s p (c 0 7)).1 (k_clause c) ∧ k_clause c 0 7 = c 0 7 + 1 ∧ c 0 7 < 60)) ∧ KE c (k_clause c) := by
  by_cases gn : rK (k_wordHere c).1 = -1
  · obtain ⟨⟨a, b⟩, b2⟩ := cc_none (s := s) h t h0 gn
    exact ⟨⟨a, fun g => absurd g b⟩, b2⟩
  · have hsm : k_isSmall (k_byteAt (k_blanks c) (k_blanks c 0 4)) = 1 := by
      rcases k_isSmall_s (k_byteAt (k_blanks c) (k_blanks c 0 4)) with ⟨d1, -⟩ | ⟨d1, -⟩
      · exact d1
      · obtain ⟨-, -, -, w4, -⟩ := rr_word h t h0
        exact absurd (by rw [(w4 d1).2.2]; exact rK_0) gn
    have hk := (rK_r (k_wordHere c).1).resolve_left gn
    have h11 : rK (k_wordHere c).1 = 0 ∨ rK (k_wordHere c).1 = 1 ∨ rK (k_wordHere c).1 = 2 ∨ rK (k_wordHere c).1 = 3 ∨ rK (k_wordHere c).1 = 4 ∨ rK (k_wordHere c).1 = 5 ∨ rK (k_wordHere c).1 = 6 ∨ rK (k_wordHere c).1 = 7 ∨ rK (k_wordHere c).1 = 8 ∨ rK (k_wordHere c).1 = 9 ∨ rK (k_wordHere c).1 = 10 := by omega
    rcases h11 with g | g | g | g | g | g | g | g | g | g | g
    · exact cc_0 h t h0 hR hE hS h7 g hsm
    · exact cc_1 h t h0 hR hE hS h7 g hsm
    · exact cc_2 h t h0 hR hE hS h7 g hsm
    · exact cc_3 h t h0 hR hE hS h7 g hsm
    · exact cc_4 h t h0 hR hE hS h7 g hsm
    · exact cc_5 h t h0 hR hE hS h7 g hsm
    · exact cc_6 h t h0 hR hE hS h7 g hsm
    · exact cc_7 h t h0 hR hE hS h7 g hsm
    · exact cc_8 h t h0 hR hE hS h7 g hsm
    · exact cc_9 h t h0 hR hE hS h7 g hsm
    · exact cc_10 h t h0 hR hE hS h7 g hsm
