/-! the model: how far a word, a number, a sign leads -/
def Ea (c d : am_F) (k : Int) : Prop := RdV d ∧ Lx c d ∧ (d 0 5 = 0 → c 0 5 = 0 ∧ c 0 4 + k ≤ d 0 4)
theorem Ea_r {c : am_F} (h : RdV c) : Ea c c 0 := ⟨h, Lx_r, fun e => ⟨e, by omega⟩⟩
theorem Ea_t {a b c : am_F} {k j : Int} (h : Ea a b k) (g : Ea b c j) : Ea a c (k + j) := ⟨g.1, Lx_t h.2.1 g.2.1, fun e => by
  obtain ⟨e1, e2⟩ := g.2.2 e
  obtain ⟨e3, e4⟩ := h.2.2 e1
  exact ⟨e3, by omega⟩⟩
theorem Ea_le {a b : am_F} {k j : Int} (h : Ea a b k) (g : j ≤ k) : Ea a b j := ⟨h.1, h.2.1, fun e => by
  obtain ⟨e1, e2⟩ := h.2.2 e
  exact ⟨e1, by omega⟩⟩
theorem Ea_adv {a b : am_F} {k : Int} (h : Ea a b k) (g : b 0 4 < b 0 2) : Ea a (am_put b 0 4 (b 0 4 + 1)) (k + 1) :=
  ⟨RdV_p4 h.1 (by have := h.1.1; omega) (by omega), Lx_t h.2.1 (Lx_p (by omega)), fun e => by
    rw [am_put_i (by decide)] at e
    obtain ⟨e1, e2⟩ := h.2.2 e
    rw [am_put_s]
    exact ⟨e1, by omega⟩⟩
theorem Ea_wrong {a b : am_F} {k j : Int} (h : Ea a b k) {x y : Int} (hx : x ≠ 0) : Ea a (k_wrong b x y) j :=
  ⟨(k_wrong_x h.1).1, Lx_t h.2.1 (k_wrong_x h.1).2, fun e => absurd e (k_wrong_5 hx)⟩
theorem Ea_blanks {a b : am_F} {k : Int} (h : Ea a b k) : Ea a (k_blanks b) k ∧ k_blanks b 0 5 = b 0 5 := by
  unfold k_blanks
  refine am_wh_inv (P := fun d => Ea a d k ∧ d 0 5 = b 0 5) ?_ ?_ 601 b ⟨h, rfl⟩
  · intro x y hp e
    revert e
    unfold w_k_blanks_0
    dsimp only
    have hb := k_byteAt_s x (x 0 4)
    split
    · intro e
      rw [← Sum.inl.inj e]
      exact ⟨Ea_le (Ea_adv hp.1 (by omega)) (by omega), (am_put_i (by decide)).trans hp.2⟩
    · intro e; cases e
  · intro x y hp e
    revert e
    unfold w_k_blanks_0
    dsimp only
    split
    · intro e; cases e
    · intro e; rw [← Sum.inr.inj e]; exact hp
theorem Ea_skipn {a b : am_F} {k : Int} (n : Nat) (h : Ea a b k) : Ea a (am_wh w_k_skipWord_0 n b) k ∧ am_wh w_k_skipWord_0 n b 0 5 = b 0 5 := by
  refine am_wh_inv (P := fun d => Ea a d k ∧ d 0 5 = b 0 5) ?_ ?_ n b ⟨h, rfl⟩
  · intro x y hp e
    revert e
    unfold w_k_skipWord_0
    dsimp only
    have hb := k_byteAt_s x (x 0 4)
    have hd := k_isSmall_s (k_byteAt x (x 0 4))
    split
    · intro e; cases e
    · intro e
      rw [← Sum.inl.inj e]
      exact ⟨Ea_le (Ea_adv hp.1 (by omega)) (by omega), (am_put_i (by decide)).trans hp.2⟩
  · intro x y hp e
    revert e
    unfold w_k_skipWord_0
    dsimp only
    split
    · intro e; rw [← Sum.inr.inj e]; exact hp
    · intro e; cases e
theorem Ea_skip {a b : am_F} {k : Int} (h : Ea a b k) (hs : k_isSmall (k_byteAt b (b 0 4)) ≠ 0) : Ea a (k_skipWord b) (k + 1) := by
  have hb := k_byteAt_s b (b 0 4)
  have hd := k_isSmall_s (k_byteAt b (b 0 4))
  have e : w_k_skipWord_0 b = .inl (am_put b 0 4 (b 0 4 + 1)) := by
    unfold w_k_skipWord_0
    dsimp only
    exact if_neg hs
  unfold k_skipWord
  rw [am_wh_l e]
  exact (Ea_skipn 600 (Ea_adv h (by omega))).1
theorem Ea_numn {a b : am_F} {k : Int} (n : Nat) (v : Int) (h : Ea a b k) : Ea a (am_wh w_k_number_44 n (v, b)).2 k ∧ (am_wh w_k_number_44 n (v, b)).2 0 5 = b 0 5 := by
  refine am_wh_inv (P := fun d => Ea a d.2 k ∧ d.2 0 5 = b 0 5) ?_ ?_ n (v, b) ⟨h, rfl⟩
  · intro x y hp e
    revert e
    unfold w_k_number_44
    dsimp only
    have hb := k_byteAt_s x.2 (x.2 0 4)
    have hd := k_isDigit_s (k_byteAt x.2 (x.2 0 4))
    split
    · intro e; cases e
    · intro e
      rw [← Sum.inl.inj e]
      exact ⟨Ea_le (Ea_adv hp.1 (by omega)) (by omega), (show am_put x.2 0 4 (x.2 0 4 + 1) 0 5 = b 0 5 from (am_put_i (by decide)).trans hp.2)⟩
  · intro x y hp e
    revert e
    unfold w_k_number_44
    dsimp only
    split
    · intro e; rw [← Sum.inr.inj e]; exact hp
    · intro e; cases e
theorem Ea_num1 {a b : am_F} {k : Int} (h : Ea a b k) (hs : k_isDigit (k_byteAt b (b 0 4)) ≠ 0) : Ea a (am_wh w_k_number_44 601 (0, b)).2 (k + 1) ∧ (am_wh w_k_number_44 601 (0, b)).2 0 5 = b 0 5 := by
  have hb := k_byteAt_s b (b 0 4)
  have hd := k_isDigit_s (k_byteAt b (b 0 4))
  obtain ⟨t, e⟩ : ∃ t, w_k_number_44 (0, b) = .inl (t, am_put b 0 4 (b 0 4 + 1)) := by
    unfold w_k_number_44
    dsimp only
    rw [if_neg hs]
    exact ⟨_, rfl⟩
  rw [am_wh_l e]
  have z := Ea_numn 600 t (Ea_adv h (by omega))
  exact ⟨z.1, z.2.trans (am_put_i (by decide))⟩
theorem Ea_number {a b : am_F} {k lo hi : Int} (h : Ea a b k) : Ea a (k_number b lo hi).2 (k + 1) := by
  unfold k_number
  by_cases h5 : b 0 5 = 0
  · rw [if_pos h5]
    dsimp only
    have hb := Ea_blanks h
    obtain ⟨c1, e1⟩ : ∃ d, d = (if k_isDigit (k_byteAt (k_blanks b) (k_blanks b 0 4)) = 0 then k_wrong (k_blanks b) 1 (k_blanks b 0 4) else k_blanks b) := ⟨_, rfl⟩
    rw [← e1]
    have h2 : Ea a (am_wh w_k_number_44 601 (0, c1)).2 (k + 1) := by
      by_cases hz : k_isDigit (k_byteAt (k_blanks b) (k_blanks b 0 4)) = 0
      · rw [if_pos hz] at e1
        rw [e1]
        exact (Ea_numn 601 0 (Ea_wrong (j := k + 1) hb.1 (by decide))).1
      · rw [if_neg hz] at e1
        rw [e1]
        exact (Ea_num1 hb.1 hz).1
    obtain ⟨r, er⟩ : ∃ r, r = am_wh w_k_number_44 601 (0, c1) := ⟨_, rfl⟩
    rw [← er] at h2 ⊢
    split
    · exact Ea_wrong h2 (by decide)
    · exact h2
  · rw [if_neg h5]
    exact ⟨h.1, h.2.1, fun e => absurd e h5⟩
theorem Ea_takesSign {a b : am_F} {k sg : Int} (h : Ea a b k) (hs : 0 ≤ sg) : Ea a (k_takesSign b sg).2 (k + (k_takesSign b sg).1) := by
  have h1 := Ea_blanks h
  have hb := k_byteAt_s (k_blanks b) (k_blanks b 0 4)
  unfold k_takesSign
  split
  · dsimp only
    by_cases h9 : k_byteAt (k_blanks b) (k_blanks b 0 4) = sg
    · rw [if_pos h9, if_neg (by decide : ¬ (1 : Int) = 0)]
      exact Ea_adv h1.1 (by omega)
    · rw [if_neg h9, if_pos rfl]
      exact Ea_le h1.1 (by omega)
  · exact Ea_le h (by dsimp only; omega)
theorem Ea_sign {a b : am_F} {k sg : Int} (h : Ea a b k) (hs : 0 ≤ sg) : Ea a (k_sign b sg) k := by
  have h1 := Ea_blanks h
  have hb := k_byteAt_s (k_blanks b) (k_blanks b 0 4)
  unfold k_sign
  split
  · dsimp only
    split
    · exact Ea_le (Ea_adv h1.1 (by omega)) (by omega)
    · exact Ea_wrong h1.1 (by decide)
  · exact h
theorem Ea_word {a b : am_F} {k : Int} (h : Ea a b k) : Ea a (k_wordHere b).2 k ∧ (k_wordHere b).2 0 5 = b 0 5 ∧ ((k_wordHere b).1 = 0 ∨ k_isSmall (k_byteAt (k_wordHere b).2 ((k_wordHere b).2 0 4)) ≠ 0) := by
  have h1 := Ea_blanks h
  refine ⟨h1.1, h1.2, ?_⟩
  by_cases hz : k_isSmall (k_byteAt (k_blanks b) (k_blanks b 0 4)) = 0
  · left
    unfold k_wordHere
    dsimp only
    have e : w_k_wordHere_8 (k_blanks b) (0, 0) = .inr (0, 0) := by
      unfold w_k_wordHere_8
      dsimp only
      rw [show k_blanks b 0 4 + 0 = k_blanks b 0 4 by omega]
      exact if_pos hz
    rw [am_wh_r e]
    exact if_pos (by decide)
  · right
    exact hz
theorem Ea_isWord {a b : am_F} {k la lb lc ld le lf lg : Int} (h : Ea a b k) (hs : k_seven la lb lc ld le lf lg ≠ 0) : Ea a (k_isWord b la lb lc ld le lf lg).2 k ∧ ((k_isWord b la lb lc ld le lf lg).1 = 0 ∨ k_isSmall (k_byteAt (k_isWord b la lb lc ld le lf lg).2 ((k_isWord b la lb lc ld le lf lg).2 0 4)) ≠ 0) := by
  have h1 := Ea_word h
  unfold k_isWord
  dsimp only
  by_cases h5 : b 0 5 = 0
  · rw [if_pos h5, if_pos h5]
    refine ⟨h1.1, ?_⟩
    rcases h1.2.2 with e | e
    · left
      rw [e]
      generalize k_seven la lb lc ld le lf lg = sv at *
      by_cases g : sv < 0
      · rw [if_pos g]; rfl
      · have e2 : (if (0 : Int) = sv then (0 : Int) else -1) = -1 := if_neg (fun q => hs q.symm)
        rw [if_neg g, e2]; rfl
    · right
      exact e
  · rw [if_neg h5, if_neg h5]
    exact ⟨h, Or.inl rfl⟩
theorem Ea_takes {a b : am_F} {k la lb lc ld le lf lg : Int} (h : Ea a b k) (hs : k_seven la lb lc ld le lf lg ≠ 0) : Ea a (k_takes b la lb lc ld le lf lg).2 (k + (k_takes b la lb lc ld le lf lg).1) := by
  have h1 := Ea_isWord h hs
  have hb := k_isWord_b b la lb lc ld le lf lg
  unfold k_takes
  dsimp only
  generalize k_isWord b la lb lc ld le lf lg = u1 at *
  by_cases g : u1.1 = 0
  · rw [if_pos g]
    exact Ea_le h1.1 (by omega)
  · rw [if_neg g]
    exact Ea_le (Ea_skip h1.1 (h1.2.resolve_left g)) (by omega)
theorem Ea_known {a b : am_F} {k : Int} (h : Ea a b k) : Ea a (k_knownHere b).2 (if (k_knownHere b).1 = -1 then k else k + 1) ∧ -1 ≤ (k_knownHere b).1 ∧ (k_knownHere b).1 ≤ 8 := by
  unfold k_knownHere
  dsimp only
  have e0 := Ea_takes h (show k_seven 16 18 9 3 5 0 0 ≠ 0 by decide)
  have b0 := k_takes_b b 16 18 9 3 5 0 0
  generalize k_takes b 16 18 9 3 5 0 0 = u0 at *
  by_cases g0 : u0.1 = 0
  · rw [if_pos g0]
    have e1 := Ea_takes (Ea_le (j := k) e0 (by omega)) (show k_seven 23 1 14 20 19 0 0 ≠ 0 by decide)
    have b1 := k_takes_b u0.2 23 1 14 20 19 0 0
    generalize k_takes u0.2 23 1 14 20 19 0 0 = u1 at *
    by_cases g1 : u1.1 = 0
    · rw [if_pos g1]
      have e2 := Ea_takes (Ea_le (j := k) e1 (by omega)) (show k_seven 12 15 20 0 0 0 0 ≠ 0 by decide)
      have b2 := k_takes_b u1.2 12 15 20 0 0 0 0
      generalize k_takes u1.2 12 15 20 0 0 0 0 = u2 at *
      by_cases g2 : u2.1 = 0
      · rw [if_pos g2]
        have e3 := Ea_takes (Ea_le (j := k) e2 (by omega)) (show k_seven 19 20 5 16 0 0 0 ≠ 0 by decide)
        have b3 := k_takes_b u2.2 19 20 5 16 0 0 0
        generalize k_takes u2.2 19 20 5 16 0 0 0 = u3 at *
        by_cases g3 : u3.1 = 0
        · rw [if_pos g3]
          have e4 := Ea_takes (Ea_le (j := k) e3 (by omega)) (show k_seven 20 8 5 18 5 0 0 ≠ 0 by decide)
          have b4 := k_takes_b u3.2 20 8 5 18 5 0 0
          generalize k_takes u3.2 20 8 5 18 5 0 0 = u4 at *
          by_cases g4 : u4.1 = 0
          · rw [if_pos g4]
            have e5 := Ea_takes (Ea_le (j := k) e4 (by omega)) (show k_seven 12 5 6 20 0 0 0 ≠ 0 by decide)
            have b5 := k_takes_b u4.2 12 5 6 20 0 0 0
            generalize k_takes u4.2 12 5 6 20 0 0 0 = u5 at *
            by_cases g5 : u5.1 = 0
            · rw [if_pos g5]
              have e6 := Ea_takes (Ea_le (j := k) e5 (by omega)) (show k_seven 6 12 15 15 18 0 0 ≠ 0 by decide)
              have b6 := k_takes_b u5.2 6 12 15 15 18 0 0
              generalize k_takes u5.2 6 12 15 15 18 0 0 = u6 at *
              by_cases g6 : u6.1 = 0
              · rw [if_pos g6]
                have e7 := Ea_takes (Ea_le (j := k) e6 (by omega)) (show k_seven 14 21 13 2 5 18 0 ≠ 0 by decide)
                have b7 := k_takes_b u6.2 14 21 13 2 5 18 0
                generalize k_takes u6.2 14 21 13 2 5 18 0 = u7 at *
                by_cases g7 : u7.1 = 0
                · rw [if_pos g7]
                  have e8 := Ea_takes (Ea_le (j := k) e7 (by omega)) (show k_seven 2 9 4 19 0 0 0 ≠ 0 by decide)
                  have b8 := k_takes_b u7.2 2 9 4 19 0 0 0
                  generalize k_takes u7.2 2 9 4 19 0 0 0 = u8 at *
                  by_cases g8 : u8.1 = 0
                  · rw [if_pos g8]
                    exact ⟨Ea_le e8 (by dsimp only; split <;> omega), by dsimp only; omega, by dsimp only; omega⟩
                  · rw [if_neg g8]
                    exact ⟨Ea_le e8 (by dsimp only; split <;> omega), by dsimp only; omega, by dsimp only; omega⟩
                · rw [if_neg g7]
                  exact ⟨Ea_le e7 (by dsimp only; split <;> omega), by dsimp only; omega, by dsimp only; omega⟩
              · rw [if_neg g6]
                exact ⟨Ea_le e6 (by dsimp only; split <;> omega), by dsimp only; omega, by dsimp only; omega⟩
            · rw [if_neg g5]
              exact ⟨Ea_le e5 (by dsimp only; split <;> omega), by dsimp only; omega, by dsimp only; omega⟩
          · rw [if_neg g4]
            exact ⟨Ea_le e4 (by dsimp only; split <;> omega), by dsimp only; omega, by dsimp only; omega⟩
        · rw [if_neg g3]
          exact ⟨Ea_le e3 (by dsimp only; split <;> omega), by dsimp only; omega, by dsimp only; omega⟩
      · rw [if_neg g2]
        exact ⟨Ea_le e2 (by dsimp only; split <;> omega), by dsimp only; omega, by dsimp only; omega⟩
    · rw [if_neg g1]
      exact ⟨Ea_le e1 (by dsimp only; split <;> omega), by dsimp only; omega, by dsimp only; omega⟩
  · rw [if_neg g0]
    exact ⟨Ea_le e0 (by dsimp only; split <;> omega), by dsimp only; omega, by dsimp only; omega⟩
