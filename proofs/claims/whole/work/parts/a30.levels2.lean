/-! the model: what the levels keep -/
theorem k_oneHere_x {fs : am_F → am_F} (h : LmI fs) : LmI (fun c => k_oneHere c fs) := by
  intro c hM
  have h0 := MR_r hM
  have hop := hM.2.2.2.1
  show MR c (k_oneHere c fs) 0 0
  unfold k_oneHere
  by_cases h5 : c 0 5 = 0
  · rw [if_pos h5]
    dsimp only
    have m1 : MR c (k_blanks c) 0 0 := MR_le (MR_E h0 (Ea_blanks (Ea_r hM.1)).1) (by omega)
    have f1 : k_blanks c 0 5 = c 0 5 := k_blanks_5
    generalize k_blanks c = c9 at *
    by_cases e1 : k_byteAt c9 (c9 0 4) = 40
    · rw [if_pos e1]
      have m2 := MR_opens m1 (by omega)
      have b2 := k_opens_b c9
      have p4 := k_opens_4 c9
      have hb := k_byteAt_s c9 (c9 0 4)
      generalize k_opens c9 = u at *
      by_cases e2 : u.1 = 0
      · rw [if_pos e2]
        exact MR_o (MR_le m2.1 (by omega)) (by omega)
      · rw [if_neg e2]
        have m3 := MR_adv m2.1 (by omega)
        have hi := MR_I hM m3 (by omega) (by omega)
        have m4 := MR_t m3 (h _ hi)
        generalize fs (am_put u.2 0 4 (u.2 0 4 + 1)) = c44 at *
        have m5 := MR_E m4 (Ea_sign (Ea_r m4.1) (sg := 41) (by decide))
        exact MR_o (MR_le (MR_close m5) (by omega)) (by omega)
    · rw [if_neg e1]
      by_cases e2 : k_isDigit (k_byteAt c9 (c9 0 4)) = 0
      · rw [if_pos e2]
        have m2 := MR_E m1 (Ea_known (Ea_r m1.1)).1
        generalize k_knownHere c9 = u at *
        refine MR_le (MR_says hM (k := 1) ?_ (by omega)) (by omega)
        by_cases e3 : u.1 = -1
        · rw [if_pos e3]
          exact MR_le (MR_E m2 (Ea_wrong (j := 1000) (Ea_r m2.1) (by decide))) (by omega)
        · rw [if_neg e3]
          exact MR_le m2 (by omega)
      · rw [if_neg e2]
        have m2 := MR_E m1 (Ea_number (Ea_r m1.1) (lo := 0) (hi := 999))
        exact MR_le (MR_says hM m2 (by omega)) (by omega)
  · rw [if_neg h5]
    exact h0
theorem how2 {c x : am_F} (hx : MR c x 0 0) (s1 s2 v1 v2 : Int) (h1 : 0 ≤ s1) (h2 : 0 ≤ s2) (w1 : v1 ≠ -1) (w2 : v2 ≠ -1) : MR c (if (k_takesSign x s1).1 = 0 then (k_takesSign (k_takesSign x s1).2 s2).2 else (k_takesSign x s1).2) (if (if (k_takesSign x s1).1 = 0 then (if (k_takesSign (k_takesSign x s1).2 s2).1 = 0 then -1 else v2) else v1) = -1 then 0 else 1) 0 := by
  have m1 := MR_E hx (Ea_takesSign (Ea_r hx.1) h1)
  have b1 := k_takesSign_b x s1
  have m2 := MR_E m1 (Ea_takesSign (Ea_r m1.1) h2)
  have b2 := k_takesSign_b (k_takesSign x s1).2 s2
  generalize k_takesSign x s1 = u1 at *
  generalize k_takesSign u1.2 s2 = u2 at *
  by_cases g : u1.1 = 0
  · rw [if_pos g, if_pos g]
    exact MR_le m2 (by omega)
  · rw [if_neg g, if_neg g]
    exact MR_le m1 (by omega)
theorem k_times_x {fu : am_F → am_F} (h : LmI fu) : LmI (fun c => k_times c fu) := by
  intro c hM
  have hop := hM.2.2.2.1
  show MR c (k_times c fu) 0 0
  unfold k_times
  exact am_wh_iv (P := fun (x : am_F) => MR c x 0 0) (fun x y hx hf => by
    unfold w_k_times_4 at hf
    dsimp only at hf
    have m := how2 hx 42 47 4 5 (by decide) (by decide) (by decide) (by decide)
    generalize (if (k_takesSign x 42).1 = 0 then (if (k_takesSign (k_takesSign x 42).2 47).1 = 0 then (-1 : Int) else 5) else 4) = t17 at *
    generalize (if (k_takesSign x 42).1 = 0 then (k_takesSign (k_takesSign x 42).2 47).2 else (k_takesSign x 42).2) = c17 at *
    by_cases e5 : x 0 5 = 0
    · rw [if_pos e5] at hf
      by_cases e6 : t17 = -1
      · rw [if_pos e6] at hf; cases hf
      · rw [if_neg e6] at hf m
        cases hf
        have m2 := MR_t m (h c17 (MR_I hM m (by omega) (by omega)))
        exact MR_o (MR_le (MR_says hM m2 (by omega)) (by omega)) (by omega)
    · rw [if_neg e5] at hf; cases hf) (fun x y hx hf => by
    unfold w_k_times_4 at hf
    dsimp only at hf
    have m := how2 hx 42 47 4 5 (by decide) (by decide) (by decide) (by decide)
    generalize (if (k_takesSign x 42).1 = 0 then (if (k_takesSign (k_takesSign x 42).2 47).1 = 0 then (-1 : Int) else 5) else 4) = t17 at *
    generalize (if (k_takesSign x 42).1 = 0 then (k_takesSign (k_takesSign x 42).2 47).2 else (k_takesSign x 42).2) = c17 at *
    by_cases e5 : x 0 5 = 0
    · rw [if_pos e5] at hf
      by_cases e6 : t17 = -1
      · rw [if_pos e6] at hf m; cases hf; exact m
      · rw [if_neg e6] at hf; cases hf
    · rw [if_neg e5] at hf; cases hf; exact hx) 602 (fu c) (h c hM)
theorem k_sum_x {ft : am_F → am_F} (h : LmI ft) : LmI (fun c => k_sum c ft) := by
  intro c hM
  have hop := hM.2.2.2.1
  show MR c (k_sum c ft) 0 0
  unfold k_sum
  exact am_wh_iv (P := fun (x : am_F) => MR c x 0 0) (fun x y hx hf => by
    unfold w_k_sum_4 at hf
    dsimp only at hf
    have m := how2 hx 43 45 2 3 (by decide) (by decide) (by decide) (by decide)
    generalize (if (k_takesSign x 43).1 = 0 then (if (k_takesSign (k_takesSign x 43).2 45).1 = 0 then (-1 : Int) else 3) else 2) = t17 at *
    generalize (if (k_takesSign x 43).1 = 0 then (k_takesSign (k_takesSign x 43).2 45).2 else (k_takesSign x 43).2) = c17 at *
    by_cases e5 : x 0 5 = 0
    · rw [if_pos e5] at hf
      by_cases e6 : t17 = -1
      · rw [if_pos e6] at hf; cases hf
      · rw [if_neg e6] at hf m
        cases hf
        have m2 := MR_t m (h c17 (MR_I hM m (by omega) (by omega)))
        exact MR_o (MR_le (MR_says hM m2 (by omega)) (by omega)) (by omega)
    · rw [if_neg e5] at hf; cases hf) (fun x y hx hf => by
    unfold w_k_sum_4 at hf
    dsimp only at hf
    have m := how2 hx 43 45 2 3 (by decide) (by decide) (by decide) (by decide)
    generalize (if (k_takesSign x 43).1 = 0 then (if (k_takesSign (k_takesSign x 43).2 45).1 = 0 then (-1 : Int) else 3) else 2) = t17 at *
    generalize (if (k_takesSign x 43).1 = 0 then (k_takesSign (k_takesSign x 43).2 45).2 else (k_takesSign x 43).2) = c17 at *
    by_cases e5 : x 0 5 = 0
    · rw [if_pos e5] at hf
      by_cases e6 : t17 = -1
      · rw [if_pos e6] at hf m; cases hf; exact m
      · rw [if_neg e6] at hf; cases hf
    · rw [if_neg e5] at hf; cases hf; exact hx) 602 (ft c) (h c hM)
theorem k_andRow_x {fu : am_F → am_F} (h : LmI fu) : LmI (fun c => k_andRow c fu) := by
  intro c hM
  have hop := hM.2.2.2.1
  show MR c (k_andRow c fu) 0 0
  unfold k_andRow
  exact am_wh_iv (P := fun (x : am_F) => MR c x 0 0) (fun x y hx hf => by
    unfold w_k_andRow_4 at hf
    dsimp only at hf
    have m := MR_E hx (Ea_takes (Ea_r hx.1) (show k_seven 1 14 4 0 0 0 0 ≠ 0 by decide))
    have b := k_takes_b x 1 14 4 0 0 0 0
    generalize k_takes x 1 14 4 0 0 0 0 = u at *
    by_cases e6 : u.1 = 0
    · rw [if_pos e6] at hf; cases hf
    · rw [if_neg e6] at hf
      cases hf
      have m2 := MR_t m (h u.2 (MR_I hM m (by omega) (by omega)))
      exact MR_o (MR_le (MR_says hM m2 (by omega)) (by omega)) (by omega)) (fun x y hx hf => by
    unfold w_k_andRow_4 at hf
    dsimp only at hf
    have m := MR_E hx (Ea_takes (Ea_r hx.1) (show k_seven 1 14 4 0 0 0 0 ≠ 0 by decide))
    have b := k_takes_b x 1 14 4 0 0 0 0
    generalize k_takes x 1 14 4 0 0 0 0 = u at *
    by_cases e6 : u.1 = 0
    · rw [if_pos e6] at hf; cases hf; exact MR_le m (by omega)
    · rw [if_neg e6] at hf; cases hf) 602 (fu c) (h c hM)
theorem k_orRow_x {fu : am_F → am_F} (h : LmI fu) : LmI (fun c => k_orRow c fu) := by
  intro c hM
  have hop := hM.2.2.2.1
  show MR c (k_orRow c fu) 0 0
  unfold k_orRow
  exact am_wh_iv (P := fun (x : am_F) => MR c x 0 0) (fun x y hx hf => by
    unfold w_k_orRow_4 at hf
    dsimp only at hf
    have m := MR_E hx (Ea_takes (Ea_r hx.1) (show k_seven 15 18 0 0 0 0 0 ≠ 0 by decide))
    have b := k_takes_b x 15 18 0 0 0 0 0
    generalize k_takes x 15 18 0 0 0 0 0 = u at *
    by_cases e6 : u.1 = 0
    · rw [if_pos e6] at hf; cases hf
    · rw [if_neg e6] at hf
      cases hf
      have m2 := MR_t m (h u.2 (MR_I hM m (by omega) (by omega)))
      exact MR_o (MR_le (MR_says hM m2 (by omega)) (by omega)) (by omega)) (fun x y hx hf => by
    unfold w_k_orRow_4 at hf
    dsimp only at hf
    have m := MR_E hx (Ea_takes (Ea_r hx.1) (show k_seven 15 18 0 0 0 0 0 ≠ 0 by decide))
    have b := k_takes_b x 15 18 0 0 0 0 0
    generalize k_takes x 15 18 0 0 0 0 0 = u at *
    by_cases e6 : u.1 = 0
    · rw [if_pos e6] at hf; cases hf; exact MR_le m (by omega)
    · rw [if_neg e6] at hf; cases hf) 602 (fu c) (h c hM)
theorem k_oneIs_x {fn fc fs : am_F → am_F} (hn : LmI fn) (hc : LmI fc) (hs : LmI fs) : LmI (fun c => k_oneIs c fn fc fs) := by
  intro c hM
  have h0 := MR_r hM
  have hop := hM.2.2.2.1
  show MR c (k_oneIs c fn fc fs) 0 0
  unfold k_oneIs
  by_cases h5 : c 0 5 = 0
  · rw [if_pos h5]
    dsimp only
    have m1 : MR c (k_blanks c) 0 0 := MR_le (MR_E h0 (Ea_blanks (Ea_r hM.1)).1) (by omega)
    have f1 : k_blanks c 0 5 = c 0 5 := k_blanks_5
    generalize k_blanks c = c9 at *
    have a2 := Ea_isWord (la := 14) (lb := 15) (lc := 20) (ld := 0) (le := 0) (lf := 0) (lg := 0) (Ea_r m1.1) (by decide)
    have m2 := MR_le (j := 0) (MR_E m1 a2.1) (by omega)
    have f2 := k_isWord_5 c9 14 15 20 0 0 0 0
    have s2 := a2.2
    generalize k_isWord c9 14 15 20 0 0 0 0 = w at *
    have m3 := MR_opens m2 (by omega)
    have b3 := k_opens_b w.2
    have p4 := k_opens_4 w.2
    have ps := k_opens_s w.2
    have hb := k_byteAt_s w.2 (w.2 0 4)
    by_cases e1 : w.1 = 0
    · rw [if_pos e1]
      by_cases e2 : k_byteAt w.2 (w.2 0 4) = 91
      · rw [if_pos e2]
        generalize k_opens w.2 = u at *
        by_cases e3 : u.1 = 0
        · rw [if_pos e3]
          exact MR_o (MR_le m3.1 (by omega)) (by omega)
        · rw [if_neg e3]
          have m4 := MR_adv m3.1 (by omega)
          have hi := MR_I hM m4 (by omega) (by omega)
          have m5 := MR_t m4 (hc _ hi)
          generalize fc (am_put u.2 0 4 (u.2 0 4 + 1)) = c44 at *
          have m6 := MR_E m5 (Ea_sign (Ea_r m5.1) (sg := 93) (by decide))
          exact MR_o (MR_le (MR_close m6) (by omega)) (by omega)
      · rw [if_neg e2]
        have m4 : MR c (fs w.2) 0 0 := MR_o (MR_le (MR_t m2 (hs _ (MR_I hM m2 (by omega) (by omega)))) (by omega)) (by omega)
        generalize fs w.2 = c1 at *
        have n1 := MR_E m4 (Ea_takesSign (Ea_r m4.1) (sg := 60) (by decide))
        have v1 := k_takesSign_b c1 60
        generalize k_takesSign c1 60 = u1 at *
        have n2 := MR_E n1 (Ea_takesSign (Ea_r n1.1) (sg := 62) (by decide))
        have v2 := k_takesSign_b u1.2 62
        generalize k_takesSign u1.2 62 = u2 at *
        have n3 := MR_E n2 (Ea_takesSign (Ea_r n2.1) (sg := 61) (by decide))
        have v3 := k_takesSign_b u2.2 61
        generalize k_takesSign u2.2 61 = u3 at *
        have m5 : MR c (if u1.1 = 0 then (if u2.1 = 0 then u3.2 else u2.2) else u1.2) (if (if u1.1 = 0 then (if u2.1 = 0 then (if u3.1 = 0 then -1 else 8) else 7) else 6) = -1 then 0 else 1) 0 := by
          by_cases g1 : u1.1 = 0
          · rw [if_pos g1, if_pos g1]
            by_cases g2 : u2.1 = 0
            · rw [if_pos g2, if_pos g2]
              exact MR_le n3 (by omega)
            · rw [if_neg g2, if_neg g2]
              exact MR_le n2 (by omega)
          · rw [if_neg g1, if_neg g1]
            exact MR_le n1 (by omega)
        generalize (if u1.1 = 0 then (if u2.1 = 0 then (if u3.1 = 0 then (-1 : Int) else 8) else 7) else 6) = t at *
        generalize (if u1.1 = 0 then (if u2.1 = 0 then u3.2 else u2.2) else u1.2) = c2 at *
        have m6 : MR c (if t = -1 then k_wrong c2 1 (c2 0 4) else c2) 1 0 := by
          by_cases g1 : t = -1
          · rw [if_pos g1]
            exact MR_le (MR_E m5 (Ea_wrong (j := 1000) (Ea_r m5.1) (by decide))) (by omega)
          · rw [if_neg g1]
            rw [if_neg g1] at m5
            exact m5
        generalize (if t = -1 then k_wrong c2 1 (c2 0 4) else c2) = c3 at *
        have m7 := MR_t m6 (hs _ (MR_I hM m6 (by omega) (by omega)))
        exact MR_o (MR_le (MR_says hM m7 (by omega)) (by omega)) (by omega)
    · rw [if_neg e1]
      generalize k_opens w.2 = u at *
      by_cases e3 : u.1 = 0
      · rw [if_pos e3]
        exact MR_o (MR_le m3.1 (by omega)) (by omega)
      · rw [if_neg e3]
        have m4 := MR_E m3.1 (Ea_skip (Ea_r m3.1.1) (by rw [ps]; exact s2.resolve_left e1))
        have m5 := MR_t m4 (hn _ (MR_I hM m4 (by omega) (by omega)))
        have m6 := MR_says (x := 9) (y := 0) hM m5 (by omega)
        exact MR_o (MR_le (MR_close m6) (by omega)) (by omega)
  · rw [if_neg h5]
    exact h0
