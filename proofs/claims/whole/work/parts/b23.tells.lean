/-! THE TIE: bids, gauges, the tape, what is told -/
theorem ti_put_row (r : am_F) (k i : Nat) (v : Int) : am_put r k i v k = am_up (r k) i v := funext fun _ => if_pos rfl
theorem ti_add1 {b : am_F} {v0 v1 v2 v3 : Int} (h : 0 ≤ b 0 2 ∧ b 0 2 < b 0 0) : c_add b v0 v1 v2 v3 0 2 = b 0 2 + 1 ∧ c_add b v0 v1 v2 v3 0 0 = b 0 0 ∧ ∀ row col : Int, 0 ≤ col → col < 4 → f_at (c_add b v0 v1 v2 v3 0 2) (c_add b v0 v1 v2 v3 1) row col = if row = b 0 2 then (if col = 0 then v0 else if col = 1 then v1 else if col = 2 then v2 else v3) else f_at (b 0 2) (b 1) row col := by
  unfold c_add
  simp only []
  have e1 : (if b 0 0 ≤ b 0 2 then (1 : Int) else 0) = 0 := if_neg (by omega)
  rw [e1, if_pos rfl]
  refine ⟨?_, ?_, fun row col h1 h2 => ?_⟩
  · rw [am_put_s]
    simp (disch := omega) only [am_put_k]
  · simp (disch := omega) only [am_put_k, am_put_i]
  · have er : ∀ z, am_put (am_put (am_put (am_put (am_put b 1 (b 0 2 * 4).toNat v0) 1 (b 0 2 * 4 + 1).toNat v1) 1 (b 0 2 * 4 + 2).toNat v2) 1 (b 0 2 * 4 + 3).toNat v3) 0 2 z 1 = am_up (am_up (am_up (am_up (b 1) (b 0 2 * 4).toNat v0) (b 0 2 * 4 + 1).toNat v1) (b 0 2 * 4 + 2).toNat v2) (b 0 2 * 4 + 3).toNat v3 := fun z => by
      rw [am_put_kr (by decide), ti_put_row, ti_put_row, ti_put_row, ti_put_row]
    rw [er, am_put_s]
    simp (disch := omega) only [am_put_k]
    exact f_at_addS h.1 v0 v1 v2 v3 row col ⟨h1, h2⟩
def EqB (c c' : am_F) : Prop := (∀ k, k ≠ 0 → ¬ (133 ≤ k ∧ k ≤ 144) → c' k = c k) ∧ ∀ j, j ≠ 30 → c' 0 j = c 0 j
theorem EqB_r {c : am_F} : EqB c c := ⟨fun _ _ _ => rfl, fun _ _ => rfl⟩
theorem to_bid {e h c q b : am_F} {k yd pr : Int} (hC : HC h c) (hR : RE e q) (hb : BC b c) : TO 2 (c_bid e h b k yd pr).1 (c_bid e h b k yd pr).2.1 e (c_bid e h b k yd pr).2.2.1 (k_bid c q k yd pr).1 (k_bid c q k yd pr).2.2 ∧ BC (c_bid e h b k yd pr).2.2.2 (k_bid c q k yd pr).2.1 ∧ EqB c (k_bid c q k yd pr).2.1 ∧ 0 ≤ (k_bid c q k yd pr).2.1 0 30 ∧ (k_bid c q k yd pr).2.1 0 30 ≤ 12 := by
  obtain ⟨hHI, hV, hT, hN, hW, hWt, hSh, hL⟩ := id hC
  have h12 := hV.2.2.2.2.2.2.2.2.2.2.2.2.1
  have v3 := hV.2.2.2.1
  have hb1 := hb.2.1.1
  have hb0 := hb.1.1
  unfold c_bid k_bid
  rcases ti_rw hT.2.2.2.2.2 k with ⟨a0, b0, c0⟩ | ⟨a0, b0⟩
  · rcases ti_rng yd 1 999 with ⟨a1, b1, c1⟩ | ⟨a1, b1, d1⟩
    · rcases ti_rng pr 1 99 with ⟨a2, b2, c2⟩ | ⟨a2, b2, d2⟩
      · by_cases g : c 0 30 = 12
        · have g' : b 0 0 ≤ b 0 2 := by omega
          simp only [a0, b0, a1, b1, a2, b2, g, g', k_isLot, reduceIte, Int.reduceEq, k_refuse0]
          exact ⟨TO_ok am_put_s rfl (RE_put hR), hb, EqB_r, by omega, by omega⟩
        · have g' : ¬ b 0 0 ≤ b 0 2 := by omega
          simp only [a0, b0, a1, b1, a2, b2, g, g', k_isLot, reduceIte, Int.reduceEq, k_refuse0]
          obtain ⟨u1, u2, u3⟩ := ti_add1 (b := b) (v0 := k) (v1 := yd) (v2 := pr) (v3 := 0) (by omega)
          have e30 : am_put (am_put (am_put (am_put c (133 + (c 0 30).toNat) 0 k) (133 + (c 0 30).toNat) 1 yd) (133 + (c 0 30).toNat) 2 pr) 0 30 (c 0 30 + 1) 0 30 = c 0 30 + 1 := am_put_s
          have e4 : am_put (am_put (am_put (am_put c (133 + (c 0 30).toNat) 0 k) (133 + (c 0 30).toNat) 1 yd) (133 + (c 0 30).toNat) 2 pr) 0 30 (c 0 30 + 1) 4 = c 4 := by
            rw [am_put_kr (by decide), am_put_kr (by omega), am_put_kr (by omega), am_put_kr (by omega)]
          have er : ∀ i : Int, 0 ≤ i → i < c 0 30 → am_put (am_put (am_put (am_put c (133 + (c 0 30).toNat) 0 k) (133 + (c 0 30).toNat) 1 yd) (133 + (c 0 30).toNat) 2 pr) 0 30 (c 0 30 + 1) (133 + i.toNat) = c (133 + i.toNat) := fun i i1 i2 => by
            rw [am_put_kr (by omega), am_put_kr (by omega), am_put_kr (by omega), am_put_kr (by omega)]
          have en0 : am_put (am_put (am_put (am_put c (133 + (c 0 30).toNat) 0 k) (133 + (c 0 30).toNat) 1 yd) (133 + (c 0 30).toNat) 2 pr) 0 30 (c 0 30 + 1) (133 + (c 0 30).toNat) 0 = k := by
            simp (disch := omega) only [am_put_k, am_put_i, am_put_s]
          have en1 : am_put (am_put (am_put (am_put c (133 + (c 0 30).toNat) 0 k) (133 + (c 0 30).toNat) 1 yd) (133 + (c 0 30).toNat) 2 pr) 0 30 (c 0 30 + 1) (133 + (c 0 30).toNat) 1 = yd := by
            simp (disch := omega) only [am_put_k, am_put_i, am_put_s]
          have en2 : am_put (am_put (am_put (am_put c (133 + (c 0 30).toNat) 0 k) (133 + (c 0 30).toNat) 1 yd) (133 + (c 0 30).toNat) 2 pr) 0 30 (c 0 30 + 1) (133 + (c 0 30).toNat) 2 = pr := by
            simp (disch := omega) only [am_put_k, am_put_i, am_put_s]
          have hEq : EqB c (am_put (am_put (am_put (am_put c (133 + (c 0 30).toNat) 0 k) (133 + (c 0 30).toNat) 1 yd) (133 + (c 0 30).toNat) 2 pr) 0 30 (c 0 30 + 1)) := ⟨fun m m0 m1 => by
            rw [am_put_kr m0, am_put_kr (by omega), am_put_kr (by omega), am_put_kr (by omega)], fun j hj => by
            simp (disch := omega) only [am_put_k, am_put_i]⟩
          generalize am_put (am_put (am_put (am_put c (133 + (c 0 30).toNat) 0 k) (133 + (c 0 30).toNat) 1 yd) (133 + (c 0 30).toNat) 2 pr) 0 30 (c 0 30 + 1) = c' at *
          refine ⟨TO_ok am_put_s (by rw [u1]; omega) (RE_put hR), ⟨⟨by rw [u2]; exact hb0, by rw [u1]; omega, fun i => ?_⟩, ⟨by rw [u1, e30]; omega, fun i i1 i2 => ?_⟩, fun i i1 i2 => ?_⟩, hEq, by rw [e30]; omega, by rw [e30]; omega⟩
          · rw [u3 i 1 (by decide) (by decide)]
            by_cases gi : i = b 0 2
            · rw [if_pos gi, if_neg (by decide), if_pos rfl]; omega
            · rw [if_neg gi]; exact hb.1.2.2 i
          · rw [e30] at i2
            rw [u3 i 0 (by decide) (by decide), u3 i 1 (by decide) (by decide), u3 i 2 (by decide) (by decide)]
            by_cases gi : i = c 0 30
            · have ebi : i = b 0 2 := by omega
              simp only [if_pos ebi, reduceIte, Int.reduceEq]
              rw [gi, en0, en1, en2]
              exact ⟨rfl, rfl, rfl⟩
            · rw [if_neg (by omega), if_neg (by omega), if_neg (by omega), er i i1 (by omega)]
              exact hb.2.1.2 i i1 (by omega)
          · rw [e30] at i2
            rw [e4]
            by_cases gi : i = c 0 30
            · rw [gi, en0, en1, en2]
              exact ⟨c0, c1, c2⟩
            · rw [er i i1 (by omega)]
              exact hb.2.2 i i1 (by omega)
      · simp only [a0, b0, a1, b1, a2, b2, k_isLot, reduceIte, Int.reduceEq, k_refuse0]
        exact ⟨TO_ref (by decide) (by decide) (by decide) hR, hb, EqB_r, h12.1, h12.2⟩
    · simp only [a0, b0, a1, b1, k_isLot, reduceIte, Int.reduceEq, k_refuse0]
      exact ⟨TO_ref (by decide) (by decide) (by decide) hR, hb, EqB_r, h12.1, h12.2⟩
  · simp only [a0, b0, k_isLot, reduceIte, Int.reduceEq, k_refuse0]
    exact ⟨TO_ref (by decide) (by decide) (by decide) hR, hb, EqB_r, h12.1, h12.2⟩
/-! gauges -/
def TGa (g c : am_F) : Prop := g 0 2 = c 0 31 ∧ ∀ i : Int, 0 ≤ i → i < c 0 31 → f_at (g 0 2) (g 1) i 0 = c (146 + i.toNat) 1 ∧ (0 ≤ c (146 + i.toNat) 1 ∧ c (146 + i.toNat) 1 ≤ 39) ∧ f_at (g 0 2) (g 1) i 2 = c (146 + i.toNat) 2 ∧ ∃ x y : Int, (0 ≤ x ∧ x < c 4 0) ∧ (0 ≤ y ∧ y < c 4 1) ∧ f_at (g 0 2) (g 1) i 1 = x + 10 * y ∧ c (146 + i.toNat) 0 = x + 9 * y
def GC (g c : am_F) : Prop := GaI g ∧ TGa g c
def EqG (c c' : am_F) : Prop := (∀ k, k ≠ 0 → ¬ (146 ≤ k ∧ k ≤ 153) → c' k = c k) ∧ ∀ j, j ≠ 31 → c' 0 j = c 0 j
theorem EqG_r {c : am_F} : EqG c c := ⟨fun _ _ _ => rfl, fun _ _ => rfl⟩
theorem to_gauge {e h c q ga dd : am_F} {x y st yd : Int} (hC : HC h c) (hR : RE e q) (hg : GC ga c) : TO 1 (c_gauge e h dd ga x y st yd).1 (c_gauge e h dd ga x y st yd).2.1 e (c_gauge e h dd ga x y st yd).2.2.1 (k_gauge c q x y st yd).1 (k_gauge c q x y st yd).2.2 ∧ GC (c_gauge e h dd ga x y st yd).2.2.2.2 (k_gauge c q x y st yd).2.1 ∧ EqG c (k_gauge c q x y st yd).2.1 ∧ (0 ≤ (k_gauge c q x y st yd).2.1 0 31 ∧ (k_gauge c q x y st yd).2.1 0 31 ≤ 8) ∧ (((c_gauge e h dd ga x y st yd).2.2.2.1 = dd ∧ (k_gauge c q x y st yd).2.1 = c ∧ (c_gauge e h dd ga x y st yd).2.2.2.2 = ga) ∨ (c_gauge e h dd ga x y st yd).2.2.2.1 = am_put dd 0 0 0) := by
  obtain ⟨hHI, hV, hT, hN, hW, hWt, hSh, hL⟩ := id hC
  have h8 := hV.2.2.2.2.2.2.2.2.2.2.2.2.2
  have v1 := hV.1
  have v2 := hV.2.1
  have hg1 := hg.2.1
  have hg0 := hg.1.1
  unfold c_gauge k_gauge
  rcases ti_cel hT.1 x y with ⟨a0, b0, c0, d0⟩ | ⟨a0, b0⟩
  · rcases ti_stp st with ⟨a1, b1, c1⟩ | ⟨a1, b1, d1⟩
    · rcases ti_rng yd 0 99 with ⟨a2, b2, c2⟩ | ⟨a2, b2, d2⟩
      · by_cases g : c 0 31 = 8
        · have g' : ga 0 0 ≤ ga 0 2 := by omega
          simp only [a0, b0, a1, b1, a2, b2, g, g', reduceIte, Int.reduceEq, k_refuse0]
          exact ⟨TO_ok am_put_s rfl (RE_put hR), hg, EqG_r, by omega, Or.inl ⟨trivial, trivial, trivial⟩⟩
        · have g' : ¬ ga 0 0 ≤ ga 0 2 := by omega
          simp only [a0, b0, a1, b1, a2, b2, g, g', reduceIte, Int.reduceEq, k_refuse0]
          obtain ⟨u1, u2, u3⟩ := ti_add1 (b := ga) (v0 := st) (v1 := x + 10 * y) (v2 := yd) (v3 := 0) (by omega)
          have e31 : am_put (am_put (am_put (am_put c (146 + (c 0 31).toNat) 0 (x + 9 * y)) (146 + (c 0 31).toNat) 1 st) (146 + (c 0 31).toNat) 2 yd) 0 31 (c 0 31 + 1) 0 31 = c 0 31 + 1 := am_put_s
          have e4 : am_put (am_put (am_put (am_put c (146 + (c 0 31).toNat) 0 (x + 9 * y)) (146 + (c 0 31).toNat) 1 st) (146 + (c 0 31).toNat) 2 yd) 0 31 (c 0 31 + 1) 4 = c 4 := by
            rw [am_put_kr (by decide), am_put_kr (by omega), am_put_kr (by omega), am_put_kr (by omega)]
          have er : ∀ i : Int, 0 ≤ i → i < c 0 31 → am_put (am_put (am_put (am_put c (146 + (c 0 31).toNat) 0 (x + 9 * y)) (146 + (c 0 31).toNat) 1 st) (146 + (c 0 31).toNat) 2 yd) 0 31 (c 0 31 + 1) (146 + i.toNat) = c (146 + i.toNat) := fun i i1 i2 => by
            rw [am_put_kr (by omega), am_put_kr (by omega), am_put_kr (by omega), am_put_kr (by omega)]
          have en0 : am_put (am_put (am_put (am_put c (146 + (c 0 31).toNat) 0 (x + 9 * y)) (146 + (c 0 31).toNat) 1 st) (146 + (c 0 31).toNat) 2 yd) 0 31 (c 0 31 + 1) (146 + (c 0 31).toNat) 0 = x + 9 * y := by
            simp (disch := omega) only [am_put_k, am_put_i, am_put_s]
          have en1 : am_put (am_put (am_put (am_put c (146 + (c 0 31).toNat) 0 (x + 9 * y)) (146 + (c 0 31).toNat) 1 st) (146 + (c 0 31).toNat) 2 yd) 0 31 (c 0 31 + 1) (146 + (c 0 31).toNat) 1 = st := by
            simp (disch := omega) only [am_put_k, am_put_i, am_put_s]
          have en2 : am_put (am_put (am_put (am_put c (146 + (c 0 31).toNat) 0 (x + 9 * y)) (146 + (c 0 31).toNat) 1 st) (146 + (c 0 31).toNat) 2 yd) 0 31 (c 0 31 + 1) (146 + (c 0 31).toNat) 2 = yd := by
            simp (disch := omega) only [am_put_k, am_put_i, am_put_s]
          have hEq : EqG c (am_put (am_put (am_put (am_put c (146 + (c 0 31).toNat) 0 (x + 9 * y)) (146 + (c 0 31).toNat) 1 st) (146 + (c 0 31).toNat) 2 yd) 0 31 (c 0 31 + 1)) := ⟨fun m m0 m1 => by
            rw [am_put_kr m0, am_put_kr (by omega), am_put_kr (by omega), am_put_kr (by omega)], fun j hj => by
            simp (disch := omega) only [am_put_k, am_put_i]⟩
          generalize am_put (am_put (am_put (am_put c (146 + (c 0 31).toNat) 0 (x + 9 * y)) (146 + (c 0 31).toNat) 1 st) (146 + (c 0 31).toNat) 2 yd) 0 31 (c 0 31 + 1) = c' at *
          refine ⟨TO_ok am_put_s (by rw [u1]; omega) (RE_put hR), ⟨⟨by rw [u2]; exact hg0, by rw [u1]; omega, fun i => ?_⟩, ⟨by rw [u1, e31]; omega, fun i i1 i2 => ?_⟩⟩, hEq, by rw [e31]; omega, Or.inr trivial⟩
          · rw [u3 i 0 (by decide) (by decide), u3 i 1 (by decide) (by decide)]
            by_cases gi : i = ga 0 2
            · rw [if_pos gi, if_pos rfl, if_pos gi, if_neg (by decide), if_pos rfl]; omega
            · rw [if_neg gi, if_neg gi]; exact hg.1.2.2 i
          · rw [e31] at i2
            rw [u3 i 0 (by decide) (by decide), u3 i 1 (by decide) (by decide), u3 i 2 (by decide) (by decide), e4]
            by_cases gi : i = c 0 31
            · have ebi : i = ga 0 2 := by omega
              simp only [if_pos ebi, reduceIte, Int.reduceEq]
              rw [gi, en0, en1, en2]
              exact ⟨rfl, c1, rfl, x, y, c0, d0, rfl, rfl⟩
            · rw [if_neg (by omega), if_neg (by omega), if_neg (by omega), er i i1 (by omega)]
              exact hg.2.2 i i1 (by omega)
      · simp only [a0, b0, a1, b1, a2, b2, reduceIte, Int.reduceEq, k_refuse0]
        exact ⟨TO_ref (by decide) (by decide) (by decide) hR, hg, EqG_r, h8, Or.inl ⟨trivial, trivial, trivial⟩⟩
    · simp only [a0, b0, a1, b1, reduceIte, Int.reduceEq, k_refuse0]
      exact ⟨TO_ref (by decide) (by decide) (by decide) hR, hg, EqG_r, h8, Or.inl ⟨trivial, trivial, trivial⟩⟩
  · simp only [a0, b0, reduceIte, Int.reduceEq, k_refuse0]
    exact ⟨TO_ref (by decide) (by decide) (by decide) hR, hg, EqG_r, h8, Or.inl ⟨trivial, trivial, trivial⟩⟩
theorem to_clear {c q b ga dd : am_F} (hV : MdV c) (hb : BC b c) (hg : GC ga c) : (c_clear dd b ga).1 = (k_clear c q).1 ∧ BC (c_clear dd b ga).2.2.1 (k_clear c q).2.1 ∧ GC (c_clear dd b ga).2.2.2 (k_clear c q).2.1 := by
  have e1 := hb.2.1.1
  have e2 := hg.2.1
  unfold c_clear k_clear
  simp only []
  have c30 : am_put (am_put c 0 30 0) 0 31 0 0 30 = 0 := by rw [am_put_i (by decide), am_put_s]
  have c31 : am_put (am_put c 0 30 0) 0 31 0 0 31 = 0 := am_put_s
  refine ⟨by rw [e1, e2], ⟨⟨by rw [am_put_i (by decide)]; exact hb.1.1, by rw [am_put_s]; decide, fun i => ?_⟩, ⟨by rw [am_put_s, c30], fun i i1 i2 => by rw [c30] at i2; omega⟩, fun i i1 i2 => by rw [c30] at i2; omega⟩, ⟨by rw [am_put_i (by decide)]; exact hg.1.1, by rw [am_put_s]; decide, fun i => ?_⟩, by rw [am_put_s, c31], fun i i1 i2 => by rw [c31] at i2; omega⟩
  · rw [am_put_s, f_at_0]; decide
  · rw [am_put_s, f_at_0, f_at_0]; decide
theorem to_told {e h c q b ga : am_F} {w : Int} (hC : HC h c) (hR : RE e q) (hb : BC b c) (hg : GC ga c) : TO 3 (c_told e h b ga w).1 (c_told e h b ga w).2.1 e (c_told e h b ga w).2.2 (k_told c q w).1 (k_told c q w).2 := by
  obtain ⟨hHI, hV, hT, hN, hW, hWt, hSh, hL⟩ := id hC
  unfold c_told k_told
  rcases ti_rng w 0 9 with ⟨a0, b0, c0⟩ | ⟨a0, b0, d0⟩
  · have h10 : w = 0 ∨ w = 1 ∨ w = 2 ∨ w = 3 ∨ w = 4 ∨ w = 5 ∨ w = 6 ∨ w = 7 ∨ w = 8 ∨ w = 9 := by omega
    simp only [a0, b0, reduceIte, Int.reduceEq, k_refuse0]
    rcases h10 with rfl | rfl | rfl | rfl | rfl | rfl | rfl | rfl | rfl | rfl
    · exact TO_ok am_put_s hT.1.1 (RE_put hR)
    · exact TO_ok am_put_s hT.1.2 (RE_put hR)
    · exact TO_ok am_put_s hN.2.1 (RE_put hR)
    · exact TO_ok am_put_s hT.2.2.2.2.2 (RE_put hR)
    · exact TO_ok am_put_s hW.1 (RE_put hR)
    · exact TO_ok am_put_s hWt.1 (RE_put hR)
    · exact TO_ok am_put_s hSh.1 (RE_put hR)
    · exact TO_ok am_put_s hN.1 (RE_put hR)
    · exact TO_ok am_put_s hb.2.1.1 (RE_put hR)
    · exact TO_ok am_put_s hg.2.1 (RE_put hR)
  · simp only [a0, b0, reduceIte, Int.reduceEq, k_refuse0]
    exact TO_ref (by decide) (by decide) (by decide) hR
theorem to_status {e q : am_F} {w : Int} (hR : RE e q) : c_status e w = (k_status q w).1 := by
  unfold c_status k_status
  simp only []
  rcases ti_rng w 0 2 with ⟨-, b0, c0⟩ | ⟨-, b0, d0⟩
  · rw [b0, if_neg (by omega), if_neg (by omega), if_neg (by decide)]
    exact hR w.toNat (by omega)
  · rw [b0, if_pos rfl]
    rcases d0 with d0 | d0
    · rw [if_pos d0]
    · rw [if_neg (by omega), if_pos (by omega)]
/-! the tape -/
def TP (e c : am_F) : Prop := (0 ≤ e 0 7 ∧ e 0 7 ≤ 600) ∧ e 0 7 = c 0 1 ∧ ∀ j : Nat, (j : Int) < e 0 7 → e 1 j = c 1 j
def ti_tb (e : am_F) (v : Int) : am_F := am_put (am_put e 1 (e 0 7).toNat v) 0 7 (e 0 7 + 1)
def ti_tm (c : am_F) (v : Int) : am_F := am_put (am_put c 1 (c 0 1).toNat v) 0 1 (c 0 1 + 1)
theorem TP_s {e c : am_F} {v : Int} (h : TP e c) (hc : e 0 7 < 600) : TP (ti_tb e v) (ti_tm c v) ∧ ti_tb e v 0 7 = e 0 7 + 1 := by
  obtain ⟨h1, h2, h3⟩ := h
  have e7 : ti_tb e v 0 7 = e 0 7 + 1 := am_put_s
  have c1 : ti_tm c v 0 1 = c 0 1 + 1 := am_put_s
  refine ⟨⟨by rw [e7]; omega, by rw [e7, c1, h2], fun j hj => ?_⟩, e7⟩
  rw [e7] at hj
  unfold ti_tb ti_tm
  rw [← h2]
  by_cases g : j = (e 0 7).toNat
  · rw [g]
    simp (disch := omega) only [am_put_k, am_put_s]
  · simp (disch := omega) only [am_put_k, am_put_i]
    exact h3 j (by omega)
theorem ti_shr255 (w : BitVec 32) (n : Nat) (hn : n ≤ 24) : (w >>> n) &&& 255#32 = (w.sshiftRight n) &&& 255#32 := by
  apply BitVec.eq_of_getLsbD_eq
  intro i hi
  rw [BitVec.getLsbD_and, BitVec.getLsbD_and, BitVec.getLsbD_ushiftRight, BitVec.getLsbD_sshiftRight]
  by_cases h : i < 8
  · have h1 : n + i < 32 := by omega
    simp [show ¬ 32 ≤ i by omega, h1]
  · have h7 : (255#32).getLsbD i = false := by
      have : ∀ i : Nat, i < 32 → ¬ i < 8 → (255#32).getLsbD i = false := by decide
      exact this i hi h
    rw [h7, Bool.and_false, Bool.and_false]
theorem ti_byte (x : Int) : am_iand (am_iushr x 24) 255 = am_iand (am_ishr x 24) 255 ∧ am_iand (am_iushr x 16) 255 = am_iand (am_ishr x 16) 255 ∧ am_iand (am_iushr x 8) 255 = am_iand (am_ishr x 8) 255 ∧ am_iand (am_iushr x 0) 255 = am_iand (am_ishr x 0) 255 := by
  unfold am_iand am_iushr am_ishr
  refine ⟨?_, ?_, ?_, ?_⟩
  · rw [Int32.ofInt_toInt, Int32.ofInt_toInt]
    have e1 : ((Int32.ofInt x).toUInt32 >>> ((Int32.ofInt 24).toUInt32 &&& Int32.toUInt32 31)).toInt32 = Int32.ofBitVec ((Int32.ofInt x).toBitVec >>> 24) := rfl
    have e2 : (Int32.ofInt x >>> (Int32.ofInt 24 &&& 31)) = Int32.ofBitVec ((Int32.ofInt x).toBitVec.sshiftRight 24) := rfl
    rw [e1, e2]
    exact congrArg Int32.toInt (congrArg Int32.ofBitVec (ti_shr255 _ 24 (by decide)))
  · rw [Int32.ofInt_toInt, Int32.ofInt_toInt]
    have e1 : ((Int32.ofInt x).toUInt32 >>> ((Int32.ofInt 16).toUInt32 &&& Int32.toUInt32 31)).toInt32 = Int32.ofBitVec ((Int32.ofInt x).toBitVec >>> 16) := rfl
    have e2 : (Int32.ofInt x >>> (Int32.ofInt 16 &&& 31)) = Int32.ofBitVec ((Int32.ofInt x).toBitVec.sshiftRight 16) := rfl
    rw [e1, e2]
    exact congrArg Int32.toInt (congrArg Int32.ofBitVec (ti_shr255 _ 16 (by decide)))
  · rw [Int32.ofInt_toInt, Int32.ofInt_toInt]
    have e1 : ((Int32.ofInt x).toUInt32 >>> ((Int32.ofInt 8).toUInt32 &&& Int32.toUInt32 31)).toInt32 = Int32.ofBitVec ((Int32.ofInt x).toBitVec >>> 8) := rfl
    have e2 : (Int32.ofInt x >>> (Int32.ofInt 8 &&& 31)) = Int32.ofBitVec ((Int32.ofInt x).toBitVec.sshiftRight 8) := rfl
    rw [e1, e2]
    exact congrArg Int32.toInt (congrArg Int32.ofBitVec (ti_shr255 _ 8 (by decide)))
  · rw [Int32.ofInt_toInt, Int32.ofInt_toInt]
    have e1 : ((Int32.ofInt x).toUInt32 >>> ((Int32.ofInt 0).toUInt32 &&& Int32.toUInt32 31)).toInt32 = Int32.ofBitVec ((Int32.ofInt x).toBitVec >>> 0) := rfl
    have e2 : (Int32.ofInt x >>> (Int32.ofInt 0 &&& 31)) = Int32.ofBitVec ((Int32.ofInt x).toBitVec.sshiftRight 0) := rfl
    rw [e1, e2]
    exact congrArg Int32.toInt (congrArg Int32.ofBitVec (ti_shr255 _ 0 (by decide)))
theorem ti_b255 (y : Int) : 0 ≤ am_iand y 255 ∧ am_iand y 255 ≤ 255 := by
  have e : am_iand y 255 = ((Int32.ofInt y).toBitVec &&& 255#32).toInt := rfl
  have e1 : ((Int32.ofInt y).toBitVec &&& 255#32).toNat = (Int32.ofInt y).toBitVec.toNat % 256 := by
    rw [BitVec.toNat_and]
    exact Nat.and_two_pow_sub_one_eq_mod _ 8
  have e2 : ((Int32.ofInt y).toBitVec &&& 255#32).toInt = (((Int32.ofInt y).toBitVec &&& 255#32).toNat : Int) := BitVec.toInt_eq_toNat_of_lt (by rw [e1]; omega)
  rw [e, e2, e1]
  omega
/-- four bytes of the class -/
theorem ti_tape4 {e : am_F} {x : Int} (h : e 0 7 + 4 ≤ 600) : c_tapeNumber e x = ti_tb (ti_tb (ti_tb (ti_tb e (am_iand (am_ishr x 24) 255)) (am_iand (am_ishr x 16) 255)) (am_iand (am_ishr x 8) 255)) (am_iand (am_ishr x 0) 255) := by
  have st : ∀ (s : Int) (e : am_F), 0 ≤ s → e 0 7 < 600 → w_c_tapeNumber_3 x (s, e) = .inl (s + -8, ti_tb e (am_iand (am_iushr x s) 255)) := fun s e h1 h2 => by
    unfold w_c_tapeNumber_3
    simp only []
    rw [if_neg (by omega), if_neg (by omega)]
    rfl
  obtain ⟨b1, b2, b3, b4⟩ := ti_byte x
  have n1 : ∀ (e : am_F) (v : Int), ti_tb e v 0 7 = e 0 7 + 1 := fun e v => am_put_s
  unfold c_tapeNumber
  rw [am_wh_l (n := 32) (st 24 e (by decide) (by omega)), am_wh_l (n := 31) (st _ _ (by decide) (by rw [n1]; omega)), am_wh_l (n := 30) (st _ _ (by decide) (by rw [n1, n1]; omega)), am_wh_l (n := 29) (st _ _ (by decide) (by rw [n1, n1, n1]; omega)), am_wh_r (n := 28) (y := ((24 : Int) + -8 + -8 + -8 + -8, ti_tb (ti_tb (ti_tb (ti_tb e (am_iand (am_iushr x 24) 255)) (am_iand (am_iushr x (24 + -8)) 255)) (am_iand (am_iushr x (24 + -8 + -8)) 255)) (am_iand (am_iushr x (24 + -8 + -8 + -8)) 255))) (by unfold w_c_tapeNumber_3; simp only []; rw [if_pos (by decide)])]
  show ti_tb (ti_tb (ti_tb (ti_tb e (am_iand (am_iushr x 24) 255)) (am_iand (am_iushr x 16) 255)) (am_iand (am_iushr x 8) 255)) (am_iand (am_iushr x 0) 255) = _
  rw [b1, b2, b3, b4]
def ti_tm4 (c : am_F) (x : Int) : am_F := ti_tm (ti_tm (ti_tm (ti_tm c (am_iand (am_ishr x 24) 255)) (am_iand (am_ishr x 16) 255)) (am_iand (am_ishr x 8) 255)) (am_iand (am_ishr x 0) 255)
theorem TpI_tb {e : am_F} {v : Int} (h : TpI e) (hv : 0 ≤ v ∧ v ≤ 255) : TpI (ti_tb e v) := fun j => by
  unfold ti_tb
  rw [am_put_k (by decide)]
  by_cases g : j = (e 0 7).toNat
  · rw [g, am_put_s]; exact hv
  · rw [am_put_i g]; exact h j
/-- what is kept of the class's header, of the model -/
def EqT (e e' c c' : am_F) : Prop := (∀ k, k ≠ 0 → k ≠ 1 → e' k = e k) ∧ (∀ j, j ≠ 7 → e' 0 j = e 0 j) ∧ (∀ k, k ≠ 0 → k ≠ 1 → c' k = c k) ∧ ∀ j, j ≠ 1 → c' 0 j = c 0 j
theorem EqT_s {e e' c c' : am_F} {v : Int} (h : EqT e e' c c') : EqT e (ti_tb e' v) c (ti_tm c' v) := by
  obtain ⟨h1, h2, h3, h4⟩ := h
  refine ⟨fun k k0 k1 => ?_, fun j hj => ?_, fun k k0 k1 => ?_, fun j hj => ?_⟩
  · unfold ti_tb; rw [am_put_kr k0, am_put_kr k1]; exact h1 k k0 k1
  · unfold ti_tb; rw [am_put_i hj, am_put_k (by decide)]; exact h2 j hj
  · unfold ti_tm; rw [am_put_kr k0, am_put_kr k1]; exact h3 k k0 k1
  · unfold ti_tm; rw [am_put_i hj, am_put_k (by decide)]; exact h4 j hj
theorem TP_4 {e e0 c c0 : am_F} {x : Int} (h : TP e c) (hT : TpI e) (hE : EqT e0 e c0 c) (hc : e 0 7 + 4 ≤ 600) : TP (c_tapeNumber e x) (ti_tm4 c x) ∧ TpI (c_tapeNumber e x) ∧ EqT e0 (c_tapeNumber e x) c0 (ti_tm4 c x) ∧ c_tapeNumber e x 0 7 = e 0 7 + 4 := by
  rw [ti_tape4 hc]
  unfold ti_tm4
  obtain ⟨p1, q1⟩ := TP_s (v := am_iand (am_ishr x 24) 255) h (by omega)
  obtain ⟨p2, q2⟩ := TP_s (v := am_iand (am_ishr x 16) 255) p1 (by omega)
  obtain ⟨p3, q3⟩ := TP_s (v := am_iand (am_ishr x 8) 255) p2 (by omega)
  obtain ⟨p4, q4⟩ := TP_s (v := am_iand (am_ishr x 0) 255) p3 (by omega)
  exact ⟨p4, TpI_tb (TpI_tb (TpI_tb (TpI_tb hT (ti_b255 _)) (ti_b255 _)) (ti_b255 _)) (ti_b255 _), EqT_s (EqT_s (EqT_s (EqT_s hE))), by omega⟩
def ti_tn5 (a1 a2 a3 a4 a5 k : Int) : Int := if 4 ≤ k then (if 8 ≤ k then (if 12 ≤ k then (if 16 ≤ k then a5 else a4) else a3) else a2) else a1
theorem ti_feed4 {a1 a2 a3 a4 a5 x i : Int} (hi : i % 4 = 0) (h : ∀ j : Int, i ≤ j → j < i + 4 → ti_tn5 a1 a2 a3 a4 a5 j = x) (c : am_F) : am_fold (g_k_feed_23 a1 a2 a3 a4 a5) i 4 c = ti_tm4 c x := by
  have e : ∀ j c, g_k_feed_23 a1 a2 a3 a4 a5 j c = ti_tm c (am_iand (am_ishr (ti_tn5 a1 a2 a3 a4 a5 j) (24 - 8 * (j % 4))) 255) := fun _ _ => rfl
  rw [show (4 : Nat) = 3 + 1 from rfl, am_fold_s, show (3 : Nat) = 2 + 1 from rfl, am_fold_s, show (2 : Nat) = 1 + 1 from rfl, am_fold_s, show (1 : Nat) = 0 + 1 from rfl, am_fold_s, ti_fold0, e, e, e, e, h i (by omega) (by omega), h (i + 1) (by omega) (by omega), h (i + 1 + 1) (by omega) (by omega), h (i + 1 + 1 + 1) (by omega) (by omega), show (24 : Int) - 8 * (i % 4) = 24 by omega, show (24 : Int) - 8 * ((i + 1) % 4) = 16 by omega, show (24 : Int) - 8 * ((i + 1 + 1) % 4) = 8 by omega, show (24 : Int) - 8 * ((i + 1 + 1 + 1) % 4) = 0 by omega]
  rfl
theorem to_feed {e c q : am_F} {a1 a2 a3 a4 a5 : Int} (h : TP e c) (hT : TpI e) : (c_feed e a1 a2 a3 a4 a5).1 = (k_feed c q a1 a2 a3 a4 a5).1 ∧ TP (c_feed e a1 a2 a3 a4 a5).2 (k_feed c q a1 a2 a3 a4 a5).2.1 ∧ TpI (c_feed e a1 a2 a3 a4 a5).2 ∧ EqT e (c_feed e a1 a2 a3 a4 a5).2 c (k_feed c q a1 a2 a3 a4 a5).2.1 ∧ (k_feed c q a1 a2 a3 a4 a5).2.2 = am_put q 0 0 0 := by
  have h0 : EqT e e c c := ⟨fun _ _ _ => rfl, fun _ _ => rfl, fun _ _ _ => rfl, fun _ _ => rfl⟩
  have e2 := h.2.1
  unfold c_feed k_feed
  by_cases g : e 0 7 + 20 ≤ 600
  · rw [if_pos g, if_pos (by omega)]
    obtain ⟨p1, t1, q1, n1⟩ := TP_4 (x := a1) h hT h0 (by omega)
    obtain ⟨p2, t2, q2, n2⟩ := TP_4 (x := a2) p1 t1 q1 (by omega)
    obtain ⟨p3, t3, q3, n3⟩ := TP_4 (x := a3) p2 t2 q2 (by omega)
    obtain ⟨p4, t4, q4, n4⟩ := TP_4 (x := a4) p3 t3 q3 (by omega)
    obtain ⟨p5, t5, q5, n5⟩ := TP_4 (x := a5) p4 t4 q4 (by omega)
    have em : am_fold (g_k_feed_23 a1 a2 a3 a4 a5) 0 20 c = ti_tm4 (ti_tm4 (ti_tm4 (ti_tm4 (ti_tm4 c a1) a2) a3) a4) a5 := by
      rw [show (20 : Nat) = 4 + (4 + (4 + (4 + 4))) from rfl, ti_add, ti_add, ti_add, ti_add]
      rw [ti_feed4 (i := 0) (x := a1) (by decide) (fun j h1 h2 => by unfold ti_tn5; rw [if_neg (by omega)]), ti_feed4 (i := 0 + ((4 : Nat) : Int)) (x := a2) (by decide) (fun j h1 h2 => by unfold ti_tn5; rw [if_pos (by omega), if_neg (by omega)]), ti_feed4 (i := 0 + ((4 : Nat) : Int) + ((4 : Nat) : Int)) (x := a3) (by decide) (fun j h1 h2 => by unfold ti_tn5; rw [if_pos (by omega), if_pos (by omega), if_neg (by omega)]), ti_feed4 (i := 0 + ((4 : Nat) : Int) + ((4 : Nat) : Int) + ((4 : Nat) : Int)) (x := a4) (by decide) (fun j h1 h2 => by unfold ti_tn5; rw [if_pos (by omega), if_pos (by omega), if_pos (by omega), if_neg (by omega)]), ti_feed4 (i := 0 + ((4 : Nat) : Int) + ((4 : Nat) : Int) + ((4 : Nat) : Int) + ((4 : Nat) : Int)) (x := a5) (by decide) (fun j h1 h2 => by unfold ti_tn5; rw [if_pos (by omega), if_pos (by omega), if_pos (by omega), if_pos (by omega)])]
    simp only []
    rw [em]
    exact ⟨p5.2.1, p5, t5, q5, trivial⟩
  · rw [if_neg g, if_neg (by omega)]
    exact ⟨rfl, h, hT, h0, rfl⟩
