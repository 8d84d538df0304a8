/-! THE TIE: the class's walk -/
theorem rr_path {s : am_F} {wk m cell : Int} (hk : 0 ≤ wk ∧ wk < 4) (hm : 0 ≤ m ∧ m ≤ 12) : (∀ r, r ≠ 9 → c_putPathS s wk m cell r = s r) ∧ f_pathAt (c_putPathS s wk m cell) wk m = cell ∧ ∀ w n : Int, ¬ (w = wk ∧ n = m) → f_pathAt (c_putPathS s wk m cell) w n = f_pathAt s w n := by
  have e : c_putPathS s wk m cell = am_put s 9 (wk * 13 + m).toNat cell := by
    unfold c_putPathS
    rw [if_neg (by omega), if_neg (by omega), if_neg (by omega), if_neg (by omega)]
  rw [e]
  refine ⟨fun r hr => am_put_kr hr, ?_, fun w n hwn => ?_⟩
  · unfold f_pathAt
    rw [if_pos (by omega), am_put_s]
  · unfold f_pathAt
    by_cases g : 0 ≤ w ∧ w < 4 ∧ 0 ≤ n ∧ n ≤ 12
    · rw [if_pos g, if_pos g, am_put_i (by omega)]
    · rw [if_neg g, if_neg g]
theorem rr_has {s : am_F} {x y : Int} : (f_has s x y = 1 ∧ inW (s 0 0) (s 0 1) (x, y)) ∨ (f_has s x y = 0 ∧ ¬ inW (s 0 0) (s 0 1) (x, y)) := by
  unfold f_has inW
  by_cases g : 0 ≤ x ∧ x < s 0 0 ∧ 0 ≤ y ∧ y < s 0 1
  · rw [if_pos g]; exact Or.inl ⟨rfl, ⟨g.1, g.2.1⟩, g.2.2⟩
  · rw [if_neg g]; exact Or.inr ⟨rfl, fun h => g ⟨h.1.1, h.1.2, h.2⟩⟩
theorem rr_walkStep {e P ss : am_F} {mv wk x y i : Int} : (mv ≤ i ∧ w_c_walksInPort_36 e P mv wk (x, y, i, ss) = .inr (1, ss)) ∨ (i < mv ∧ (okL (c_byteAt e P (P 0 3 + i)) ∧ inW (ss 0 0) (ss 0 1) (x + k_goesBy (c_byteAt e P (P 0 3 + i)) 1, y + k_goesBy (c_byteAt e P (P 0 3 + i)) 0)) ∧ w_c_walksInPort_36 e P mv wk (x, y, i, ss) = .inl (x + k_goesBy (c_byteAt e P (P 0 3 + i)) 1, y + k_goesBy (c_byteAt e P (P 0 3 + i)) 0, i + 1, c_putPathS ss wk (i + 1) (x + k_goesBy (c_byteAt e P (P 0 3 + i)) 1 + 10 * (y + k_goesBy (c_byteAt e P (P 0 3 + i)) 0)))) ∨ (i < mv ∧ ¬ (okL (c_byteAt e P (P 0 3 + i)) ∧ inW (ss 0 0) (ss 0 1) (x + k_goesBy (c_byteAt e P (P 0 3 + i)) 1, y + k_goesBy (c_byteAt e P (P 0 3 + i)) 0)) ∧ w_c_walksInPort_36 e P mv wk (x, y, i, ss) = .inr (0, ss)) := by
  unfold w_c_walksInPort_36
  dsimp only
  by_cases g : mv ≤ i
  · rw [if_pos g]; exact Or.inl ⟨g, rfl⟩
  rw [if_neg g]
  refine Or.inr ?_
  generalize c_byteAt e P (P 0 3 + i) = B
  have key : ∀ x' y' : Int, okL B → k_goesBy B 1 = x' → k_goesBy B 0 = y' → (i < mv ∧ (okL B ∧ inW (ss 0 0) (ss 0 1) (x + k_goesBy B 1, y + k_goesBy B 0)) ∧ (if f_has ss (x + x') (y + y') = 0 then (Sum.inr (0, ss) : (Int × Int × Int × am_F) ⊕ (Int × am_F)) else Sum.inl (x + x', y + y', i + 1, c_putPathS ss wk (i + 1) (x + x' + 10 * (y + y')))) = .inl (x + k_goesBy B 1, y + k_goesBy B 0, i + 1, c_putPathS ss wk (i + 1) (x + k_goesBy B 1 + 10 * (y + k_goesBy B 0)))) ∨ (i < mv ∧ ¬ (okL B ∧ inW (ss 0 0) (ss 0 1) (x + k_goesBy B 1, y + k_goesBy B 0)) ∧ (if f_has ss (x + x') (y + y') = 0 then (Sum.inr (0, ss) : (Int × Int × Int × am_F) ⊕ (Int × am_F)) else Sum.inl (x + x', y + y', i + 1, c_putPathS ss wk (i + 1) (x + x' + 10 * (y + y')))) = .inr (0, ss)) := fun x' y' hB ex ey => by
    rw [ex, ey]
    rcases rr_has (s := ss) (x := x + x') (y := y + y') with ⟨h1, h2⟩ | ⟨h1, h2⟩
    · rw [if_neg (by rw [h1]; decide)]
      exact Or.inl ⟨by omega, ⟨hB, h2⟩, rfl⟩
    · rw [if_pos h1]
      exact Or.inr ⟨by omega, fun h => h2 h.2, rfl⟩
  by_cases g1 : B = 101
  · rw [if_pos g1]
    have h9 := key 1 0 (by unfold okL; omega) (by rw [g1]; decide) (by rw [g1]; decide)
    simp only [Int.add_zero] at h9
    exact h9
  rw [if_neg g1]
  by_cases g2 : B = 119
  · rw [if_pos g2]
    have h9 := key (-1) 0 (by unfold okL; omega) (by rw [g2]; decide) (by rw [g2]; decide)
    simp only [Int.add_zero] at h9
    exact h9
  rw [if_neg g2]
  by_cases g3 : B = 115
  · rw [if_pos g3]
    have h9 := key 0 1 (by unfold okL; omega) (by rw [g3]; decide) (by rw [g3]; decide)
    simp only [Int.add_zero] at h9
    exact h9
  rw [if_neg g3]
  by_cases g4 : B = 110
  · rw [if_pos g4]
    have h9 := key 0 (-1) (by unfold okL; omega) (by rw [g4]; decide) (by rw [g4]; decide)
    simp only [Int.add_zero] at h9
    exact h9
  rw [if_neg g4]
  by_cases g5 : B = 111
  · rw [if_pos g5]
    have h9 := key 0 0 (by unfold okL; omega) (by rw [g5]; decide) (by rw [g5]; decide)
    simp only [Int.add_zero] at h9
    exact h9
  rw [if_neg g5]
  exact Or.inr ⟨by omega, fun h => by have := h.1; unfold okL at this; omega, rfl⟩
theorem rr_walkL {e P s : am_F} {mv wk : Int} {p0 : Int × Int} {d : Int × am_F} (hk : 0 ≤ wk ∧ wk < 4) (hm : 0 ≤ mv ∧ mv ≤ 12) : ∀ (n : Nat) (i : Nat) (ss : am_F), mv - i < n → (i : Int) ≤ mv → (∀ j : Nat, j < i → okW (s 0 0) (s 0 1) (fun j => c_byteAt e P (P 0 3 + j)) p0 j) → ((∀ r, r ≠ 9 → ss r = s r) ∧ (∀ m : Nat, m ≤ i → f_pathAt ss wk m = (am_fold (bw (fun j => c_byteAt e P (P 0 3 + j))) 0 m p0).1 + 10 * (am_fold (bw (fun j => c_byteAt e P (P 0 3 + j))) 0 m p0).2) ∧ ∀ w n : Int, w ≠ wk → f_pathAt ss w n = f_pathAt s w n) → (∀ r, r ≠ 9 → (am_wr (w_c_walksInPort_36 e P mv wk) d n ((am_fold (bw (fun j => c_byteAt e P (P 0 3 + j))) 0 i p0).1, (am_fold (bw (fun j => c_byteAt e P (P 0 3 + j))) 0 i p0).2, (i : Int), ss)).2 r = s r) ∧ (∀ w n9 : Int, w ≠ wk → f_pathAt (am_wr (w_c_walksInPort_36 e P mv wk) d n ((am_fold (bw (fun j => c_byteAt e P (P 0 3 + j))) 0 i p0).1, (am_fold (bw (fun j => c_byteAt e P (P 0 3 + j))) 0 i p0).2, (i : Int), ss)).2 w n9 = f_pathAt s w n9) ∧ (((am_wr (w_c_walksInPort_36 e P mv wk) d n ((am_fold (bw (fun j => c_byteAt e P (P 0 3 + j))) 0 i p0).1, (am_fold (bw (fun j => c_byteAt e P (P 0 3 + j))) 0 i p0).2, (i : Int), ss)).1 = 1 ∧ (∀ j : Nat, (j : Int) < mv → okW (s 0 0) (s 0 1) (fun j => c_byteAt e P (P 0 3 + j)) p0 j) ∧ ∀ m : Nat, (m : Int) ≤ mv → f_pathAt (am_wr (w_c_walksInPort_36 e P mv wk) d n ((am_fold (bw (fun j => c_byteAt e P (P 0 3 + j))) 0 i p0).1, (am_fold (bw (fun j => c_byteAt e P (P 0 3 + j))) 0 i p0).2, (i : Int), ss)).2 wk m = (am_fold (bw (fun j => c_byteAt e P (P 0 3 + j))) 0 m p0).1 + 10 * (am_fold (bw (fun j => c_byteAt e P (P 0 3 + j))) 0 m p0).2) ∨ ((am_wr (w_c_walksInPort_36 e P mv wk) d n ((am_fold (bw (fun j => c_byteAt e P (P 0 3 + j))) 0 i p0).1, (am_fold (bw (fun j => c_byteAt e P (P 0 3 + j))) 0 i p0).2, (i : Int), ss)).1 = 0 ∧ ∃ j : Nat, (j : Int) < mv ∧ ¬ okW (s 0 0) (s 0 1) (fun j => c_byteAt e P (P 0 3 + j)) p0 j)) := by
  intro n
  induction n with
  | zero => intro i ss h1 h2; omega
  | succ n ih =>
    intro i ss h1 h2 h3 h4
    obtain ⟨f1, f2, f3⟩ := h4
    have es := bw_s (fun j => c_byteAt e P (P 0 3 + j)) i p0
    have eo : okW (s 0 0) (s 0 1) (fun j => c_byteAt e P (P 0 3 + j)) p0 i ↔ okL (c_byteAt e P (P 0 3 + i)) ∧ inW (ss 0 0) (ss 0 1) ((am_fold (bw (fun j => c_byteAt e P (P 0 3 + j))) 0 i p0).1 + k_goesBy (c_byteAt e P (P 0 3 + i)) 1, (am_fold (bw (fun j => c_byteAt e P (P 0 3 + j))) 0 i p0).2 + k_goesBy (c_byteAt e P (P 0 3 + i)) 0) := by
      unfold okW
      rw [es, f1 0 (by decide)]
    rcases rr_walkStep (e := e) (P := P) (ss := ss) (mv := mv) (wk := wk) (x := (am_fold (bw (fun j => c_byteAt e P (P 0 3 + j))) 0 i p0).1) (y := (am_fold (bw (fun j => c_byteAt e P (P 0 3 + j))) 0 i p0).2) (i := i) with ⟨g1, g2⟩ | ⟨g1, g2, g3⟩ | ⟨g1, g2, g3⟩
    · rw [am_wr_r g2]
      exact ⟨f1, fun w n9 hw => f3 w n9 hw, Or.inl ⟨rfl, fun j hj => h3 j (by omega), fun m hm => f2 m (by omega)⟩⟩
    · rw [am_wr_l g3]
      have hp := rr_path (s := ss) (wk := wk) (m := (i : Int) + 1) (cell := (am_fold (bw (fun j => c_byteAt e P (P 0 3 + j))) 0 i p0).1 + k_goesBy (c_byteAt e P (P 0 3 + i)) 1 + 10 * ((am_fold (bw (fun j => c_byteAt e P (P 0 3 + j))) 0 i p0).2 + k_goesBy (c_byteAt e P (P 0 3 + i)) 0)) hk (by omega)
      have h9 := ih (i + 1) (c_putPathS ss wk ((i : Int) + 1) ((am_fold (bw (fun j => c_byteAt e P (P 0 3 + j))) 0 i p0).1 + k_goesBy (c_byteAt e P (P 0 3 + i)) 1 + 10 * ((am_fold (bw (fun j => c_byteAt e P (P 0 3 + j))) 0 i p0).2 + k_goesBy (c_byteAt e P (P 0 3 + i)) 0))) (by omega) (by omega) (fun j hj => by
        by_cases g : j = i
        · rw [g]; exact eo.2 g2
        · exact h3 j (by omega)) ⟨fun r hr => (hp.1 r hr).trans (f1 r hr), fun m hm => by
          by_cases g : m = i + 1
          · rw [g, es]
            exact hp.2.1
          · rw [hp.2.2 _ _ (by omega)]
            exact f2 m (by omega), fun w n9 hw => (hp.2.2 w n9 (fun h => hw h.1)).trans (f3 w n9 hw)⟩
      rw [es] at h9
      exact h9
    · rw [am_wr_r g3]
      exact ⟨f1, fun w n9 hw => f3 w n9 hw, Or.inr ⟨rfl, i, g1, fun h => g2 (eo.1 h)⟩⟩
theorem rr_walkC {e P s : am_F} {x0 y0 mv : Int} (hk : 0 ≤ s 0 8 ∧ s 0 8 < 4) (hm : 0 ≤ mv ∧ mv ≤ 12) (hx : 0 ≤ x0 ∧ x0 < 10) (hy : 0 ≤ y0) : (∀ r, r ≠ 9 → (c_walksInPort e s P (x0 + 10 * y0) mv).2 r = s r) ∧ (∀ w n9 : Int, w ≠ s 0 8 → f_pathAt (c_walksInPort e s P (x0 + 10 * y0) mv).2 w n9 = f_pathAt s w n9) ∧ (((c_walksInPort e s P (x0 + 10 * y0) mv).1 = 1 ∧ (∀ j : Nat, (j : Int) < mv → okW (s 0 0) (s 0 1) (fun j => c_byteAt e P (P 0 3 + j)) (x0, y0) j) ∧ ∀ m : Nat, (m : Int) ≤ mv → f_pathAt (c_walksInPort e s P (x0 + 10 * y0) mv).2 (s 0 8) m = (am_fold (bw (fun j => c_byteAt e P (P 0 3 + j))) 0 m (x0, y0)).1 + 10 * (am_fold (bw (fun j => c_byteAt e P (P 0 3 + j))) 0 m (x0, y0)).2) ∨ ((c_walksInPort e s P (x0 + 10 * y0) mv).1 = 0 ∧ ∃ j : Nat, (j : Int) < mv ∧ ¬ okW (s 0 0) (s 0 1) (fun j => c_byteAt e P (P 0 3 + j)) (x0, y0) j)) := by
  have hp := rr_path (s := s) (wk := s 0 8) (m := 0) (cell := x0 + 10 * y0) hk (by decide)
  have h9 := rr_walkL (e := e) (P := P) (s := s) (mv := mv) (wk := s 0 8) (p0 := (x0, y0)) (d := (0, fun _ _ => 0)) hk hm 14 0 (c_putPathS s (s 0 8) 0 (x0 + 10 * y0)) (by omega) (by omega) (fun j hj => by omega) ⟨hp.1, fun m hm => by
    have e0 : m = 0 := by omega
    subst e0
    exact hp.2.1, fun w n9 hw => hp.2.2 w n9 (fun h => hw h.1)⟩
  have e1 : c_walksInPort e s P (x0 + 10 * y0) mv = am_wr (w_c_walksInPort_36 e P mv (s 0 8)) (0, fun _ _ => 0) 14 ((x0 + 10 * y0) % 10, (x0 + 10 * y0) / 10, 0, c_putPathS s (s 0 8) 0 (x0 + 10 * y0)) := rfl
  have e2 : (x0 + 10 * y0) % 10 = x0 := by omega
  have e3 : (x0 + 10 * y0) / 10 = y0 := by omega
  rw [e2, e3] at e1
  rw [e1]
  exact h9
/-- the clause of a walk -/
theorem cl_walk {e P D s : am_F} (h : RR e P D) (t : TpI e) (hR : HR s D) (hf : D 3 4 ≠ 4) : ∃ D', k_clause_238 D 4 = k_sign D' 59 ∧ RR e (c_readWalk e s P).2 D' ∧ (D' 0 5 = 0 → HR (c_readWalk e s P).1 D') ∧ KD D D' := by
  have hD := hR.1
  have hK := hR.2.2.2.2.2.2.1
  obtain ⟨hn, hrows⟩ := hK
  obtain ⟨⟨d0, d1⟩, dm, -⟩ := hD
  have hk8 : 0 ≤ s 0 8 ∧ s 0 8 < 4 := by omega
  unfold c_readWalk c_readCell c_readStep k_clause_238 k_walkHere k_acrossHere k_downHere
  dsimp only
  rw [rrm5 (show s 0 8 < 4 by omega), d0, d1]
  have hr : 103 + (D 3 4).toNat ≠ 0 ∧ 103 + (D 3 4).toNat ≠ 1 := by omega
  obtain ⟨a0, b0, c0, e0, f0, g0, i0⟩ := rr_np (lo := 0) (hi := D 3 0 - 1) (r := 103 + (D 3 4).toNat) (i := 0) h t hr
  generalize c_number e P 0 (D 3 0 - 1) = u0 at *
  generalize k_number D 0 (D 3 0 - 1) = v0 at *
  generalize hE0 : am_put v0.2 (103 + (D 3 4).toNat) 0 v0.1 = D1 at *
  rw [show D1 3 1 = D 3 1 from congrFun (b0.1 3 (by decide) (by omega)) 1]
  obtain ⟨a1, b1, c1, e1, f1, g1, i1⟩ := rr_np (lo := 0) (hi := D 3 1 - 1) (r := 103 + (D 3 4).toNat) (i := 1) a0 t hr
  have l1 := LX_t b0 b1
  generalize c_number e u0.2 0 (D 3 1 - 1) = u1 at *
  generalize k_number D1 0 (D 3 1 - 1) = v1 at *
  generalize hE1 : am_put v1.2 (103 + (D 3 4).toNat) 1 v1.1 = D2 at *
  obtain ⟨a2, b2, c2, e2, f2, g2, i2⟩ := rr_np (lo := 0) (hi := 39) (r := 103 + (D 3 4).toNat) (i := 2) a1 t hr
  have l2 := LX_t l1 b2
  generalize c_number e u1.2 0 39 = u2 at *
  generalize k_number D2 0 39 = v2 at *
  rw [i2]
  generalize hE2 : am_put v2.2 (103 + (D 3 4).toNat) 2 v2.1 = D3 at *
  by_cases h5 : D3 0 5 = 0
  · have q2 := c2 h5
    have q1 := c1 q2.1
    have q0 := c0 q1.1
    have hx0 : 0 ≤ v0.1 ∧ v0.1 < 10 := by have := q0.2.2; omega
    have hy0 : 0 ≤ v1.1 := q1.2.2.1
    rw [if_pos h5]
    obtain ⟨wd, -, w3, w4, w5⟩ := rr_word a2 t h5
    have hB : RdV (k_blanks D3) ∧ Lx D3 (k_blanks D3) := k_blanks_x a2.2.2.2.2.2.2
    have z5 : k_blanks D3 0 5 = 0 := k_blanks_5.trans h5
    have lB := LX_t l2 (LX_x (r := 103 + (D 3 4).toNat) hB.2)
    have y0 : k_blanks D3 (103 + (D 3 4).toNat) 0 = v0.1 := (congrFun (hB.2.1 _ hr.1) 0).trans ((f2 0 (by decide)).trans ((f1 0 (by decide)).trans e0))
    have y1 : k_blanks D3 (103 + (D 3 4).toNat) 1 = v1.1 := (congrFun (hB.2.1 _ hr.1) 1).trans ((f2 1 (by decide)).trans e1)
    have y2 : k_blanks D3 (103 + (D 3 4).toNat) 2 = v2.1 := (congrFun (hB.2.1 _ hr.1) 2).trans e2
    rw [y0, y1]
    have hby : ∀ z : Int, 0 ≤ z → c_byteAt e (c_word e u2.2).2 z = k_byteAt (k_blanks D3) z := fun z hz => by
      have hw := (Rd2.word (Rd2.rf a2.2.2.2.2.2.1) t).2 0 1 (by omega)
      have h9 := rr_byte a2 hz
      rw [show c_byteAt e (c_word e u2.2).2 z = c_byteAt e u2.2 z by unfold c_byteAt; rw [hw], h9]
      unfold k_byteAt
      rw [hB.2.2 2 (by decide) (by decide) (by decide), hB.2.1 1 (by decide)]
    have hW := (Rd2.word (Rd2.rf a2.2.2.2.2.2.1) t).1
    generalize hC : k_blanks D3 = C at *
    generalize c_word e u2.2 = w at *
    rcases k_isSmall_s (k_byteAt C (C 0 4)) with ⟨d1', d2'⟩ | ⟨d1', d2'⟩
    · obtain ⟨x1, x2, x3, x4, x5⟩ := w5 d1'
      rw [if_neg (by rw [d1']; decide)]
      obtain ⟨⟨m1, m2, m3⟩, m4, m5, m6⟩ := rr_walkM (C := C) (k := D 3 4) (here := C 0 4) (x0 := v0.1) (y0 := v1.1) hB.1 z5 (by have := q0.2.2; omega) (by have := q1.2.2; omega)
      generalize am_wh (w_k_walkHere_76 (D 3 4) (C 0 4)) 601 (v0.1, v1.1, 0, C) = Y at *
      have hfi := rr_fine x1 x3
      have hz27 : ¬ c_fine w.2 = 0 := by rw [hfi]; decide
      rw [if_neg hz27, if_neg hz27]
      have eL : w.1 = Y.2.2.1 := x2.trans m2.symm
      have lY := LX_t lB m5
      rw [eL]
      have eb : (fun j : Nat => c_byteAt e w.2 (w.2 0 3 + j)) = fun j : Nat => k_byteAt C (C 0 4 + j) := by
        funext j
        rw [w3]
        exact hby _ (by have := hB.1.1; omega)
      have hd : s 0 0 = C 3 0 ∧ s 0 1 = C 3 1 := by
        rw [d0, d1, show C 3 = D 3 from lB.1 3 (by decide) (by omega)]
        exact ⟨rfl, rfl⟩
      -- whether the walk may be
      have key : ∃ S1 P1, (if 12 < Y.2.2.1 then s else (c_walksInPort e s w.2 (u0.1 + 10 * u1.1) Y.2.2.1).2) = S1 ∧ (if 12 < Y.2.2.1 then c_wrong w.2 2 (w.2 0 3) else if (c_walksInPort e s w.2 (u0.1 + 10 * u1.1) Y.2.2.1).1 = 0 then c_wrong w.2 2 (w.2 0 3) else w.2) = P1 ∧ RR e P1 Y.2.2.2 ∧ (Y.2.2.2 0 5 = 0 → Y.2.2.1 ≤ 12 ∧ (∀ r, r ≠ 9 → S1 r = s r) ∧ (∀ w n9 : Int, w ≠ s 0 8 → f_pathAt S1 w n9 = f_pathAt s w n9) ∧ (∀ i : Nat, (i : Int) < Y.2.2.1 → okW (C 3 0) (C 3 1) (fun i => k_byteAt C (C 0 4 + i)) (v0.1, v1.1) i ∧ Y.2.2.2 (103 + (D 3 4).toNat) (4 + i) = k_byteAt C (C 0 4 + i)) ∧ ∀ m : Nat, (m : Int) ≤ Y.2.2.1 → f_pathAt S1 (s 0 8) m = (am_fold (bw (fun j => k_byteAt C (C 0 4 + j))) 0 m (v0.1, v1.1)).1 + 10 * (am_fold (bw (fun j => k_byteAt C (C 0 4 + j))) 0 m (v0.1, v1.1)).2) := by
        refine ⟨_, _, rfl, rfl, ?_⟩
        rw [q0.2.1, q1.2.1]
        have hRR0 : Y.2.2.2 0 5 = 0 → Y.2.2.2 0 6 = C 0 6 → RR e w.2 Y.2.2.2 := fun g5 g6 => by
          obtain ⟨i1, i2, i3, i4, i5, i6, i7⟩ := x1
          refine ⟨i1.trans (x3.trans g5.symm), i2.trans ((x4 0 6 (by decide)).trans g6.symm), fun _ => (i3 x3).trans m1.symm, i4.trans ((x4 0 2 (by decide)).trans (m5.2 2 (by decide) (by decide) (by decide)).symm), fun j hj => ?_, i6, ?_⟩
          · rw [m5.2 2 (by decide) (by decide) (by decide)] at hj
            rw [m5.1 1 (by decide) (by omega)]
            have h9 := i5 j (by rw [x4 0 2 (by decide)]; exact hj)
            rw [h9, x4 1 j (fun e => absurd e.1 (by decide))]
          · unfold RdV
            rw [m1, m5.2 2 (by decide) (by decide) (by decide), ← x4 0 2 (by decide)]
            exact i7
        have hRRX : Y.2.2.2 0 5 = 2 → Y.2.2.2 0 6 = C 0 4 → RR e (c_wrong w.2 2 (w.2 0 3)) Y.2.2.2 := fun g5 g6 => by
          have hI := c_wrong_I hW 2 (w.2 0 3)
          obtain ⟨i1, i2, i3, i4, i5, i6, i7⟩ := x1
          have ew : c_wrong w.2 2 (w.2 0 3) = am_put (am_put w.2 0 4 2) 0 5 (w.2 0 3) := if_pos (i1.trans x3)
          rw [ew] at hI ⊢
          refine ⟨g5.symm, ?_, fun g => by omega, i4.trans ((x4 0 2 (by decide)).trans (m5.2 2 (by decide) (by decide) (by decide)).symm), fun j hj => ?_, hI, ?_⟩
          · show w.2 0 3 = _
            rw [w3, g6]
          · rw [m5.2 2 (by decide) (by decide) (by decide)] at hj
            rw [m5.1 1 (by decide) (by omega)]
            have h9 := i5 j (by rw [x4 0 2 (by decide)]; exact hj)
            rw [h9, x4 1 j (fun e => absurd e.1 (by decide))]
          · unfold RdV
            rw [m1, m5.2 2 (by decide) (by decide) (by decide), ← x4 0 2 (by decide)]
            exact i7
        by_cases g12 : 12 < Y.2.2.1
        · rw [if_pos g12, if_pos g12]
          rcases m4 with ⟨m4, -, m7, -⟩ | ⟨m4, m7, -⟩
          · omega
          · exact ⟨hRRX m4 m7, fun g => by omega⟩
        · rw [if_neg g12, if_neg g12]
          obtain ⟨o1, o2, o3⟩ := rr_walkC (e := e) (P := w.2) (s := s) (x0 := v0.1) (y0 := v1.1) (mv := Y.2.2.1) hk8 ⟨m3, Int.not_lt.mp g12⟩ hx0 hy0
          rw [eb, hd.1, hd.2] at o3
          rcases o3 with ⟨o3, o4, o5⟩ | ⟨o3, j, o4, o5⟩
          · rw [if_neg (by rw [o3]; decide)]
            rcases m4 with ⟨m4, m7, m8, m9⟩ | ⟨m4, m7, m8⟩
            · exact ⟨hRR0 m4 m7, fun _ => ⟨m8, o1, o2, m9, o5⟩⟩
            · rcases m8 with m8 | ⟨j, m8, m9⟩
              · exact absurd m8 g12
              · exact absurd (o4 j m8) m9
          · rw [if_pos o3]
            rcases m4 with ⟨m4, m7, m8, m9⟩ | ⟨m4, m7, m8⟩
            · exact absurd (m9 j o4).1 o5
            · exact ⟨hRRX m4 m7, fun g => by omega⟩
      obtain ⟨S1, P1, k1, k2, k3, k4⟩ := key
      rw [k1, k2]
      have hYc : am_put Y.2.2.2 (103 + (D 3 4).toNat) 3 Y.2.2.1 0 5 = Y.2.2.2 0 5 := am_put_k (by omega)
      rw [show am_put Y.2.2.2 (103 + (D 3 4).toNat) 3 Y.2.2.1 3 (4 : Int).toNat = D 3 4 from (am_put_k (by omega)).trans (congrFun (lY.1 3 (by decide) (by omega)) 4), hYc]
      refine ⟨_, rfl, rr_row (rr_row k3 hr) (by decide), fun g5 => ?_, KD_p (KD_p (KD_X (r := 103 + (D 3 4).toNat) (by unfold rdw; omega) lY) (by unfold rdw; omega)) (by unfold rdw; decide)⟩
      have q9 : Y.2.2.2 0 5 = 0 := hYc.symm.trans ((am_put_k (by decide)).symm.trans g5)
      obtain ⟨k5, k6, k7, k8, k9⟩ := k4 q9
      have s8 : S1 0 8 = s 0 8 := congrFun (k6 0 (by decide)) 8
      rw [addIf5 (show S1 0 8 < 4 by omega) (rr_fine k3 q9), if_pos q9]
      obtain ⟨w1', ⟨w2', w3', -⟩, w5', w6, w7⟩ := rr_addR (ss := S1) (r := 6) (fi := 8) (n := S1 0 8) (na := u2.1) (nb := Y.2.2.1) (nc := 0) (nd := 0) (v := S1 0 8 + 1) (by decide) (by omega) rfl
      generalize am_put (am_put (am_put (am_put (am_put S1 6 (S1 0 8 * 4).toNat u2.1) 6 (S1 0 8 * 4 + 1).toNat Y.2.2.1) 6 (S1 0 8 * 4 + 2).toNat 0) 6 (S1 0 8 * 4 + 3).toNat 0) 0 8 (S1 0 8 + 1) = X at *
      rw [s8, k6 6 (by decide)] at w1'
      rw [s8] at w2' w3' w5'
      have hrow : ∀ i : Int, 0 ≤ i → i < D 3 4 → am_put (am_put Y.2.2.2 (103 + (D 3 4).toNat) 3 Y.2.2.1) 3 (4 : Int).toNat (D 3 4 + 1) (103 + i.toNat) = D (103 + i.toNat) := fun i a1 a2 => (am_put_kr (by omega)).trans ((am_put_kr (by omega)).trans (lY.1 _ (by omega) (by omega)))
      have rN : am_put (am_put Y.2.2.2 (103 + (D 3 4).toNat) 3 Y.2.2.1) 3 (4 : Int).toNat (D 3 4 + 1) (103 + (D 3 4).toNat) = am_put Y.2.2.2 (103 + (D 3 4).toNat) 3 Y.2.2.1 (103 + (D 3 4).toNat) := am_put_kr (by omega)
      have rv3 : am_put Y.2.2.2 (103 + (D 3 4).toNat) 3 Y.2.2.1 (103 + (D 3 4).toNat) 3 = Y.2.2.1 := am_put_s
      have rv : ∀ j, j ≠ 3 → am_put Y.2.2.2 (103 + (D 3 4).toNat) 3 Y.2.2.1 (103 + (D 3 4).toNat) j = Y.2.2.2 (103 + (D 3 4).toNat) j := fun j hj => am_put_i hj
      have h3 : ∀ j : Nat, j ≠ 4 → am_put (am_put Y.2.2.2 (103 + (D 3 4).toNat) 3 Y.2.2.1) 3 (4 : Int).toNat (D 3 4 + 1) 3 j = D 3 j := fun j hj => (am_put_i hj).trans ((am_put_k (by omega)).trans (congrFun (lY.1 3 (by decide) (by omega)) j))
      have hcj : am_put (am_put Y.2.2.2 (103 + (D 3 4).toNat) 3 Y.2.2.1) 3 (4 : Int).toNat (D 3 4 + 1) 3 4 = D 3 4 + 1 := am_put_s
      have hk : ∀ k : Nat, k ≠ 0 → k ≠ 3 → ¬ (103 ≤ k ∧ k ≤ 106) → am_put (am_put Y.2.2.2 (103 + (D 3 4).toNat) 3 Y.2.2.1) 3 (4 : Int).toNat (D 3 4 + 1) k = D k := fun k k0 k3 kb => (am_put_kr k3).trans ((am_put_kr (by omega)).trans (lY.1 k k0 (by omega)))
      have h00 : ∀ j : Nat, j = 56 ∨ j = 57 → am_put (am_put Y.2.2.2 (103 + (D 3 4).toNat) 3 Y.2.2.1) 3 (4 : Int).toNat (D 3 4 + 1) 0 j = D 0 j := fun j hj => (am_put_k (by decide)).trans ((am_put_k (by omega)).trans (lY.2 j (by omega) (by omega) (by omega)))
      generalize am_put Y.2.2.2 (103 + (D 3 4).toNat) 3 Y.2.2.1 (103 + (D 3 4).toNat) = ρ at *
      generalize am_put (am_put Y.2.2.2 (103 + (D 3 4).toNat) 3 Y.2.2.1) 3 (4 : Int).toNat (D 3 4 + 1) = Z at *
      have hPath : ∀ w n9, f_pathAt X w n9 = f_pathAt S1 w n9 := fun w n9 => by
        unfold f_pathAt
        rw [w6 9 (by decide) (by decide)]
      refine HR_PK hR (fun r r0 r6 r9 => (w6 r r0 r6).trans (k6 r r9)) (fun j _ hj => (w7 j hj).trans (congrFun (k6 0 (by decide)) j)) hk (fun j _ hj => h3 j hj) h00 ⟨by omega, fun i a1 a2 => ?_⟩
      rw [hcj] at a2
      by_cases g : i = D 3 4
      · subst g
        have hz : s 0 8 = D 3 4 := hn.1
        rw [hz] at w2' w3' w5' k9
        have r2 : ρ 2 = v2.1 := (rv 2 (by decide)).trans ((m6 2 (by decide)).trans y2)
        have r0 : ρ 0 = v0.1 := (rv 0 (by decide)).trans ((m6 0 (by decide)).trans y0)
        have r1 : ρ 1 = v1.1 := (rv 1 (by decide)).trans ((m6 1 (by decide)).trans y1)
        have hfold : ∀ m : Nat, (m : Int) ≤ Y.2.2.1 → am_fold (gp ρ) 0 m (ρ 0, ρ 1) = am_fold (bw (fun j => k_byteAt C (C 0 4 + j))) 0 m (v0.1, v1.1) := fun m hm => by
          rw [r0, r1]
          refine ti_rel0 (R := fun (x y : Int × Int) => x = y) m 0 _ _ rfl fun j x y b1 b2 hxy => ?_
          subst hxy
          have h8 := (k8 j.toNat (by omega)).2
          have h7 : ρ (4 + j.toNat) = k_byteAt C (C 0 4 + j.toNat) := (rv _ (by omega)).trans h8
          unfold gp bw
          dsimp only
          rw [show (4 + j).toNat = 4 + j.toNat by omega, h7]
        rw [w5', rN, r2, rv3, w2', w3', q2.2.1]
        refine ⟨⟨rfl, rfl, q2.2.2, m3, k5⟩, fun m hm => ?_⟩
        rw [rv3] at hm
        rw [hfold m hm, hPath, k9 m hm, h3 0 (by decide), h3 1 (by decide)]
        refine ⟨rfl, ?_⟩
        have hCD : C 3 = D 3 := lB.1 3 (by decide) (by omega)
        cases m with
        | zero =>
          have := q0.2.2; have := q1.2.2
          show (0 ≤ v0.1 ∧ v0.1 < D 3 0) ∧ 0 ≤ v1.1 ∧ v1.1 < D 3 1
          omega
        | succ m =>
          have h8 := (k8 m (by omega)).1.2
          rw [hCD] at h8
          exact h8
      · have hw' := hrows i a1 (by omega)
        rw [w5', hrow i a1 (by omega), w1' i 0 a1 (by omega) (by decide) (by decide), w1' i 1 a1 (by omega) (by decide) (by decide)]
        refine ⟨hw'.1, fun m hm => ?_⟩
        have h9 := hw'.2 m hm
        rw [hPath, k7 i m (by omega), h3 0 (by decide), h3 1 (by decide)]
        exact h9
    · obtain ⟨x1, x2, x3⟩ := w4 d1'
      rw [if_pos d1']
      have hw5 : k_wrong C 1 (C 0 4) 0 5 ≠ 0 := k_wrong_5 (by decide)
      have hwx := (k_wrong_x (x := 1) (y := C 0 4) hB.1).2
      have hby' : k_byteAt (k_wrong C 1 (C 0 4)) (k_wrong C 1 (C 0 4) 0 4) = k_byteAt C (C 0 4) := by
        unfold k_byteAt
        rw [k_wrong_4, hwx.1 1 (by decide), hwx.2 2 (by decide) (by decide) (by decide)]
      generalize k_wrong C 1 (C 0 4) = K at *
      have wst : w_k_walkHere_76 (D 3 4) (C 0 4) (v0.1, v1.1, 0, K) = .inr (v0.1, v1.1, 0, K) := if_pos (by dsimp only; rw [hby']; exact d1')
      rw [show (601 : Nat) = 600 + 1 from rfl, am_wh_r wst]
      dsimp only
      have hfi : c_fine w.2 = 0 := c_fine_0 (by rw [x1.1]; exact hw5)
      rw [if_pos hfi, if_pos hfi]
      have lK := LX_t lB (LX_x (r := 103 + (D 3 4).toNat) hwx)
      refine ⟨_, rfl, rr_row (rr_row x1 hr) (by decide), fun g5 => absurd ((am_put_k (by omega)).symm.trans ((am_put_k (by decide)).symm.trans g5)) hw5, KD_p (KD_p (KD_X (r := 103 + (D 3 4).toNat) (by unfold rdw; omega) lK) (by unfold rdw; omega)) (by unfold rdw; decide)⟩
  · rw [if_neg h5]
    have hp4 : u2.2 0 4 ≠ 0 := by rw [a2.1]; exact h5
    rw [word_s hp4]
    dsimp only
    rw [if_pos (c_fine_0 hp4), if_pos (c_fine_0 hp4)]
    exact ⟨_, rfl, rr_row a2 (by decide), fun g5 => absurd ((am_put_k (by decide)).symm.trans g5) h5, KD_p (KD_X (r := 103 + (D 3 4).toNat) (by unfold rdw; omega) l2) (by unfold rdw; decide)⟩
