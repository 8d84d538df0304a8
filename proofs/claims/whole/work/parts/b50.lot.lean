/-! THE TIE: the clause of a lot -/
theorem readBlock_1 {e s P : am_F} (hI : RdI P) (t : TpI e) (hS : SpI s) : c_readBlock e s P 0 1 = P 0 1 := (c_readBlock_x hI t hS).2.2.2 0 1 (by omega)
theorem cl_lot {e P D s : am_F} (h : RR e P D) (t : TpI e) (hR : HR s D) (hS : SpI s) (hf : D 3 3 ≠ 6) : ∃ D', k_clause_220 D 3 = k_sign D' 59 ∧ RR e (c_readLot e s P).2 D' ∧ (D' 0 5 = 0 → HR (c_readLot e s P).1 D') ∧ KD D D' := by
  have hD := hR.1
  have hO := hR.2.2.2.2.2.1
  obtain ⟨hn, hrows, hown, hlot⟩ := hO
  have dm := hD.2.1
  obtain ⟨A, LA, cA⟩ := rr_blockL (s := s) (r := 89 + (D 3 3).toNat) h t hD.1 (by omega)
  have eM : k_lotHere D (D 3 3) = (let X := (mBlk D (89 + (D 3 3).toNat)).1; let c61 := am_fold (g_k_lotHere_61 (D 3 3) (mBlk D (89 + (D 3 3).toNat)).2) 0 (X 3 3).toNat X; let u144 := k_number c61 0 9; let u154 := k_number (am_put u144.2 (89 + (D 3 3).toNat) 4 u144.1) 0 9; am_put u154.2 (89 + (D 3 3).toNat) 5 u154.1) := rfl
  dsimp only at eM
  rw [show (mBlk D (89 + (D 3 3).toNat)).1 3 3 = D 3 3 from congrFun (LA.1 3 (by decide) (by omega)) 3] at eM
  unfold k_clause_220 c_readLot
  dsimp only
  rw [eM, rrm4 (show s 0 7 < 6 by omega)]
  have hBs := c_readBlock_x h.2.2.2.2.2.1 t hS
  generalize c_readBlock e s P = B at *
  generalize (mBlk D (89 + (D 3 3).toNat)).1 = X at *
  generalize (mBlk D (89 + (D 3 3).toNat)).2 = here at *
  -- whether the block is owned, on both sides
  have key : ∃ W, am_fold (g_k_lotHere_61 (D 3 3) here) 0 (D 3 3).toNat X = W ∧ RR e (if c_fine B = 0 then B else if c_blockIsOwned s B = 0 then B else c_wrong B 2 (B 0 3)) W ∧ LX (89 + (D 3 3).toNat) D W ∧ W (89 + (D 3 3).toNat) = X (89 + (D 3 3).toNat) ∧ (W 0 5 = 0 → X 0 5 = 0 ∧ W = X ∧ (if c_fine B = 0 then B else if c_blockIsOwned s B = 0 then B else c_wrong B 2 (B 0 3)) = B ∧ ∀ x y : Int, B 0 7 ≤ x → x ≤ B 0 9 → B 0 8 ≤ y → y ≤ B 0 10 → f_lotOn s (x + 10 * y) = -1) := by
    refine ⟨_, rfl, ?_⟩
    by_cases g0 : X 0 5 = 0
    · obtain ⟨c1, ⟨e7, e8, e9, e10⟩, ⟨⟨x1, x2, x3⟩, x4, x5, x6⟩, c4⟩ := cA g0
      have hfi := rr_fine A g0
      rw [if_neg (by rw [hfi]; decide)]
      have hrow : ∀ i : Int, 0 ≤ i → i < D 3 3 → X (89 + i.toNat) = D (89 + i.toNat) := fun i a1 a2 => LA.1 _ (by omega) (by omega)
      rcases rr_lotFold (k := D 3 3) (here := here) g0 (D 3 3).toNat with ⟨f1, f2⟩ | ⟨f1, i, f2, f3⟩
      · rw [f1]
        have hno : c_blockIsOwned s B = 0 ∧ ∀ x y : Int, B 0 7 ≤ x → x ≤ B 0 9 → B 0 8 ≤ y → y ≤ B 0 10 → f_lotOn s (x + 10 * y) = -1 := by
          rcases rr_owned (s := s) (p := B) with g | ⟨g, x, y, y1, y2, y3⟩
          · exact g
          · exfalso
            rcases hlot x y (by omega) (by omega) (by omega) (by omega) with z | ⟨z1, z2, z3⟩
            · exact y3 z
            · refine f2 (f_lotOn s (x + 10 * y)) z1.1 (by omega) ?_
              unfold ovl
              rw [hrow _ z1.1 z1.2]
              exact ⟨⟨by omega, by omega⟩, by omega, by omega⟩
        rw [if_pos hno.1]
        exact ⟨A, LA, rfl, fun _ => ⟨g0, rfl, rfl, hno.2⟩⟩
      · rw [f1]
        have hyes : c_blockIsOwned s B ≠ 0 := by
          rcases rr_owned (s := s) (p := B) with ⟨g1, g2⟩ | ⟨g, -⟩
          · exfalso
            unfold ovl at f3
            rw [hrow i f2.1 (by omega)] at f3
            obtain ⟨⟨o1, o2⟩, o3, o4⟩ := f3
            obtain ⟨⟨⟨r1, r2, r3⟩, ⟨r4, r5, r6⟩, -⟩, -⟩ := hrows i f2.1 (by omega)
            have hx : ∃ x : Int, (B 0 7 ≤ x ∧ x ≤ B 0 9) ∧ D (89 + i.toNat) 0 ≤ x ∧ x ≤ D (89 + i.toNat) 2 := by
              by_cases q : X (89 + (D 3 3).toNat) 0 ≤ D (89 + i.toNat) 0
              · exact ⟨D (89 + i.toNat) 0, by omega, by omega⟩
              · exact ⟨X (89 + (D 3 3).toNat) 0, by omega, by omega⟩
            have hy : ∃ y : Int, (B 0 8 ≤ y ∧ y ≤ B 0 10) ∧ D (89 + i.toNat) 1 ≤ y ∧ y ≤ D (89 + i.toNat) 3 := by
              by_cases q : X (89 + (D 3 3).toNat) 1 ≤ D (89 + i.toNat) 1
              · exact ⟨D (89 + i.toNat) 1, by omega, by omega⟩
              · exact ⟨X (89 + (D 3 3).toNat) 1, by omega, by omega⟩
            obtain ⟨x, hx1, hx2⟩ := hx
            obtain ⟨y, hy1, hy2⟩ := hy
            have := g2 x y hx1.1 hx1.2 hy1.1 hy1.2
            have := hown i x y f2.1 (by omega) ⟨hx2, hy2⟩
            omega
          · rw [g]; decide
        rw [if_neg hyes]
        have hw := (k_wrong_x (x := 2) (y := here) A.2.2.2.2.2.2).2
        exact ⟨rr_wrong A (by decide) (fun _ => c4), LX_t LA (LX_x hw), hw.1 _ (by omega), fun g => absurd g (k_wrong_5 (by decide))⟩
    · have e1 : am_fold (g_k_lotHere_61 (D 3 3) here) 0 (D 3 3).toNat X = X := ti_inv0 (P := fun (x : am_F) => x = X) _ 0 X rfl (fun j x a1 a2 hx => by
        rw [hx]
        unfold g_k_lotHere_61
        rw [if_neg g0])
      have hfi : c_fine B = 0 := c_fine_0 (by rw [A.1]; exact g0)
      rw [e1, if_pos hfi]
      exact ⟨A, LA, rfl, fun g => absurd g g0⟩
  obtain ⟨W, eW, A', LW, rW, cW⟩ := key
  rw [eW]
  generalize (if c_fine B = 0 then B else if c_blockIsOwned s B = 0 then B else c_wrong B 2 (B 0 3)) = B' at *
  obtain ⟨a0, b0, c0, e0, f0, g0, i0⟩ := rr_np (lo := 0) (hi := 9) (r := 89 + (D 3 3).toNat) (i := 4) A' t (by omega)
  have l0 := LX_t LW b0
  have k0 : ∀ j : Nat, j ≤ 1 ∨ 6 ≤ j → (c_number e B' 0 9).2 0 j = B' 0 j := fun j hj => rr_keep A'.2.2.2.2.2.1 t hj
  generalize c_number e B' 0 9 = u0 at *
  generalize k_number W 0 9 = v0 at *
  generalize hE0 : am_put v0.2 (89 + (D 3 3).toNat) 4 v0.1 = D1 at *
  obtain ⟨a1, b1, c1, e1, f1, g1, i1⟩ := rr_np (lo := 0) (hi := 9) (r := 89 + (D 3 3).toNat) (i := 5) a0 t (by omega)
  have l1 := LX_t l0 b1
  have k1 : ∀ j : Nat, j ≤ 1 ∨ 6 ≤ j → (c_number e u0.2 0 9).2 0 j = u0.2 0 j := fun j hj => rr_keep a0.2.2.2.2.2.1 t hj
  generalize c_number e u0.2 0 9 = u1 at *
  generalize k_number D1 0 9 = v1 at *
  generalize hE1 : am_put v1.2 (89 + (D 3 3).toNat) 5 v1.1 = D2 at *
  rw [show D2 3 (3 : Int).toNat = D 3 3 from congrFun (l1.1 3 (by decide) (by omega)) 3]
  refine ⟨_, rfl, rr_row a1 (by decide), fun h5 => ?_, KD_p (KD_X (by unfold rdw; omega) l1) (by unfold rdw; decide)⟩
  have q9 : D2 0 5 = 0 := (am_put_k (by decide)).symm.trans h5
  have q1 := c1 q9
  have q0 := c0 q1.1
  obtain ⟨w1, w2, w3, w4⟩ := cW q0.1
  obtain ⟨c1', ⟨e7, e8, e9, e10⟩, hb2, -⟩ := cA w1
  rw [if_neg (by rw [rr_fine a1 q9]; decide), if_pos q9]
  have hB' : ∀ j : Nat, 6 ≤ j → u1.2 0 j = B 0 j := fun j hj => by
    rw [k1 j (Or.inr hj), k0 j (Or.inr hj), w3]
  subst w2
  rw [hB' 7 (by decide), hB' 8 (by decide), hB' 9 (by decide), hB' 10 (by decide)]
  have eO : c_ownBlock s u1.2 = c_ownBlock s B := by
    have h1 : ∀ y, g_c_ownBlock_5 u1.2 y = g_c_ownBlock_5 B y := fun y => by
      funext x
      unfold g_c_ownBlock_5
      rw [hB' 7 (by decide), hB' 9 (by decide)]
    have h2 : g_c_ownBlock_5 u1.2 = g_c_ownBlock_5 B := funext h1
    unfold c_ownBlock
    rw [h2, hB' 8 (by decide), hB' 10 (by decide)]
  rw [eO]
  obtain ⟨y1, y2⟩ := rr_own (s := s) (p := B) (by omega) (by omega)
  have y7 : c_ownBlock s B 0 7 = s 0 7 := congrFun (y2 0 (by decide)) 7
  generalize c_ownBlock s B = s1 at *
  rw [addS4 (show s1 0 7 < 6 by omega)]
  obtain ⟨w1', ⟨w2', w3', w4'⟩, w5, w6, w7⟩ := rr_addR (ss := s1) (r := 5) (fi := 7) (n := s1 0 7) (na := u0.1) (nb := u1.1) (nc := (B 0 9 - B 0 7 + 1) * (B 0 10 - B 0 8 + 1)) (nd := 0) (v := s1 0 7 + 1) (by decide) (by omega) rfl
  generalize am_put (am_put (am_put (am_put (am_put s1 5 (s1 0 7 * 4).toNat u0.1) 5 (s1 0 7 * 4 + 1).toNat u1.1) 5 (s1 0 7 * 4 + 2).toNat ((B 0 9 - B 0 7 + 1) * (B 0 10 - B 0 8 + 1))) 5 (s1 0 7 * 4 + 3).toNat 0) 0 7 (s1 0 7 + 1) = Y at *
  rw [y7, y2 5 (by decide)] at w1'
  rw [y7] at w2' w3' w4' w5
  have hrow : ∀ i : Int, 0 ≤ i → i < D 3 3 → am_put D2 3 (3 : Int).toNat (D 3 3 + 1) (89 + i.toNat) = D (89 + i.toNat) := fun i a1 a2 => (am_put_kr (by omega)).trans (l1.1 _ (by omega) (by omega))
  have r5 : am_put D2 3 (3 : Int).toNat (D 3 3 + 1) (89 + (D 3 3).toNat) 5 = v1.1 := (am_put_k (by omega)).trans e1
  have r4 : am_put D2 3 (3 : Int).toNat (D 3 3 + 1) (89 + (D 3 3).toNat) 4 = v0.1 := (am_put_k (by omega)).trans ((f1 4 (by decide)).trans e0)
  have rj : ∀ j : Nat, j < 4 → am_put D2 3 (3 : Int).toNat (D 3 3 + 1) (89 + (D 3 3).toNat) j = W (89 + (D 3 3).toNat) j := fun j hj => (am_put_k (by omega)).trans ((f1 j (by omega)).trans (f0 j (by omega)))
  have h3 : ∀ j : Nat, j ≠ 3 → am_put D2 3 (3 : Int).toNat (D 3 3 + 1) 3 j = D 3 j := fun j hj => (am_put_i hj).trans (congrFun (l1.1 3 (by decide) (by omega)) j)
  have hcj : am_put D2 3 (3 : Int).toNat (D 3 3 + 1) 3 3 = D 3 3 + 1 := am_put_s
  have hk : ∀ k : Nat, k ≠ 0 → k ≠ 3 → ¬ (89 ≤ k ∧ k ≤ 94) → am_put D2 3 (3 : Int).toNat (D 3 3 + 1) k = D k := fun k k0 k3 kb => (am_put_kr k3).trans (l1.1 k k0 (by omega))
  have h00 : ∀ j : Nat, j = 56 ∨ j = 57 → am_put D2 3 (3 : Int).toNat (D 3 3 + 1) 0 j = D 0 j := fun j hj => (am_put_k (by decide)).trans (l1.2 j (by omega) (by omega) (by omega))
  generalize am_put D2 3 (3 : Int).toNat (D 3 3 + 1) = Z at *
  have eL : ∀ z, f_lotOn Y z = f_lotOn s1 z := fun z => by
    unfold f_lotOn
    rw [w6 10 (by decide) (by decide)]
  refine HR_PO hR (fun r r0 r5 r10 => (w6 r r0 r5).trans (y2 r r10)) (fun j _ hj => (w7 j hj).trans (congrFun (y2 0 (by decide)) j)) hk (fun j _ hj => h3 j hj) h00 ⟨by omega, fun i a1 a2 => ?_, fun i x y a1 a2 a3 => ?_, fun x y a1 a2 a3 a4 => ?_⟩
  · rw [hcj] at a2
    rw [w5, h3 0 (by decide), h3 1 (by decide)]
    by_cases g : i = D 3 3
    · subst g
      have hz : s 0 7 = D 3 3 := hn.1
      rw [hz] at w2' w3' w4' ⊢
      rw [w2', w3', w4', r4, r5, rj 0 (by decide), rj 1 (by decide), rj 2 (by decide), rj 3 (by decide), q0.2.1, q1.2.1, e7, e8, e9, e10]
      have := q0.2.2; have := q1.2.2
      exact ⟨⟨hb2.1, hb2.2, by omega, by omega⟩, rfl, rfl, rfl⟩
    · rw [w1' i 0 a1 (by omega) (by decide) (by decide), w1' i 1 a1 (by omega) (by decide) (by decide), w1' i 2 a1 (by omega) (by decide) (by decide), hrow i a1 (by omega)]
      exact hrows i a1 (by omega)
  · rw [hcj] at a2
    rw [eL]
    by_cases g : i = D 3 3
    · subst g
      unfold inB at a3
      rw [rj 0 (by decide), rj 1 (by decide), rj 2 (by decide), rj 3 (by decide)] at a3
      rw [y1 x y (by omega) (by omega) (by omega) (by omega), if_pos (by omega)]
      exact hn.1
    · unfold inB at a3
      rw [hrow i a1 (by omega)] at a3
      have hr := (hrows i a1 (by omega)).1
      have ho := hown i x y a1 (by omega) a3
      rw [y1 x y (by omega) (by omega) (by omega) (by omega)]
      by_cases g2 : (B 0 7 ≤ x ∧ x ≤ B 0 9) ∧ B 0 8 ≤ y ∧ y ≤ B 0 10
      · have := w4 x y g2.1.1 g2.1.2 g2.2.1 g2.2.2
        omega
      · rw [if_neg g2]; exact ho
  · rw [h3 0 (by decide)] at a2
    rw [h3 1 (by decide)] at a4
    rw [eL, hcj, y1 x y a1 (by omega) a3 (by omega)]
    by_cases g2 : (B 0 7 ≤ x ∧ x ≤ B 0 9) ∧ B 0 8 ≤ y ∧ y ≤ B 0 10
    · rw [if_pos g2]
      refine Or.inr ⟨by omega, ?_⟩
      rw [hn.1]
      unfold inB
      rw [rj 0 (by decide), rj 1 (by decide), rj 2 (by decide), rj 3 (by decide)]
      omega
    · rw [if_neg g2]
      rcases hlot x y a1 a2 a3 a4 with z | ⟨z1, z2⟩
      · exact Or.inl z
      · refine Or.inr ⟨⟨z1.1, by omega⟩, ?_⟩
        unfold inB
        rw [hrow _ z1.1 z1.2]
        exact z2
