/-! THE TIE: the calls that ask of the fog, of walkers and lots -/
theorem to_sums {t w : Int} {e h c r q : am_F} (hC : HC h c) (hB : BaseI h c r) (hR : RE e q) : TO 3 (c_sums e h r t w).1 (c_sums e h r t w).2.1 e (c_sums e h r t w).2.2.1 (k_sums c q t w).1 (k_sums c q t w).2 ∧ BaseI h c (c_sums e h r t w).2.2.2 := by
  obtain ⟨hHI, hV, hT, hN, hW, hWt, hSh, hL⟩ := id hC
  have hv1 := hV.1
  have hv2 := hV.2.1
  unfold c_sums k_sums
  rcases ti_fst t with ⟨a0, b0, c0⟩ | ⟨a0, b0, d0⟩
  · skip
    rcases ti_rng w 0 3 with ⟨a1, b1, c1⟩ | ⟨a1, b1, d1⟩
    · skip
      simp only [a0, b0, a1, b1, reduceIte, Int.reduceEq, k_refuse0]
      refine ⟨TO_ok (by rw [ti_go_0 hV, am_put_s]) ?_ (RE_go hV (RE_put hR)), (Base_upTo hHI.1 hT hB (st := t) (by omega)).1⟩
      exact Base_sum hHI.1 hT hB (by omega) (by omega) c1 _
    · simp only [a0, b0, a1, b1, reduceIte, Int.reduceEq, k_refuse0]
      exact ⟨TO_ref (by decide) (by decide) (by decide) hR, hB⟩
  · simp only [a0, b0, reduceIte, Int.reduceEq, k_refuse0]
    exact ⟨TO_ref (by decide) (by decide) (by decide) hR, hB⟩
theorem to_led {k t : Int} {e h c r q : am_F} (hC : HC h c) (hB : BaseI h c r) (hR : RE e q) : TO 2 (c_led e h r k t).1 (c_led e h r k t).2.1 e (c_led e h r k t).2.2.1 (k_led c q k t).1 (k_led c q k t).2 ∧ BaseI h c (c_led e h r k t).2.2.2 := by
  obtain ⟨hHI, hV, hT, hN, hW, hWt, hSh, hL⟩ := id hC
  have hv1 := hV.1
  have hv2 := hV.2.1
  unfold c_led k_led
  rcases ti_rw hN.2.1 k with ⟨a0, b0, c0⟩ | ⟨a0, b0⟩
  · skip
    rcases ti_stp t with ⟨a1, b1, c1⟩ | ⟨a1, b1, d1⟩
    · skip
      simp only [a0, b0, a1, b1, reduceIte, Int.reduceEq, k_refuse0]
      refine ⟨TO_ok (by rw [ti_go_0 hV, am_put_s]) ?_ (RE_go hV (RE_put hR)), (Base_upTo hHI.1 hT hB (st := t) (by omega)).1⟩
      exact Base_led hHI.1 hT hB (by omega) (by omega) (by have := hN.2.2; omega) (by have := hV.2.2.1; have := hN.2.2; omega) _
    · simp only [a0, b0, a1, b1, reduceIte, Int.reduceEq, k_refuse0]
      exact ⟨TO_ref (by decide) (by decide) (by decide) hR, hB⟩
  · simp only [a0, b0, reduceIte, Int.reduceEq, k_refuse0]
    exact ⟨TO_ref (by decide) (by decide) (by decide) hR, hB⟩
theorem to_line {x y xa ya t : Int} {e h c r q : am_F} (hC : HC h c) (hB : BaseI h c r) (hR : RE e q) : TO 1 (c_line e h r x y xa ya t).1 (c_line e h r x y xa ya t).2.1 e (c_line e h r x y xa ya t).2.2.1 (k_line c q x y xa ya t).1 (k_line c q x y xa ya t).2 ∧ BaseI h c (c_line e h r x y xa ya t).2.2.2 := by
  obtain ⟨hHI, hV, hT, hN, hW, hWt, hSh, hL⟩ := id hC
  have hv1 := hV.1
  have hv2 := hV.2.1
  unfold c_line k_line
  rcases ti_cel hT.1 x y with ⟨a0, b0, c0⟩ | ⟨a0, b0⟩
  · skip
    rcases ti_cel hT.1 xa ya with ⟨a1, b1, c1⟩ | ⟨a1, b1⟩
    · skip
      rcases ti_stp t with ⟨a2, b2, c2⟩ | ⟨a2, b2, d2⟩
      · skip
        simp only [a0, b0, a1, b1, a2, b2, reduceIte, Int.reduceEq, k_refuse0]
        refine ⟨TO_ok (by rw [ti_go_0 hV, am_put_s]) ?_ (RE_go hV (RE_put hR)), (Base_upTo hHI.1 hT hB (st := t) (by omega)).1⟩
        exact ti_line (Base_fog hHI.1 hT hB (by omega) (by omega) _) (by omega) (by omega) (by omega) (by omega)
      · simp only [a0, b0, a1, b1, a2, b2, reduceIte, Int.reduceEq, k_refuse0]
        exact ⟨TO_ref (by decide) (by decide) (by decide) hR, hB⟩
    · simp only [a0, b0, a1, b1, reduceIte, Int.reduceEq, k_refuse0]
      exact ⟨TO_ref (by decide) (by decide) (by decide) hR, hB⟩
  · simp only [a0, b0, reduceIte, Int.reduceEq, k_refuse0]
    exact ⟨TO_ref (by decide) (by decide) (by decide) hR, hB⟩
theorem to_where {k t : Int} {e h c r q : am_F} (hC : HC h c) (hB : BaseI h c r) (hR : RE e q) : TO 2 (c_where e h k t).1 (c_where e h k t).2.1 e (c_where e h k t).2.2 (k_where c q k t).1 (k_where c q k t).2 := by
  obtain ⟨hHI, hV, hT, hN, hW, hWt, hSh, hL⟩ := id hC
  have hv1 := hV.1
  have hv2 := hV.2.1
  unfold c_where k_where
  rcases ti_rw hW.1 k with ⟨a0, b0, c0⟩ | ⟨a0, b0⟩
  · skip
    rcases ti_stp t with ⟨a1, b1, c1⟩ | ⟨a1, b1, d1⟩
    · skip
      simp only [a0, b0, a1, b1, reduceIte, Int.reduceEq, k_refuse0, k_isWalker]
      exact TO_ok am_put_s (PC_10 hV (ti_place hW c0 (by omega))) (RE_put hR)
    · simp only [a0, b0, a1, b1, reduceIte, Int.reduceEq, k_refuse0, k_isWalker]
      exact TO_ref (by decide) (by decide) (by decide) hR
  · simp only [a0, b0, reduceIte, Int.reduceEq, k_refuse0, k_isWalker]
    exact TO_ref (by decide) (by decide) (by decide) hR
theorem to_lot {k w : Int} {e h c r q : am_F} (hC : HC h c) (hB : BaseI h c r) (hR : RE e q) : TO 2 (c_lot e h k w).1 (c_lot e h k w).2.1 e (c_lot e h k w).2.2 (k_lot c q k w).1 (k_lot c q k w).2 := by
  obtain ⟨hHI, hV, hT, hN, hW, hWt, hSh, hL⟩ := id hC
  have hv1 := hV.1
  have hv2 := hV.2.1
  unfold c_lot k_lot
  rcases ti_rw hT.2.2.2.2.2 k with ⟨a0, b0, c0⟩ | ⟨a0, b0⟩
  · skip
    rcases ti_rng w 0 2 with ⟨a1, b1, c1⟩ | ⟨a1, b1, d1⟩
    · skip
      simp only [a0, b0, a1, b1, reduceIte, Int.reduceEq, k_refuse0, k_isLot]
      refine TO_ok am_put_s ?_ (RE_put hR)
      obtain ⟨l1, l2, l3⟩ := hL.2.1 k c0.1 c0.2
      have h3 : w = 0 ∨ w = 1 ∨ w = 2 := by omega
      rcases h3 with rfl | rfl | rfl
      · rw [l1, if_neg (by decide)]; rfl
      · rw [l2, if_neg (by decide)]; rfl
      · rw [l3, if_pos (by decide)]
    · simp only [a0, b0, a1, b1, reduceIte, Int.reduceEq, k_refuse0, k_isLot]
      exact TO_ref (by decide) (by decide) (by decide) hR
  · simp only [a0, b0, reduceIte, Int.reduceEq, k_refuse0, k_isLot]
    exact TO_ref (by decide) (by decide) (by decide) hR
theorem to_yards {k t : Int} {e h c r q : am_F} (hC : HC h c) (hB : BaseI h c r) (hR : RE e q) : TO 2 (c_yards e h r k t).1 (c_yards e h r k t).2.1 e (c_yards e h r k t).2.2.1 (k_yards c q k t).1 (k_yards c q k t).2 ∧ BaseI h c (c_yards e h r k t).2.2.2 := by
  obtain ⟨hHI, hV, hT, hN, hW, hWt, hSh, hL⟩ := id hC
  have hv1 := hV.1
  have hv2 := hV.2.1
  unfold c_yards k_yards
  rcases ti_rw hT.2.2.2.2.2 k with ⟨a0, b0, c0⟩ | ⟨a0, b0⟩
  · skip
    rcases ti_fst t with ⟨a1, b1, c1⟩ | ⟨a1, b1, d1⟩
    · skip
      simp only [a0, b0, a1, b1, reduceIte, Int.reduceEq, k_refuse0, k_isLot]
      refine ⟨TO_ok (by rw [ti_go_0 hV, am_put_s]) ?_ (RE_go hV (RE_put hR)), (Base_upTo hHI.1 hT hB (st := t) (by omega)).1⟩
      exact (ti_inLot hC (Base_fog hHI.1 hT hB (by omega) (by omega) _) c0).1
    · simp only [a0, b0, a1, b1, reduceIte, Int.reduceEq, k_refuse0, k_isLot]
      exact ⟨TO_ref (by decide) (by decide) (by decide) hR, hB⟩
  · simp only [a0, b0, reduceIte, Int.reduceEq, k_refuse0, k_isLot]
    exact ⟨TO_ref (by decide) (by decide) (by decide) hR, hB⟩
theorem to_seen {k t : Int} {e h c r q : am_F} (hC : HC h c) (hB : BaseI h c r) (hR : RE e q) : TO 2 (c_seen e h r k t).1 (c_seen e h r k t).2.1 e (c_seen e h r k t).2.2.1 (k_seen c q k t).1 (k_seen c q k t).2 ∧ BaseI h c (c_seen e h r k t).2.2.2 := by
  obtain ⟨hHI, hV, hT, hN, hW, hWt, hSh, hL⟩ := id hC
  have hv1 := hV.1
  have hv2 := hV.2.1
  unfold c_seen k_seen
  rcases ti_rw hW.1 k with ⟨a0, b0, c0⟩ | ⟨a0, b0⟩
  · skip
    rcases ti_stp t with ⟨a1, b1, c1⟩ | ⟨a1, b1, d1⟩
    · skip
      simp only [a0, b0, a1, b1, reduceIte, Int.reduceEq, k_refuse0, k_isWalker]
      refine ⟨TO_ok (by rw [ti_go_0 hV, am_put_s]) ?_ (RE_go hV (RE_put hR)), (Base_upTo hHI.1 hT hB (st := t) (by omega)).1⟩
      exact ti_seenOn hC (Base_fog hHI.1 hT hB (by omega) (by omega) _) (ti_place hW c0 (by omega))
    · simp only [a0, b0, a1, b1, reduceIte, Int.reduceEq, k_refuse0, k_isWalker]
      exact ⟨TO_ref (by decide) (by decide) (by decide) hR, hB⟩
  · simp only [a0, b0, reduceIte, Int.reduceEq, k_refuse0, k_isWalker]
    exact ⟨TO_ref (by decide) (by decide) (by decide) hR, hB⟩
theorem to_could {x y t : Int} {e h c r q : am_F} (hC : HC h c) (hB : BaseI h c r) (hR : RE e q) : TO 1 (c_could e h r x y t).1 (c_could e h r x y t).2.1 e (c_could e h r x y t).2.2.1 (k_could c q x y t).1 (k_could c q x y t).2 ∧ BaseI h c (c_could e h r x y t).2.2.2 := by
  obtain ⟨hHI, hV, hT, hN, hW, hWt, hSh, hL⟩ := id hC
  have hv1 := hV.1
  have hv2 := hV.2.1
  unfold c_could k_could
  rcases ti_cel hT.1 x y with ⟨a0, b0, c0⟩ | ⟨a0, b0⟩
  · skip
    rcases ti_stp t with ⟨a1, b1, c1⟩ | ⟨a1, b1, d1⟩
    · skip
      simp only [a0, b0, a1, b1, reduceIte, Int.reduceEq, k_refuse0]
      refine ⟨TO_ok (by rw [ti_go_0 hV, am_put_s]) ?_ (RE_go hV (RE_put hR)), (Base_upTo hHI.1 hT hB (st := t) (by omega)).1⟩
      exact ti_could hC (Base_fog hHI.1 hT hB (by omega) (by omega) _) (by omega) (by omega) (by omega)
    · simp only [a0, b0, a1, b1, reduceIte, Int.reduceEq, k_refuse0]
      exact ⟨TO_ref (by decide) (by decide) (by decide) hR, hB⟩
  · simp only [a0, b0, reduceIte, Int.reduceEq, k_refuse0]
    exact ⟨TO_ref (by decide) (by decide) (by decide) hR, hB⟩
theorem to_sees {k l t : Int} {e h c r q : am_F} (hC : HC h c) (hB : BaseI h c r) (hR : RE e q) : TO 2 (c_sees e h r k l t).1 (c_sees e h r k l t).2.1 e (c_sees e h r k l t).2.2.1 (k_sees c q k l t).1 (k_sees c q k l t).2 ∧ BaseI h c (c_sees e h r k l t).2.2.2 := by
  obtain ⟨hHI, hV, hT, hN, hW, hWt, hSh, hL⟩ := id hC
  have hv1 := hV.1
  have hv2 := hV.2.1
  unfold c_sees k_sees
  rcases ti_rw hW.1 k with ⟨a0, b0, c0⟩ | ⟨a0, b0⟩
  · skip
    rcases ti_rw hW.1 l with ⟨a1, b1, c1⟩ | ⟨a1, b1⟩
    · skip
      by_cases g2 : k = l
      rotate_left
      · skip
        rcases ti_stp t with ⟨a3, b3, c3⟩ | ⟨a3, b3, d3⟩
        · skip
          simp only [a0, b0, a1, b1, g2, a3, b3, reduceIte, Int.reduceEq, k_refuse0, k_isWalker, n_two, k_badTwo]
          refine ⟨TO_ok (by rw [ti_go_0 hV, am_put_s]) ?_ (RE_go hV (RE_put hR)), (Base_upTo hHI.1 hT hB (st := t) (by omega)).1⟩
          exact ti_seeEach hC (Base_fog hHI.1 hT hB (by omega) (by omega) _) (by omega) c0 c1
        · simp only [a0, b0, a1, b1, g2, a3, b3, reduceIte, Int.reduceEq, k_refuse0, k_isWalker, n_two, k_badTwo]
          exact ⟨TO_ref (by decide) (by decide) (by decide) hR, hB⟩
      · simp only [a0, b0, a1, b1, g2, reduceIte, Int.reduceEq, k_refuse0, k_isWalker, n_two, k_badTwo]
        exact ⟨TO_ref (by decide) (by decide) (by decide) hR, hB⟩
    · simp only [a0, b0, a1, b1, reduceIte, Int.reduceEq, k_refuse0, k_isWalker, n_two, k_badTwo]
      exact ⟨TO_ref (by decide) (by decide) (by decide) hR, hB⟩
  · simp only [a0, b0, reduceIte, Int.reduceEq, k_refuse0, k_isWalker, n_two, k_badTwo]
    exact ⟨TO_ref (by decide) (by decide) (by decide) hR, hB⟩
theorem to_often {k l : Int} {e h c r q : am_F} (hC : HC h c) (hB : BaseI h c r) (hR : RE e q) : TO 2 (c_often e h r k l).1 (c_often e h r k l).2.1 e (c_often e h r k l).2.2.1 (k_often c q k l).1 (k_often c q k l).2 ∧ BaseI h c (c_often e h r k l).2.2.2 := by
  obtain ⟨hHI, hV, hT, hN, hW, hWt, hSh, hL⟩ := id hC
  have hv1 := hV.1
  have hv2 := hV.2.1
  unfold c_often k_often
  rcases ti_rw hW.1 k with ⟨a0, b0, c0⟩ | ⟨a0, b0⟩
  · skip
    rcases ti_rw hW.1 l with ⟨a1, b1, c1⟩ | ⟨a1, b1⟩
    · skip
      by_cases g2 : k = l
      rotate_left
      · skip
        simp only [a0, b0, a1, b1, g2, reduceIte, Int.reduceEq, k_refuse0, k_isWalker, n_two, k_badTwo]
        refine ⟨TO_ok (by rw [ti_go_0 hV, am_put_s]) ?_ (RE_go hV (RE_put hR)), (Base_upTo hHI.1 hT hB (st := 39) (by omega)).1⟩
        refine am_fold_eq 40 0 0 fun j y a1 a2 => ?_
        unfold g_c_often_27 g_k_often_44
        rw [ti_seeEach hC (Base_fog hHI.1 hT hB (s := j) (by omega) (by omega) (am_put q 0 0 0)) (by omega) c0 c1]
        simp only []
        split
        · omega
        · rfl
      · simp only [a0, b0, a1, b1, g2, reduceIte, Int.reduceEq, k_refuse0, k_isWalker, n_two, k_badTwo]
        exact ⟨TO_ref (by decide) (by decide) (by decide) hR, hB⟩
    · simp only [a0, b0, a1, b1, reduceIte, Int.reduceEq, k_refuse0, k_isWalker, n_two, k_badTwo]
      exact ⟨TO_ref (by decide) (by decide) (by decide) hR, hB⟩
  · simp only [a0, b0, reduceIte, Int.reduceEq, k_refuse0, k_isWalker, n_two, k_badTwo]
    exact ⟨TO_ref (by decide) (by decide) (by decide) hR, hB⟩
theorem to_leaks {k l w : Int} {e h c r q : am_F} (hC : HC h c) (hB : BaseI h c r) (hR : RE e q) : TO 2 (c_leaks e h r k l w).1 (c_leaks e h r k l w).2.1 e (c_leaks e h r k l w).2.2.1 (k_leaks c q k l w).1 (k_leaks c q k l w).2 ∧ BaseI h c (c_leaks e h r k l w).2.2.2 := by
  obtain ⟨hHI, hV, hT, hN, hW, hWt, hSh, hL⟩ := id hC
  have hv1 := hV.1
  have hv2 := hV.2.1
  unfold c_leaks k_leaks
  rcases ti_rw hT.2.2.2.2.2 k with ⟨a0, b0, c0⟩ | ⟨a0, b0⟩
  · skip
    rcases ti_rw hT.2.2.2.2.2 l with ⟨a1, b1, c1⟩ | ⟨a1, b1⟩
    · skip
      by_cases g2 : k = l
      rotate_left
      · skip
        rcases ti_rng w 0 1 with ⟨a3, b3, c3⟩ | ⟨a3, b3, d3⟩
        · skip
          simp only [a0, b0, a1, b1, g2, a3, b3, reduceIte, Int.reduceEq, k_refuse0, k_isLot, n_two]
          have hv4 := hV.2.2.2.1
          have hB9 := Base_leak (a := k) (e := l) hHI.1 hT hB (by omega) (by omega) (am_put q 0 0 0)
          refine ⟨TO_ok (by rw [ti_go_0 hV, am_put_s]) ?_ (RE_go hV (RE_put hR)), (Base_upTo hHI.1 hT hB (st := 39) (by omega)).1⟩
          unfold c_damages
          rw [hB9.1, (hL.2.1 l c1.1 c1.2).2.1]
        · simp only [a0, b0, a1, b1, g2, a3, b3, reduceIte, Int.reduceEq, k_refuse0, k_isLot, n_two]
          exact ⟨TO_ref (by decide) (by decide) (by decide) hR, hB⟩
      · simp only [a0, b0, a1, b1, g2, reduceIte, Int.reduceEq, k_refuse0, k_isLot, n_two]
        exact ⟨TO_ref (by decide) (by decide) (by decide) hR, hB⟩
    · simp only [a0, b0, a1, b1, reduceIte, Int.reduceEq, k_refuse0, k_isLot, n_two]
      exact ⟨TO_ref (by decide) (by decide) (by decide) hR, hB⟩
  · simp only [a0, b0, reduceIte, Int.reduceEq, k_refuse0, k_isLot, n_two]
    exact ⟨TO_ref (by decide) (by decide) (by decide) hR, hB⟩
