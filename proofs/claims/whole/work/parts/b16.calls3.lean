/-! THE TIE: calls, the loops -/
theorem Base_F {h c r : am_F} {st : Int} (hA : HbAll h) (hT : TH h c) (hB : BaseI h c r) (hst : -1 ≤ st ∧ st < 40) : RnF (f_upTo h r st) := by
  obtain ⟨-, k, hk, hR⟩ := Base_upTo hA hT hB hst
  exact hR.2.2.1
theorem TO_elim {a v0 : Int} {e q1 : am_F} (o o2 : Option Int) (h : o = o2) (h0 : q1 0 0 = 0) (hR : RE e q1) : TO a (o.elim ((0 : Int), v0, e) (fun r9 => (0, r9, e))).1 (o.elim ((0 : Int), v0, e) (fun r9 => (0, r9, e))).2.1 e (o.elim ((0 : Int), v0, e) (fun r9 => (0, r9, e))).2.2 (o2.elim (v0, q1) (fun r9 => (r9, q1))).1 (o2.elim (v0, q1) (fun r9 => (r9, q1))).2 := by
  subst h
  cases o with
  | none => exact TO_ok h0 rfl hR
  | some x => exact TO_ok h0 rfl hR
theorem ti_elim2 (o : Option Int) (v0 : Int) (q1 : am_F) : (o.elim (v0, q1) (fun r9 => (r9, q1))) = (o.elim v0 (fun r9 => r9), q1) := by cases o <;> rfl
theorem to_whose {x y : Int} {e h c r q : am_F} (hC : HC h c) (hB : BaseI h c r) (hR : RE e q) : TO 1 (c_whose e h r x y).1 (c_whose e h r x y).2.1 e (c_whose e h r x y).2.2.1 (k_whose c q x y).1 (k_whose c q x y).2 ∧ BaseI h c (c_whose e h r x y).2.2.2 := by
  obtain ⟨hHI, hV, hT, hN, hW, hWt, hSh, hL⟩ := id hC
  have hv1 := hV.1
  have hv2 := hV.2.1
  unfold c_whose k_whose
  rcases ti_cel hT.1 x y with ⟨a0, b0, c0⟩ | ⟨a0, b0⟩
  · skip
    simp only [a0, b0, reduceIte, Int.reduceEq, k_refuse0]
    refine ⟨TO_ok (by rw [ti_go_0 hV, am_put_s]) ?_ (RE_go hV (RE_put hR)), (Base_upTo hHI.1 hT hB (st := 39) (by omega)).1⟩
    exact ti_whose hN.2.1 fun l a1 a2 => Base_burnt hHI.1 hT hB (by have := hN.2.2; omega) (by have := hV.2.2.1; have := hN.2.2; omega) (by omega) (by omega) _
  · simp only [a0, b0, reduceIte, Int.reduceEq, k_refuse0]
    exact ⟨TO_ref (by decide) (by decide) (by decide) hR, hB⟩
theorem to_thick {t : Int} {e h c r q : am_F} (hC : HC h c) (hB : BaseI h c r) (hR : RE e q) : TO 3 (c_thick e h r t).1 (c_thick e h r t).2.1 e (c_thick e h r t).2.2.1 (k_thick c q t).1 (k_thick c q t).2 ∧ BaseI h c (c_thick e h r t).2.2.2 := by
  obtain ⟨hHI, hV, hT, hN, hW, hWt, hSh, hL⟩ := id hC
  have hv1 := hV.1
  have hv2 := hV.2.1
  unfold c_thick k_thick
  rcases ti_fst t with ⟨a0, b0, c0⟩ | ⟨a0, b0, d0⟩
  · skip
    simp only [a0, b0, reduceIte, Int.reduceEq, k_refuse0]
    refine ⟨TO_ok (by rw [ti_go_0 hV, am_put_s]) ?_ (RE_go hV (RE_put hR)), (Base_upTo hHI.1 hT hB (st := t) (by omega)).1⟩
    exact ti_thick hV hT.1 (Base_fog hHI.1 hT hB (by omega) (by omega) _)
  · simp only [a0, b0, reduceIte, Int.reduceEq, k_refuse0]
    exact ⟨TO_ref (by decide) (by decide) (by decide) hR, hB⟩
theorem to_meet {k l : Int} {e h c r q : am_F} (hC : HC h c) (hB : BaseI h c r) (hR : RE e q) : TO 2 (c_meet e h k l).1 (c_meet e h k l).2.1 e (c_meet e h k l).2.2 (k_meet c q k l).1 (k_meet c q k l).2 := by
  obtain ⟨hHI, hV, hT, hN, hW, hWt, hSh, hL⟩ := id hC
  have hv1 := hV.1
  have hv2 := hV.2.1
  unfold c_meet k_meet
  rcases ti_rw hW.1 k with ⟨a0, b0, c0⟩ | ⟨a0, b0⟩
  · skip
    rcases ti_rw hW.1 l with ⟨a1, b1, c1⟩ | ⟨a1, b1⟩
    · skip
      by_cases g2 : k = l
      rotate_left
      · skip
        simp only [a0, b0, a1, b1, g2, reduceIte, Int.reduceEq, k_refuse0, k_isWalker, n_two, k_badTwo]
        exact TO_elim _ _ (ti_meet hC c0 c1) am_put_s (RE_put hR)
      · simp only [a0, b0, a1, b1, g2, reduceIte, Int.reduceEq, k_refuse0, k_isWalker, n_two, k_badTwo]
        exact TO_ref (by decide) (by decide) (by decide) hR
    · simp only [a0, b0, a1, b1, reduceIte, Int.reduceEq, k_refuse0, k_isWalker, n_two, k_badTwo]
      exact TO_ref (by decide) (by decide) (by decide) hR
  · simp only [a0, b0, reduceIte, Int.reduceEq, k_refuse0, k_isWalker, n_two, k_badTwo]
    exact TO_ref (by decide) (by decide) (by decide) hR
theorem to_hid {k : Int} {e h c r q : am_F} (hC : HC h c) (hB : BaseI h c r) (hR : RE e q) : TO 2 (c_hid e h r k).1 (c_hid e h r k).2.1 e (c_hid e h r k).2.2.1 (k_hid c q k).1 (k_hid c q k).2 ∧ BaseI h c (c_hid e h r k).2.2.2 := by
  obtain ⟨hHI, hV, hT, hN, hW, hWt, hSh, hL⟩ := id hC
  have hv1 := hV.1
  have hv2 := hV.2.1
  unfold c_hid k_hid
  rcases ti_rw hW.1 k with ⟨a0, b0, c0⟩ | ⟨a0, b0⟩
  · skip
    simp only [a0, b0, reduceIte, Int.reduceEq, k_refuse0, k_isWalker]
    refine ⟨TO_ok (by rw [ti_go_0 hV, am_put_s]) ?_ (RE_go hV (RE_put hR)), (Base_upTo hHI.1 hT hB (st := 39) (by omega)).1⟩
    refine am_fold_eq 40 0 0 fun j y a1 a2 => ?_
    exact ti_hid hC (Base_fog hHI.1 hT hB (st := 39) (s := j) (by omega) (by omega) (am_put q 0 0 0)) (by omega) c0 y
  · simp only [a0, b0, reduceIte, Int.reduceEq, k_refuse0, k_isWalker]
    exact ⟨TO_ref (by decide) (by decide) (by decide) hR, hB⟩
theorem to_net {k : Int} {e h c r q : am_F} (hC : HC h c) (hB : BaseI h c r) (hR : RE e q) : TO 2 (c_net e h r k).1 (c_net e h r k).2.1 e (c_net e h r k).2.2.1 (k_net c q k).1 (k_net c q k).2 ∧ BaseI h c (c_net e h r k).2.2.2 := by
  obtain ⟨hHI, hV, hT, hN, hW, hWt, hSh, hL⟩ := id hC
  have hv1 := hV.1
  have hv2 := hV.2.1
  unfold c_net k_net
  rcases ti_rw hT.2.2.2.2.2 k with ⟨a0, b0, c0⟩ | ⟨a0, b0⟩
  · skip
    simp only [a0, b0, reduceIte, Int.reduceEq, k_refuse0, k_isLot]
    refine ⟨TO_ok (by rw [ti_go_0 hV, am_put_s]) ?_ (RE_go hV (RE_put hR)), (Base_upTo hHI.1 hT hB (st := 39) (by omega)).1⟩
    exact ti_net hC c0 fun a x a1 a2 a3 a4 => (Base_leak hHI.1 hT hB ⟨a1, a2⟩ ⟨a3, a4⟩ _).1
  · simp only [a0, b0, reduceIte, Int.reduceEq, k_refuse0, k_isLot]
    exact ⟨TO_ref (by decide) (by decide) (by decide) hR, hB⟩
theorem to_worthless {k m : Int} {e h c r q : am_F} (hC : HC h c) (hB : BaseI h c r) (hR : RE e q) : TO 2 (c_worthless e h r k m).1 (c_worthless e h r k m).2.1 e (c_worthless e h r k m).2.2.1 (k_worthless c q k m).1 (k_worthless c q k m).2 ∧ BaseI h c (c_worthless e h r k m).2.2.2 := by
  obtain ⟨hHI, hV, hT, hN, hW, hWt, hSh, hL⟩ := id hC
  have hv1 := hV.1
  have hv2 := hV.2.1
  unfold c_worthless k_worthless
  rcases ti_rw hT.2.2.2.2.2 k with ⟨a0, b0, c0⟩ | ⟨a0, b0⟩
  · skip
    rcases ti_rng m 1 999 with ⟨a1, b1, c1⟩ | ⟨a1, b1, d1⟩
    · skip
      simp only [a0, b0, a1, b1, reduceIte, Int.reduceEq, k_refuse0, k_isLot]
      refine ⟨TO_ok (by rw [ti_go_0 hV, am_put_s]) ?_ (RE_go hV (RE_put hR)), (Base_upTo hHI.1 hT hB (st := 39) (by omega)).1⟩
      exact ti_worthless hC c0 (fun s a1 a2 => (Base_fog hHI.1 hT hB (st := 39) (s := s) (by omega) (by omega) (am_put q 0 0 0))) 40 41 41 (by decide) (by decide) (by decide)
    · simp only [a0, b0, a1, b1, reduceIte, Int.reduceEq, k_refuse0, k_isLot]
      exact ⟨TO_ref (by decide) (by decide) (by decide) hR, hB⟩
  · simp only [a0, b0, reduceIte, Int.reduceEq, k_refuse0, k_isLot]
    exact ⟨TO_ref (by decide) (by decide) (by decide) hR, hB⟩
theorem to_ship {k : Int} {e h c r q : am_F} (hC : HC h c) (hB : BaseI h c r) (hR : RE e q) : TO 2 (c_ship e h r k).1 (c_ship e h r k).2.1 e (c_ship e h r k).2.2.1 (k_ship c q k).1 (k_ship c q k).2 ∧ BaseI h c (c_ship e h r k).2.2.2 := by
  obtain ⟨hHI, hV, hT, hN, hW, hWt, hSh, hL⟩ := id hC
  have hv1 := hV.1
  have hv2 := hV.2.1
  unfold c_ship k_ship
  rcases ti_rw hSh.1 k with ⟨a0, b0, c0⟩ | ⟨a0, b0⟩
  · skip
    simp only [a0, b0, reduceIte, Int.reduceEq, k_refuse0, k_isShip, c_firstClear54]
    have h9 := ti_firstClear (I := BaseI h c) (q := k_goes c (am_put q 0 0 0)) hC c0 (ah := 40) (by decide) (fun r s i1 i2 i3 => ⟨(Base_upTo hHI.1 hT i1 (by omega)).1, Base_fog hHI.1 hT i1 (by omega) (by omega) _⟩) 40 0 r 41 (by decide) (by decide) hB (by decide)
    exact ⟨TO_ok (by rw [ti_go_0 hV, am_put_s]) h9.2 (RE_go hV (RE_put hR)), h9.1⟩
  · simp only [a0, b0, reduceIte, Int.reduceEq, k_refuse0, k_isShip, c_firstClear54]
    exact ⟨TO_ref (by decide) (by decide) (by decide) hR, hB⟩
theorem to_calm {t : Int} {e h c r q : am_F} (hC : HC h c) (hB : BaseI h c r) (hR : RE e q) : TO 3 (c_calm e h r t).1 (c_calm e h r t).2.1 e (c_calm e h r t).2.2.1 (k_calm c q t).1 (k_calm c q t).2 ∧ BaseI h c (c_calm e h r t).2.2.2 := by
  obtain ⟨hHI, hV, hT, hN, hW, hWt, hSh, hL⟩ := id hC
  have hv1 := hV.1
  have hv2 := hV.2.1
  unfold c_calm k_calm
  rcases ti_stp t with ⟨a0, b0, c0⟩ | ⟨a0, b0, d0⟩
  · skip
    simp only [a0, b0, reduceIte, Int.reduceEq, k_refuse0]
    have h9 := ti_calm (q := am_put q 0 0 0) hHI.1 hT (40 - t).toNat t r 41 (by omega) (by omega) hB (by omega)
    rw [ti_elim2]
    dsimp only
    exact ⟨TO_ok (by rw [ti_go_0 hV, am_put_s]) h9.2 (RE_go hV (RE_put hR)), h9.1⟩
  · simp only [a0, b0, reduceIte, Int.reduceEq, k_refuse0]
    exact ⟨TO_ref (by decide) (by decide) (by decide) hR, hB⟩
theorem to_start {k w : Int} {e h c r q : am_F} (hC : HC h c) (hB : BaseI h c r) (hR : RE e q) : TO 2 (c_start e h r k w).1 (c_start e h r k w).2.1 e (c_start e h r k w).2.2.1 (k_start c q k w).1 (k_start c q k w).2 ∧ BaseI h c (c_start e h r k w).2.2.2 := by
  obtain ⟨hHI, hV, hT, hN, hW, hWt, hSh, hL⟩ := id hC
  have hv1 := hV.1
  have hv2 := hV.2.1
  unfold c_start k_start
  rcases ti_rw hW.1 k with ⟨a0, b0, c0⟩ | ⟨a0, b0⟩
  · skip
    rcases ti_rng w 0 1 with ⟨a1, b1, c1⟩ | ⟨a1, b1, d1⟩
    · skip
      simp only [a0, b0, a1, b1, reduceIte, Int.reduceEq, k_refuse0, k_isWalker]
      refine ⟨TO_ok (by rw [ti_go_0 hV, am_put_s]) ?_ (RE_go hV (RE_put hR)), (Base_upTo hHI.1 hT hB (st := 39) (by omega)).1⟩
      have h9 := ti_start (q := k_goes c (am_put q 0 0 0)) hC (Base_F hHI.1 hT hB (st := 39) (by omega)) c0 (fun s a1 a2 => (Base_fog hHI.1 hT hB (st := 39) (s := s) (by omega) (by omega) (am_put q 0 0 0)))
      rw [h9.1, h9.2]
    · simp only [a0, b0, a1, b1, reduceIte, Int.reduceEq, k_refuse0, k_isWalker]
      exact ⟨TO_ref (by decide) (by decide) (by decide) hR, hB⟩
  · simp only [a0, b0, reduceIte, Int.reduceEq, k_refuse0, k_isWalker]
    exact ⟨TO_ref (by decide) (by decide) (by decide) hR, hB⟩
theorem to_buy {k w : Int} {e h c r q : am_F} (hC : HC h c) (hB : BaseI h c r) (hR : RE e q) : TO 2 (c_buy e h r k w).1 (c_buy e h r k w).2.1 e (c_buy e h r k w).2.2.1 (k_buy c q k w).1 (k_buy c q k w).2 ∧ BaseI h c (c_buy e h r k w).2.2.2 := by
  obtain ⟨hHI, hV, hT, hN, hW, hWt, hSh, hL⟩ := id hC
  have hv1 := hV.1
  have hv2 := hV.2.1
  unfold c_buy k_buy
  rcases ti_rw hW.1 k with ⟨a0, b0, c0⟩ | ⟨a0, b0⟩
  · skip
    rcases ti_rng w 0 1 with ⟨a1, b1, c1⟩ | ⟨a1, b1, d1⟩
    · skip
      simp only [a0, b0, a1, b1, reduceIte, Int.reduceEq, k_refuse0, k_isWalker]
      refine ⟨TO_ok (by rw [ti_go_0 hV, am_put_s]) ?_ (RE_go hV (RE_put hR)), (Base_upTo hHI.1 hT hB (st := 39) (by omega)).1⟩
      have h9 := ti_needsAll (q := k_goes c (am_put q 0 0 0)) hC (Base_F hHI.1 hT hB (st := 39) (by omega)) c0 (fun s a1 a2 a3 => (Base_fog hHI.1 hT hB (st := 39) (s := s) (by omega) (by have := (hHI.2.1 k).1; omega) (am_put q 0 0 0)))
      rw [ti_cost hC c0 h9.2, h9.1]
    · simp only [a0, b0, a1, b1, reduceIte, Int.reduceEq, k_refuse0, k_isWalker]
      exact ⟨TO_ref (by decide) (by decide) (by decide) hR, hB⟩
  · simp only [a0, b0, reduceIte, Int.reduceEq, k_refuse0, k_isWalker]
    exact ⟨TO_ref (by decide) (by decide) (by decide) hR, hB⟩
theorem to_guards {e h c r q : am_F} (hC : HC h c) (hB : BaseI h c r) (hR : RE e q) : TO 1 0 (c_guards h r).1 e e (k_guards c q).1 (k_guards c q).2 ∧ BaseI h c (c_guards h r).2 := by
  obtain ⟨hHI, hV, hT, hN, hW, hWt, hSh, hL⟩ := id hC
  have hE := ti_ever (q := k_goes c (am_put q 0 0 0)) hC (fun s a1 a2 => (Base_fog hHI.1 hT hB (st := 39) (s := s) (by omega) (by omega) (am_put q 0 0 0)))
  unfold c_guards k_guards
  simp only []
  refine ⟨TO_ok (by rw [hE.2 0 (by decide), ti_go_0 hV, am_put_s]) (ti_guards hC hE.1) (fun j hj => ?_), (Base_upTo hHI.1 hT hB (st := 39) (by omega)).1⟩
  rw [hE.2 2 (by decide)]
  exact RE_go hV (RE_put hR) j hj
theorem ti_wit {h c r q : am_F} {x y fr to : Int} (hC : HC h c) (hx : 0 ≤ x ∧ x < c 4 0) (hy : 0 ≤ y ∧ y < c 4 1) (hft : 0 ≤ fr ∧ fr ≤ to ∧ to ≤ 39) (hQ : ∀ s : Int, 0 ≤ s → s ≤ to → FQ s r q) : am_fold (g_c_witnesses_38 h r x y) fr (to + 1 - fr).toNat (0, -1) = am_fold (g_k_witnesses_87 c q x y) fr (to + 1 - fr).toNat (0, am_ishl 1 (c 4 4) - 1) := by
  obtain ⟨hHI, hV, hT, hN, hW, hWt, hSh, hL⟩ := id hC
  have v4 := hV.2.2.2.2.1
  have h8 := hW.1
  have h9 := ti_rel (R := fun i (a b : Int × Int) => (i = fr → a = (0, -1) ∧ b = (0, am_ishl 1 (c 4 4) - 1)) ∧ (fr < i → a = b)) (f := g_c_witnesses_38 h r x y) (g := g_k_witnesses_87 c q x y) (to + 1 - fr).toNat fr (0, -1) (0, am_ishl 1 (c 4 4) - 1) ⟨fun _ => ⟨rfl, rfl⟩, fun h => by omega⟩ (fun j a b a1 a2 hR => by
    have e := ti_could hC (hQ j (by omega) (by omega)) (by omega) hx hy
    have e2 := ti_walkI (r := r) (h := h) (x + 10 * y) j (by omega)
    rw [e, h8] at e2
    refine ⟨fun g => by omega, fun _ => ?_⟩
    show (am_ior a.1 (f_walkersOn r h (x + 10 * y) j), am_iand a.2 (f_walkersOn r h (x + 10 * y) j)) = (am_ior b.1 (k_couldSee c q x y j), am_iand b.2 (k_couldSee c q x y j))
    rw [e]
    by_cases g : j = fr
    · obtain ⟨r1, r2⟩ := hR.1 g
      rw [r1, r2]
      show (am_ior 0 (k_couldSee c q x y j), am_iand (-1) (k_couldSee c q x y j)) = (am_ior 0 (k_couldSee c q x y j), am_iand (am_ishl 1 (c 4 4) - 1) (k_couldSee c q x y j))
      rw [e2.1, e2.2]
    · rw [hR.2 (by omega)])
  exact h9.2 (by omega)
theorem to_witnesses {x y fr to al : Int} {e h c r q : am_F} (hC : HC h c) (hB : BaseI h c r) (hR : RE e q) : TO 1 (c_witnesses e h r x y fr to al).1 (c_witnesses e h r x y fr to al).2.1 e (c_witnesses e h r x y fr to al).2.2.1 (k_witnesses c q x y fr to al).1 (k_witnesses c q x y fr to al).2 ∧ BaseI h c (c_witnesses e h r x y fr to al).2.2.2 := by
  obtain ⟨hHI, hV, hT, hN, hW, hWt, hSh, hL⟩ := id hC
  have hv1 := hV.1
  have hv2 := hV.2.1
  unfold c_witnesses k_witnesses
  rcases ti_cel hT.1 x y with ⟨a0, b0, c0⟩ | ⟨a0, b0⟩
  · rcases ti_stp fr with ⟨a1, b1, c1⟩ | ⟨a1, b1, d1⟩
    · rcases ti_rng to fr 39 with ⟨a2, -, c2⟩ | ⟨a2, -, d2⟩
      · have b2 : k_isStep to = 1 := by rcases ti_stp to with ⟨-, g, -⟩ | ⟨-, g, g2⟩
                                        · exact g
                                        · omega
        have b3 : fr ≤ to := c2.1
        simp only [a0, b0, a1, b1, a2, b2, b3, reduceIte, Int.reduceEq, k_refuse0]
        refine ⟨TO_ok (by rw [ti_go_0 hV, am_put_s]) ?_ (RE_go hV (RE_put hR)), (Base_upTo hHI.1 hT hB (st := to) (by omega)).1⟩
        rw [ti_wit hC c0.1 c0.2 (by omega) fun s a1 a2 => Base_fog hHI.1 hT hB (st := to) (s := s) (by omega) (by omega) (am_put q 0 0 0)]
      · rcases ti_stp to with ⟨-, b2, c2⟩ | ⟨-, b2, c2⟩
        · have b3 : ¬ fr ≤ to := by omega
          simp only [a0, b0, a1, b1, a2, b2, b3, reduceIte, Int.reduceEq, k_refuse0]
          exact ⟨TO_ref (by decide) (by decide) (by decide) hR, hB⟩
        · simp only [a0, b0, a1, b1, a2, b2, reduceIte, Int.reduceEq, k_refuse0]
          exact ⟨TO_ref (by decide) (by decide) (by decide) hR, hB⟩
    · simp only [a0, b0, a1, b1, reduceIte, Int.reduceEq, k_refuse0]
      exact ⟨TO_ref (by decide) (by decide) (by decide) hR, hB⟩
  · simp only [a0, b0, reduceIte, Int.reduceEq, k_refuse0]
    exact ⟨TO_ref (by decide) (by decide) (by decide) hR, hB⟩
