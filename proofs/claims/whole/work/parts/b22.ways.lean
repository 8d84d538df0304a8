/-! THE TIE: the cheapest ways -/
def WE (B a b : Int) : Prop := (a = 1000000 ∧ b = -1) ∨ (a = b ∧ 0 ≤ a ∧ a ≤ B)
def ti_mi (bs v : Int) : Int := if v = -1 then bs else if bs = -1 then v else if bs ≤ v then bs else v
theorem WE_min {B a b a' b' : Int} (hB : B < 1000000) (h : WE B a b) (h' : WE B a' b') : WE B (am_mn a a') (ti_mi b b') := by
  unfold am_mn ti_mi
  rcases h with ⟨h1, h2⟩ | ⟨h1, h2, h3⟩ <;> rcases h' with ⟨g1, g2⟩ | ⟨g1, g2, g3⟩
  · rw [if_pos g2, if_neg (show ¬ a' < a by omega)]; exact Or.inl ⟨h1, h2⟩
  · rw [if_neg (show ¬ b' = -1 by omega), if_pos h2, if_pos (show a' < a by omega)]; exact Or.inr ⟨g1, g2, g3⟩
  · rw [if_pos g2, if_neg (show ¬ a' < a by omega)]; exact Or.inr ⟨h1, h2, h3⟩
  · rw [if_neg (show ¬ b' = -1 by omega), if_neg (show ¬ b = -1 by omega)]
    by_cases g : b ≤ b'
    · rw [if_pos g, if_neg (show ¬ a' < a by omega)]; exact Or.inr ⟨h1, h2, h3⟩
    · rw [if_neg g, if_pos (show a' < a by omega)]; exact Or.inr ⟨g1, g2, g3⟩
theorem am_mn_perm (s w e n so : Int) : am_mn (am_mn (am_mn (am_mn s w) e) n) so = am_mn (am_mn (am_mn (am_mn s e) w) so) n := by
  have h : ∀ a b : Int, am_mn a b = min a b := fun a b => by unfold am_mn; split <;> omega
  simp only [h]
  omega
/-- the yards of all cells, the class's row k beside the model's row j -/
def WR (c : am_F) (B : Int) (k j : Nat) (g q : am_F) : Prop := ∀ x y : Int, 0 ≤ x → x < c 4 0 → 0 ≤ y → y < c 4 1 → WE B (g k (x + 10 * y).toNat) (q j (x + 9 * y).toNat)
theorem ti_before {h c g q : am_F} {B : Int} (hH : h 0 0 = c 4 0 ∧ h 0 1 = c 4 1) (hV : MdV c) (hR : WR c B 1 729 g q) (x y : Int) : WE B (f_before h g x y) (if k_isIn c x y = 0 then -1 else q 729 (x + 9 * y).toNat) := by
  have v1 := hV.1
  have v2 := hV.2.1
  rw [ti_isIn hH]
  unfold f_before
  rcases f_has_x h x y with g1 | g1
  · rw [if_neg (fun g2 => g2.1 g1), if_pos g1]
    exact Or.inl ⟨rfl, rfl⟩
  · rw [hH.1, hH.2] at g1
    rw [if_pos (by omega), if_neg (by omega)]
    exact hR x y g1.2.1 g1.2.2.1 g1.2.2.2.1 g1.2.2.2.2
theorem ti_best {h c g q : am_F} {B : Int} (hB : B < 1000000) (hH : h 0 0 = c 4 0 ∧ h 0 1 = c 4 1) (hV : MdV c) (hR : WR c B 1 729 g q) {x y : Int} (hx : 0 ≤ x ∧ x < c 4 0) (hy : 0 ≤ y ∧ y < c 4 1) : WE B (f_least5 h g x y) (am_fold (g_k_steps_60 c q x y) 0 4 (q 729 (x + 9 * y).toNat)) := by
  have hs := ti_before hH hV hR x y
  have he := ti_before hH hV hR (x + 1) y
  have hw := ti_before hH hV hR (x - 1) y
  have hso := ti_before hH hV hR x (y + 1)
  have hn := ti_before hH hV hR x (y - 1)
  have hin : ¬ k_isIn c x y = 0 := by
    rw [ti_isIn hH]
    unfold f_has
    rw [hH.1, hH.2, if_pos (by omega)]
    decide
  rw [if_neg hin] at hs
  have eg : ∀ (k i j bs : Int), (if k = 0 then 1 else if k = 1 then (-1) else 0) = i → (if k = 2 then 1 else if k = 3 then (-1) else 0) = j → g_k_steps_60 c q x y k bs = ti_mi bs (if k_isIn c (x + i) (y + j) = 0 then -1 else q 729 ((x + i) + 9 * (y + j)).toNat) := fun k i j bs h1 h2 => by
    subst h1; subst h2
    unfold g_k_steps_60 ti_mi
    simp only []
    generalize (if k = 0 then (1 : Int) else if k = 1 then -1 else 0) = i
    generalize (if k = 2 then (1 : Int) else if k = 3 then -1 else 0) = j
    by_cases g1 : k_isIn c (x + i) (y + j) = 0
    · rw [if_pos g1, if_pos g1, if_pos rfl]
    · rw [if_neg g1, if_neg g1]
  have e4 : am_fold (g_k_steps_60 c q x y) 0 4 (q 729 (x + 9 * y).toNat) = g_k_steps_60 c q x y 3 (g_k_steps_60 c q x y 2 (g_k_steps_60 c q x y 1 (g_k_steps_60 c q x y 0 (q 729 (x + 9 * y).toNat)))) := rfl
  rw [e4, eg 0 1 0 _ rfl rfl, eg 1 (-1) 0 _ rfl rfl, eg 2 0 1 _ rfl rfl, eg 3 0 (-1) _ rfl rfl]
  have z1 : y + 0 = y := by omega
  have z2 : x + 0 = x := by omega
  have z3 : x + -1 = x - 1 := by omega
  have z4 : y + -1 = y - 1 := by omega
  rw [z1, z2, z3, z4]
  unfold f_least5
  rw [am_mn_perm]
  exact WE_min hB (WE_min hB (WE_min hB (WE_min hB hs he) hw) hso) hn
/-- one move of all -/
theorem ti_steps {h c r g q : am_F} {B s : Int} (hC : HC h c) (hF : RnF r) (hQ : FQ s r q) (hB : 0 ≤ B ∧ B < 900000) (hs : -1 ≤ s ∧ s < 40) (hR : WR c B 0 729 g q) : WR c (B + 99) 0 729 (f_move r h s g) (k_steps c q s) ∧ ∀ k, k ≠ 729 → k ≠ 730 → k_steps c q s k = q k := by
  obtain ⟨hHI, hV, hT, hN, hW, hWt, hSh, hL⟩ := id hC
  have v1 := hV.1
  have v2 := hV.2.1
  have hH := hT.1
  -- the class: row 1 is row 0 as it was
  have e1 : ∀ j : Nat, j < 90 → am_row g 1 (am_cpy (g 0) (g 1) (0 : Int).toNat (0 : Int).toNat (90 : Int).toNat) 1 j = g 0 j := fun j hj => by
    rw [ti_row_s]
    unfold am_cpy
    rw [if_pos (by omega)]
    congr 1
    omega
  -- the model: row 730 empty
  have k2 := ti_inv0 (P := fun x => ∀ k, k ≠ 730 → x k = q k) (f := g_k_steps_2) 81 0 q (fun _ _ => rfl) (fun j x _ _ hx k hk => (am_put_kr (c := x) hk).trans (hx k hk))
  generalize hq2 : am_fold g_k_steps_2 0 81 q = q2 at k2
  have hQ2 : FQ s r q2 := FQ_row hQ (k2 _ (by omega))
  have hR1 : WR c B 1 729 (am_row g 1 (am_cpy (g 0) (g 1) (0 : Int).toNat (0 : Int).toNat (90 : Int).toNat)) q2 := fun x y a1 a2 a3 a4 => by
    rw [e1 _ (by omega), k2 729 (by decide)]
    exact hR x y a1 a2 a3 a4
  unfold f_move k_steps
  simp only []
  rw [hq2, hH.2]
  generalize hg1 : am_row g 1 (am_cpy (g 0) (g 1) (0 : Int).toNat (0 : Int).toNat (90 : Int).toNat) = g1 at hR1
  have h9 := ti_rel (R := fun y (a b : am_F) => a 1 = g1 1 ∧ (∀ k, k ≠ 730 → b k = q2 k) ∧ ∀ x' y' : Int, 0 ≤ x' → x' < c 4 0 → 0 ≤ y' → y' < y → y' < c 4 1 → WE (B + 99) (a 0 (x' + 10 * y').toNat) (b 730 (x' + 9 * y').toNat)) (f := g_move r h s) (g := g_k_steps_23 c s) (c 4 1).toNat 0 g1 q2 ⟨rfl, fun _ _ => rfl, fun x' y' a1 a2 a3 a4 => by omega⟩ (fun y a b a1 a2 hR => by
    unfold g_move g_k_steps_23
    rw [hH.1]
    have h8 := ti_rel (R := fun x (a b : am_F) => a 1 = g1 1 ∧ (∀ k, k ≠ 730 → b k = q2 k) ∧ (∀ x' y' : Int, 0 ≤ x' → x' < c 4 0 → 0 ≤ y' → (y' < y ∨ (y' = y ∧ x' < x)) → y' < c 4 1 → WE (B + 99) (a 0 (x' + 10 * y').toNat) (b 730 (x' + 9 * y').toNat))) (f := g_movex r h s y) (g := g_k_steps_35 c s y) (c 4 0).toNat 0 a b ⟨hR.1, hR.2.1, fun x' y' b1 b2 b3 b4 b5 => hR.2.2 x' y' b1 b2 b3 (by omega) b5⟩ (fun x a b b1 b2 hR => by
      obtain ⟨r1, r2, r3⟩ := hR
      have hRx : WR c B 1 729 a b := fun x' y' c1 c2 c3 c4 => by
        rw [r1, r2 729 (by decide)]
        exact hR1 x' y' c1 c2 c3 c4
      have hb := ti_best (h := h) (by omega) hH hV hRx (x := x) (y := y) (by omega) (by omega)
      have hQx : FQ s r b := FQ_row hQ2 (r2 _ (by omega))
      have hnd := ti_need (n := x + 10 * y) (m := x + 9 * y) hC hF hQx (Or.inr ⟨x, y, ⟨b1, by omega⟩, ⟨a1, by omega⟩, rfl, rfl⟩) (by omega)
      unfold g_movex g_k_steps_35
      generalize f_least5 h a x y = L at *
      generalize am_fold (g_k_steps_60 c b x y) 0 4 (b 729 (x + 9 * y).toNat) = M at *
      rw [← hnd.1]
      have hv : WE (B + 99) (if L < 1000000 then L + f_need r h (x + 10 * y) s else 1000000) (if M = -1 then -1 else am_w32 (M + f_need r h (x + 10 * y) s)) := by
        rcases hb with ⟨g1, g2⟩ | ⟨g1, g2, g3⟩
        · rw [if_neg (by omega), if_pos g2]; exact Or.inl ⟨rfl, rfl⟩
        · rw [if_pos (by omega), if_neg (by omega), ti_w ⟨by omega, by omega⟩]
          exact Or.inr ⟨by omega, by omega, by omega⟩
      refine ⟨(am_put_kr (by decide)).trans r1, fun k hk => (am_put_kr hk).trans (r2 k hk), fun x' y' c1 c2 c3 c4 c5 => ?_⟩
      by_cases e : x' = x ∧ y' = y
      · rw [e.1, e.2, am_put_s, am_put_s]
        exact hv
      · rw [am_put_i (by omega), am_put_i (by omega)]
        exact r3 x' y' c1 c2 c3 (by omega) c5)
    obtain ⟨r1, r2, r3⟩ := h8
    exact ⟨r1, r2, fun x' y' c1 c2 c3 c4 c5 => r3 x' y' c1 c2 c3 (by omega) c5⟩)
  obtain ⟨r1, r2, r3⟩ := h9
  generalize am_fold (g_k_steps_23 c s) 0 (c 4 1).toNat q2 = q3 at *
  have hcp := ti_copy (g := g_k_steps_240) (k := 730) (k' := 729) (by decide) (fun _ _ => rfl) q3 81
  refine ⟨fun x y a1 a2 a3 a4 => ?_, fun k k1 k3 => ?_⟩
  · rw [hcp.2 _, if_pos (by omega)]
    exact r3 x y a1 a2 a3 (by omega) a4
  · rw [hcp.1 k k1, r2 k k3, k2 k k3]
theorem ti_code {h c : am_F} (hH : h 0 0 = c 4 0 ∧ h 0 1 = c 4 1) (x : Int) : (n_code h x = 0 ∧ k_isCode c x = 1 ∧ ∃ a b : Int, (0 ≤ a ∧ a < c 4 0) ∧ (0 ≤ b ∧ b < c 4 1) ∧ x % 10 = a ∧ x / 10 = b ∧ x = a + 10 * b) ∨ (n_code h x = 1 ∧ k_isCode c x = 0) := by
  unfold n_code k_isCode
  by_cases g : x < 0
  · rw [if_neg (by omega), if_neg (by omega), if_pos g]
    refine Or.inr ⟨?_, rfl⟩
    have e : f_has h (-1) (-1) = 0 := by unfold f_has; rw [if_neg (by omega)]
    unfold n_cell
    rw [e, if_pos rfl]
  · rw [if_pos (by omega), if_pos (by omega), if_neg g]
    simp only []
    rcases ti_cel hH (x % 10) (x / 10) with ⟨a1, a2, a3, a4⟩ | ⟨a1, a2⟩
    · rw [a1, a2, if_neg (by decide)]
      exact Or.inl ⟨rfl, rfl, x % 10, x / 10, a3, a4, rfl, rfl, by omega⟩
    · rw [a1, a2, if_pos rfl]
      exact Or.inr ⟨rfl, rfl⟩
theorem ti_way {h c r gg q : am_F} {fx fy s lt : Int} (hC : HC h c) (hF : RnF r) (hQ : ∀ t : Int, s ≤ t → t ≤ s + lt → FQ t r q) (hf : (0 ≤ fx ∧ fx < c 4 0) ∧ 0 ≤ fy ∧ fy < c 4 1) (hs : 0 ≤ s ∧ s + lt < 40) (hl : 0 ≤ lt ∧ lt ≤ 12) : WR c 1287 0 729 (f_ways r h gg (fx + 10 * fy) s lt) (am_fold (g_k_way_129 c s) 1 (lt + 1 - 1).toNat (am_put (am_fold g_k_way_85 0 81 q) 729 (fx + 9 * fy).toNat (k_needs c (am_fold g_k_way_85 0 81 q) (fx + 9 * fy) s))) ∧ ∀ k, k ≠ 729 → k ≠ 730 → am_fold (g_k_way_129 c s) 1 (lt + 1 - 1).toNat (am_put (am_fold g_k_way_85 0 81 q) 729 (fx + 9 * fy).toNat (k_needs c (am_fold g_k_way_85 0 81 q) (fx + 9 * fy) s)) k = q k := by
  obtain ⟨hHI, hV, hT, hN, hW, hWt, hSh, hL⟩ := id hC
  have v1 := hV.1
  have v2 := hV.2.1
  have k1 := am_fold_inv (P := fun i x => (∀ k, k ≠ 729 → x k = q k) ∧ ∀ j : Nat, (j : Int) < i → x 729 j = -1) (g := g_k_way_85) 81 0 q ⟨fun _ _ => rfl, fun j hj => by omega⟩ (fun i x a1 a2 hP => ⟨fun k hk => (am_put_kr (c := x) hk).trans (hP.1 k hk), fun j hj => by
    unfold g_k_way_85
    by_cases e : j = i.toNat
    · rw [e, am_put_s]
    · rw [am_put_i e]; exact hP.2 j (by omega)⟩)
  generalize am_fold g_k_way_85 0 81 q = q1 at *
  have hQ1 : FQ s r q1 := FQ_row (hQ s (by omega) (by omega)) (k1.1 _ (by omega))
  have hnd := ti_need (n := fx + 10 * fy) (m := fx + 9 * fy) hC hF hQ1 (Or.inr ⟨fx, fy, hf.1, hf.2, rfl, rfl⟩) (by omega)
  have h0 : WR c 99 0 729 (f_cheap0 r h gg (fx + 10 * fy) s) (am_put q1 729 (fx + 9 * fy).toNat (k_needs c q1 (fx + 9 * fy) s)) := fun x y a1 a2 a3 a4 => by
    unfold f_cheap0
    by_cases e : x = fx ∧ y = fy
    · rw [e.1, e.2, am_put_s, am_put_s]
      exact Or.inr ⟨hnd.1, hnd.2⟩
    · rw [am_put_i (by omega), am_put_i (by omega), k1.2 _ (by omega), ti_row_s, am_fill_at 90 _ _ _ (by omega)]
      exact Or.inl ⟨rfl, rfl⟩
  unfold f_ways
  have eu : (f_upto lt).toNat = (lt + 1 - 1).toNat := by unfold f_upto; split <;> omega
  rw [eu]
  have h9 := ti_rel (R := fun i (a b : am_F) => WR c (99 * i) 0 729 a b ∧ ∀ k, k ≠ 729 → k ≠ 730 → b k = q k) (f := g_ways r h s) (g := g_k_way_129 c s) (lt + 1 - 1).toNat 1 (f_cheap0 r h gg (fx + 10 * fy) s) (am_put q1 729 (fx + 9 * fy).toNat (k_needs c q1 (fx + 9 * fy) s)) ⟨by rw [Int.mul_one]; exact h0, fun k m1 m2 => (am_put_kr m1).trans (k1.1 k m1)⟩ (fun i a b a1 a2 hR => by
    have hQi : FQ (s + i) r b := FQ_row (hQ (s + i) (by omega) (by omega)) (hR.2 _ (by omega) (by omega))
    have h8 := ti_steps (s := s + i) hC hF hQi (B := 99 * i) (by omega) (by omega) hR.1
    unfold g_ways g_k_way_129
    refine ⟨?_, fun k m1 m2 => (h8.2 k m1 m2).trans (hR.2 k m1 m2)⟩
    rw [show 99 * (i + 1) = 99 * i + 99 by omega]
    exact h8.1)
  refine ⟨fun x y a1 a2 a3 a4 => ?_, h9.2⟩
  rcases h9.1 x y a1 a2 a3 a4 with g | ⟨g1, g2, g3⟩
  · exact Or.inl g
  · exact Or.inr ⟨g1, g2, by omega⟩
theorem to_way {e h c r gg q : am_F} {fr tt s lt : Int} (hC : HC h c) (hB : BaseI h c r) (hR : RE e q) : TO 1 (c_way e h r gg fr tt s lt).1 (c_way e h r gg fr tt s lt).2.1 e (c_way e h r gg fr tt s lt).2.2.1 (k_way c q fr tt s lt).1 (k_way c q fr tt s lt).2 ∧ BaseI h c (c_way e h r gg fr tt s lt).2.2.2.1 := by
  obtain ⟨hHI, hV, hT, hN, hW, hWt, hSh, hL⟩ := id hC
  have v1 := hV.1
  have v2 := hV.2.1
  unfold c_way k_way
  rcases ti_code hT.1 fr with ⟨a0, b0, fx, fy, c1, c2, c3, c4, c5⟩ | ⟨a0, b0⟩
  · rcases ti_code hT.1 tt with ⟨a1, b1, tx, ty, d1, d2, d3, d4, d5⟩ | ⟨a1, b1⟩
    · rcases ti_stp s with ⟨a2, b2, f2⟩ | ⟨a2, b2, f2⟩
      · rcases ti_rng lt 0 (if 39 - s < 12 then 39 - s else 12) with ⟨a3, -, f3⟩ | ⟨a3, -, f3⟩
        · have b3 : k_in lt 0 12 = 1 := by
            rcases ti_rng lt 0 12 with ⟨-, g, -⟩ | ⟨-, -, g⟩
            · exact g
            · split at f3 <;> omega
          have b4 : s + lt < 40 := by split at f3 <;> omega
          have b5 : 0 ≤ lt ∧ lt ≤ 12 := by split at f3 <;> omega
          simp only [a0, b0, a1, b1, a2, b2, a3, b3, b4, reduceIte, Int.reduceEq, k_refuse0]
          have h9 := ti_way (gg := gg) hC (Base_F hHI.1 hT hB (st := s + lt) (by omega)) (q := k_goes c (am_put q 0 0 0)) (fun t g1 g2 => Base_fog hHI.1 hT hB (st := s + lt) (s := t) (by omega) (by omega) (am_put q 0 0 0)) ⟨c1, c2⟩ ⟨f2.1, b4⟩ b5
          have ef : k_fromTold fr = fx + 9 * fy := by unfold k_fromTold; rw [c3, c4]
          have et : k_fromTold tt = tx + 9 * ty := by unfold k_fromTold; rw [d3, d4]
          rw [ef, et, c5, d5]
          refine ⟨TO_ok (by rw [h9.2 0 (by decide) (by decide), ti_go_0 hV, am_put_s]) ?_ (fun j hj => by rw [h9.2 2 (by decide) (by decide)]; exact RE_go hV (RE_put hR) j hj), (Base_upTo hHI.1 hT hB (st := s + lt) (by omega)).1⟩
          unfold f_cheapest
          rw [if_pos (by omega)]
          rcases h9.1 tx ty d1.1 d1.2 d2.1 d2.2 with ⟨g1, g2⟩ | ⟨g1, g2, g3⟩
          · rw [if_pos (by omega), g2]
          · rw [if_neg (by omega), g1]
        · by_cases g1 : 0 ≤ lt ∧ lt ≤ 12
          · have b3 : k_in lt 0 12 = 1 := by
              rcases ti_rng lt 0 12 with ⟨-, g, -⟩ | ⟨-, -, g⟩
              · exact g
              · omega
            have b4 : ¬ s + lt < 40 := by split at f3 <;> omega
            simp only [a0, b0, a1, b1, a2, b2, a3, b3, b4, reduceIte, Int.reduceEq, k_refuse0]
            exact ⟨TO_ref (by decide) (by decide) (by decide) hR, hB⟩
          · have b3 : k_in lt 0 12 = 0 := by
              rcases ti_rng lt 0 12 with ⟨-, -, g⟩ | ⟨-, g, -⟩
              · omega
              · exact g
            simp only [a0, b0, a1, b1, a2, b2, a3, b3, reduceIte, Int.reduceEq, k_refuse0]
            exact ⟨TO_ref (by decide) (by decide) (by decide) hR, hB⟩
      · simp only [a0, b0, a1, b1, a2, b2, reduceIte, Int.reduceEq, k_refuse0]
        exact ⟨TO_ref (by decide) (by decide) (by decide) hR, hB⟩
    · simp only [a0, b0, a1, b1, reduceIte, Int.reduceEq, k_refuse0]
      exact ⟨TO_ref (by decide) (by decide) (by decide) hR, hB⟩
  · simp only [a0, b0, reduceIte, Int.reduceEq, k_refuse0]
    exact ⟨TO_ref (by decide) (by decide) (by decide) hR, hB⟩
