/-! THE TIE: what one needs; ways of a walker; guards; ships -/
theorem ti_need {h c r q : am_F} {s n m : Int} (hC : HC h c) (hF : RnF r) (hQ : FQ s r q) (hP : PC c n m) (hm : m ≠ -1) : f_need r h n s = k_needs c q m s ∧ 0 ≤ f_need r h n s ∧ f_need r h n s ≤ 99 := by
  obtain ⟨hHI, hV, hT, hN, hW, hWt, hSh, hL⟩ := hC
  have v1 := hV.1
  have v2 := hV.2.1
  have v7 := hV.2.2.2.2.2.2.2.1
  obtain ⟨p1, p2, p3, p4⟩ := PC_lt hV hP hm
  refine ⟨?_, f_need_B hHI.1.1 hF n s⟩
  obtain ⟨x, y, a1, a2, rfl, rfl⟩ : ∃ x y : Int, (0 ≤ x ∧ x < c 4 0) ∧ (0 ≤ y ∧ y < c 4 1) ∧ n = x + 10 * y ∧ m = x + 9 * y := by
    rcases hP with ⟨_, g⟩ | g
    · exact absurd g hm
    · exact g
  unfold f_need k_needs
  rw [hWt.1]
  refine am_fold_eq _ 0 0 fun j a b1 b2 => ?_
  obtain ⟨w1, w2, w3⟩ := hWt.2 j b1 (by omega)
  unfold g_need g_k_needs_5
  rw [w1, show (x + 9 * y) % 9 = x by omega, show (x + 9 * y) / 9 = y by omega, hN.1]
  have hb := f_line_b hF (fr := c (118 + j.toNat) 0 + 10 * c (118 + j.toNat) 1) (to := x + 10 * y) (by omega) (by omega) s
  rw [ti_line hQ (by omega) (by omega) (by omega) (by omega)] at hb ⊢
  simp only []
  by_cases g : k_lineOf q (c (118 + j.toNat) 0) (c (118 + j.toNat) 1) x y s = -1
  · rw [if_pos g, if_pos g]
  · rw [if_neg g, if_neg g, ti_w ⟨by omega, by omega⟩]
    by_cases g2 : a < c 4 7 - k_lineOf q (c (118 + j.toNat) 0) (c (118 + j.toNat) 1) x y s
    · rw [if_pos g2, if_neg (by omega)]
    · rw [if_neg g2, if_pos (by omega)]
theorem ti_windowP {α : Type} {P : α → Prop} {g : Int → α → α} {N lo hi : Int} (h0 : 0 ≤ lo) (h1 : lo ≤ hi + 1) (h2 : hi < N) (hb : ∀ j a, P a → 0 ≤ j → j < lo → g j a = a) (he : ∀ j a, P a → hi < j → j < N → g j a = a) (hw : ∀ j a, P a → lo ≤ j → j ≤ hi → P (g j a)) {a : α} (ha : P a) : am_fold g 0 N.toNat a = am_fold g lo (hi + 1 - lo).toNat a := by
  rw [show N.toNat = lo.toNat + ((hi + 1 - lo).toNat + (N - (hi + 1)).toNat) by omega, ti_add, ti_add, ti_foldid (f := g) lo.toNat 0 (fun j a1 a2 => hb j a ha a1 (by omega)), show (0 : Int) + (lo.toNat : Int) = lo by omega]
  have hP : P (am_fold g lo (hi + 1 - lo).toNat a) := ti_inv0 (P := P) _ lo a ha fun j x a1 a2 hx => hw j x hx a1 (by omega)
  exact ti_foldid _ _ fun j a1 a2 => he j _ hP (by omega) (by omega)
/-- a walker's place, his walk begun in another step -/
theorem ti_placeAt {h c : am_F} (hW : TWk h c) {w bg s : Int} (hw : 0 ≤ w ∧ w < c 4 4) : ((s < bg ∨ bg + f_moves h w < s) → k_placeOf (am_put c (108 + w.toNat) 2 bg) w s = -1) ∧ (bg ≤ s → s ≤ bg + f_moves h w → PC c (f_pathAt h w (s - bg)) (k_placeOf (am_put c (108 + w.toNat) 2 bg) w s) ∧ k_placeOf (am_put c (108 + w.toNat) 2 bg) w s ≠ -1) := by
  obtain ⟨⟨h1, h2⟩, h3⟩ := hW.2 w hw.1 hw.2
  have e3 : am_put c (108 + w.toNat) 2 bg (108 + w.toNat) 3 = c (108 + w.toNat) 3 := am_put_i (by decide)
  have e0 : am_put c (108 + w.toNat) 2 bg (108 + w.toNat) 0 = c (108 + w.toNat) 0 := am_put_i (by decide)
  have e1 : am_put c (108 + w.toNat) 2 bg (108 + w.toNat) 1 = c (108 + w.toNat) 1 := am_put_i (by decide)
  have e2 : am_put c (108 + w.toNat) 2 bg (108 + w.toNat) 2 = bg := am_put_s
  have eg : ∀ n x, am_fold (g_k_placeOf_52 (am_put c (108 + w.toNat) 2 bg) w) 0 n x = am_fold (g_k_placeOf_52 c w) 0 n x := fun n x => am_fold_eq n 0 x fun j y b1 b2 => by
    unfold g_k_placeOf_52
    rw [am_put_i (by omega)]
  unfold k_placeOf
  simp only []
  rw [e0, e1, e2, e3, eg, ← h2]
  refine ⟨fun g => ?_, fun g1 g2 => ?_⟩
  · rcases g with g | g
    · rw [if_pos (by omega)]
    · by_cases g2 : s - bg < 0
      · rw [if_pos g2]
      · rw [if_neg g2, if_neg (by omega)]
  · rw [if_neg (by omega), if_pos (by omega)]
    obtain ⟨b1, b2, b3⟩ := h3 (s - bg).toNat (by omega)
    rw [show (((s - bg).toNat : Nat) : Int) = s - bg by omega] at b1
    exact ⟨Or.inr ⟨_, _, b2, b3, b1, rfl⟩, by omega⟩
theorem ti_needs_c {c q : am_F} {w v : Int} (hV : MdV c) (hw : 0 ≤ w ∧ w < c 4 4) (m s : Int) : k_needs (am_put c (108 + w.toNat) 2 v) q m s = k_needs c q m s := by
  have v4 := hV.2.2.2.2.1
  have v5 := hV.2.2.2.2.2.1
  unfold k_needs
  rw [am_put_kr (by omega)]
  refine am_fold_eq _ 0 0 fun j a b1 b2 => ?_
  unfold g_k_needs_5
  rw [am_put_k (by omega), am_put_k (by omega), am_put_k (by omega)]
theorem ti_least {h c r q : am_F} {w bg : Int} (hC : HC h c) (hF : RnF r) (hw : 0 ≤ w ∧ w < c 4 4) (hbg : 0 ≤ bg ∧ bg < 40) (hQ : ∀ s : Int, bg ≤ s → s ≤ bg + f_moves h w → s < 40 → FQ s r q) : f_least r h w bg = k_needsAll (am_put c (108 + w.toNat) 2 bg) q w ∧ 0 ≤ f_least r h w bg ∧ f_least r h w bg ≤ 99 := by
  obtain ⟨hHI, hV, hT, hN, hW, hWt, hSh, hL⟩ := id hC
  refine ⟨?_, f_least_b r h w bg hHI.1.1 hF⟩
  have hmv := (hHI.2.1 w).2
  have hlo : bg ≤ (if f_moves h w < 39 - bg then bg + f_moves h w else 39) + 1 := by split <;> omega
  have hhi : (if f_moves h w < 39 - bg then bg + f_moves h w else 39) < 40 := by split <;> omega
  unfold k_needsAll
  have hg : ∀ (s a : Int), 0 ≤ a → bg ≤ s → s ≤ (if f_moves h w < 39 - bg then bg + f_moves h w else 39) → g_k_needsAll_4 (am_put c (108 + w.toNat) 2 bg) q w s a = (if a < f_need r h (f_pathAt h w (s - bg)) s then f_need r h (f_pathAt h w (s - bg)) s else a) ∧ 0 ≤ f_need r h (f_pathAt h w (s - bg)) s := fun s a a0 a1 a2 => by
    have a3 : s ≤ bg + f_moves h w ∧ s < 40 := by split at a2 <;> omega
    obtain ⟨p1, p2⟩ := (ti_placeAt hW hw (bg := bg) (s := s)).2 a1 a3.1
    obtain ⟨n1, n2, n3⟩ := ti_need hC hF (hQ s a1 a3.1 a3.2) p1 p2
    unfold g_k_needsAll_4
    simp only []
    rw [if_neg p2, ti_needs_c hV hw, ← n1]
    refine ⟨?_, n2⟩
    by_cases g : a < f_need r h (f_pathAt h w (s - bg)) s
    · rw [if_pos g, if_neg (by omega)]
    · rw [if_neg g, if_pos (by omega)]
  have h9 := ti_windowP (P := fun a : Int => 0 ≤ a) (g := g_k_needsAll_4 (am_put c (108 + w.toNat) 2 bg) q w) (N := 40) (lo := bg) (hi := if f_moves h w < 39 - bg then bg + f_moves h w else 39) (a := 0) hbg.1 hlo hhi (fun j a ha a1 a2 => by
    unfold g_k_needsAll_4
    simp only []
    rw [if_pos ((ti_placeAt hW hw).1 (Or.inl a2)), if_pos ha]) (fun j a ha a1 a2 => by
    unfold g_k_needsAll_4
    simp only []
    rw [if_pos ((ti_placeAt hW hw).1 (Or.inr (by split at a1 <;> omega))), if_pos ha]) (fun j a ha a1 a2 => by
    obtain ⟨e1, e2⟩ := hg j a ha a1 a2
    rw [e1]
    split <;> omega) (Int.le_refl 0)
  rw [show (40 : Nat) = (40 : Int).toNat from rfl, h9, ti_from (g_k_needsAll_4 (am_put c (108 + w.toNat) 2 bg) q w)]
  unfold f_least
  have en : (f_leastTo h w bg).toNat = ((if f_moves h w < 39 - bg then bg + f_moves h w else 39) + 1 - bg).toNat := by
    unfold f_leastTo
    split <;> omega
  rw [en]
  refine (ti_rel (R := fun i (a b : Int) => a = b ∧ 0 ≤ a) (f := g_least r h w bg) (g := fun j => g_k_needsAll_4 (am_put c (108 + w.toNat) 2 bg) q w (bg + j)) _ 0 0 0 ⟨rfl, Int.le_refl 0⟩ fun j a b a1 a2 hR => ?_).1
  obtain ⟨rfl, r2⟩ := hR
  obtain ⟨e1, e2⟩ := hg (bg + j) a r2 (by omega) (by omega)
  rw [e1]
  rw [show bg + j - bg = j by omega] at e2 ⊢
  unfold g_least
  refine ⟨rfl, ?_⟩
  split <;> omega
/-- what a walk needs, begun as it is told -/
theorem ti_needsAll {h c r q : am_F} {w : Int} (hC : HC h c) (hF : RnF r) (hw : 0 ≤ w ∧ w < c 4 4) (hQ : ∀ s : Int, f_comes h w ≤ s → s ≤ f_comes h w + f_moves h w → s < 40 → FQ s r q) : f_least r h w (f_comes h w) = k_needsAll c q w ∧ 0 ≤ f_least r h w (f_comes h w) ∧ f_least r h w (f_comes h w) ≤ 99 := by
  obtain ⟨hHI, hV, hT, hN, hW, hWt, hSh, hL⟩ := id hC
  have h9 := ti_least hC hF hw (hHI.2.1 w).1 hQ
  rw [((hW.2 w hw.1 hw.2).1).1, am_put_same] at h9
  rw [((hW.2 w hw.1 hw.2).1).1]
  exact h9
theorem ti_cost {h c : am_F} {w nd : Int} (hC : HC h c) (hw : 0 ≤ w ∧ w < c 4 4) (hn : 0 ≤ nd ∧ nd ≤ 99) : am_w32 (nd * c_floorsOn h w) = am_fold (g_k_buy_68 c w nd) 0 40 0 := by
  obtain ⟨hHI, hV, hT, hN, hW, hWt, hSh, hL⟩ := id hC
  have v1 := hV.1
  have v2 := hV.2.1
  unfold c_floorsOn
  have hm : ∀ a b : Int, 0 ≤ a → a ≤ b → 0 ≤ nd * a ∧ nd * a ≤ 99 * b := fun a b a1 a2 => ⟨Int.mul_nonneg hn.1 a1, Int.mul_le_mul hn.2 a2 a1 (by decide)⟩
  have h9 := ti_rel (R := fun i (a b : Int) => b = nd * a ∧ 0 ≤ a ∧ a ≤ 9 * i) (f := g_c_floorsOn_4 h w) (g := g_k_buy_68 c w nd) 40 0 0 0 ⟨by rw [Int.mul_zero], by decide, by decide⟩ (fun j a b a1 a2 hR => by
    obtain ⟨rfl, r2, r3⟩ := hR
    have hp := ti_place hW hw (s := j) (by omega)
    unfold g_c_floorsOn_4 g_k_buy_68
    simp only []
    have b1 := hm a (9 * j) r2 r3
    rcases hp with ⟨p1, p2⟩ | ⟨x, y, p1, p2, p3, p4⟩
    · rw [p1, p2]
      simp only [reduceIte, Int.add_zero]
      exact ⟨ti_w ⟨by omega, by omega⟩, r2, by omega⟩
    · rw [if_neg (show ¬ f_cellOf h w j = -1 by omega), if_neg (show ¬ k_placeOf c w j = -1 by omega), p3, p4, show (x + 9 * y) % 9 = x by omega, show (x + 9 * y) / 9 = y by omega, hT.2.1 x y p1.1 p1.2 p2.1 p2.2]
      have l1 := hHI.1.2.1 (x + 10 * y)
      rw [hT.2.1 x y p1.1 p1.2 p2.1 p2.2] at l1
      by_cases g : k_lotOf c x y = -1
      · rw [if_pos g, g]
        have e : f_floor h (-1) = 0 := by unfold f_floor f_at; rw [if_neg (by omega)]
        rw [e, Int.add_zero, Int.add_zero]
        exact ⟨ti_w ⟨by omega, by omega⟩, r2, by omega⟩
      · rw [if_neg g]
        have hk : 0 ≤ k_lotOf c x y ∧ k_lotOf c x y < c 4 3 := by
          refine ⟨by omega, ?_⟩
          unfold k_lotOf at g ⊢
          cases e : am_find (p_k_lotOf_2 c x y) 0 (c 4 3).toNat with
          | none => rw [e] at g; exact absurd rfl g
          | some r =>
            obtain ⟨j, h1, h2, h3⟩ := am_find_spec _ _ e
            show r < c 4 3
            unfold p_k_lotOf_2 at h3
            simp only [] at h3
            split at h3
            · cases h3
            · split at h3
              · cases h3
              · have := Option.some.inj h3
                omega
        have ef : f_floor h (k_lotOf c x y) = c (96 + (k_lotOf c x y).toNat) 4 := (hL.2.1 _ hk.1 hk.2).1
        have e9 := (hL.1 _ hk.1 hk.2).2.2.1
        rw [ef]
        have b2 := hm (c (96 + (k_lotOf c x y).toNat) 4) 9 e9.1 e9.2
        rw [ti_w (x := nd * c (96 + (k_lotOf c x y).toNat) 4) ⟨by omega, by omega⟩, Int.mul_add]
        exact ⟨ti_w ⟨by omega, by omega⟩, by omega, by omega⟩)
  obtain ⟨e1, e2, e3⟩ := h9
  have b9 := hm (am_fold (g_c_floorsOn_4 h w) 0 40 0) 360 e2 (by omega)
  rw [e1, ti_w ⟨by omega, by omega⟩]
