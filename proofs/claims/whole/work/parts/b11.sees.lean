/-! THE TIE: who sees whom; lots -/
theorem ti_clear {h c r q : am_F} {s x y xa ya : Int} (hQ : FQ s r q) (hS : h 0 2 = c 4 7) (hx : 0 ≤ x ∧ x < 9) (hy : 0 ≤ y ∧ y < 9) (hxa : 0 ≤ xa ∧ xa < 9) (hya : 0 ≤ ya ∧ ya < 9) : f_clear r h (x + 10 * y) (xa + 10 * ya) s = k_seesBy c q x y xa ya s := by
  unfold f_clear k_seesBy
  rw [if_neg (by omega), ti_line hQ hx hy hxa hya, hS]
  simp only []
  by_cases g : k_lineOf q x y xa ya s = -1
  · rw [if_neg (fun g2 => g2.1 g), if_pos g]
  · rw [if_neg g]
    by_cases g2 : k_lineOf q x y xa ya s < c 4 7
    · rw [if_pos ⟨g, g2⟩, if_neg (by omega)]
    · rw [if_neg (fun g3 => g2 g3.2), if_pos (by omega)]
theorem ti_clearN {h r : am_F} {n s : Int} : f_clear r h n (-1) s = 0 ∧ f_clear r h (-1) n s = 0 := ⟨if_pos (Or.inr rfl), if_pos (Or.inl rfl)⟩
theorem ti_seesBy01 (c q : am_F) (x y xa ya t : Int) : k_seesBy c q x y xa ya t = 0 ∨ k_seesBy c q x y xa ya t = 1 := by
  unfold k_seesBy
  simp only []
  split
  · exact Or.inl rfl
  · split
    · exact Or.inl rfl
    · exact Or.inr rfl
/-- two cells of both sides -/
theorem ti_clearP {h c r q : am_F} {s n m n' m' : Int} (hV : MdV c) (hQ : FQ s r q) (hS : h 0 2 = c 4 7) (h1 : PC c n m) (h2 : PC c n' m') : f_clear r h n n' s = if m = -1 then 0 else if m' = -1 then 0 else k_seesBy c q (m % 9) (m / 9) (m' % 9) (m' / 9) s := by
  have v1 := hV.1
  have v2 := hV.2.1
  rcases h1 with ⟨rfl, rfl⟩ | ⟨x, y, a1, a2, rfl, rfl⟩
  · rw [if_pos rfl]
    exact ti_clearN.2
  · rw [if_neg (show ¬ x + 9 * y = -1 by omega)]
    rcases h2 with ⟨rfl, rfl⟩ | ⟨x', y', b1, b2, rfl, rfl⟩
    · rw [if_pos rfl]
      exact ti_clearN.1
    · rw [if_neg (show ¬ x' + 9 * y' = -1 by omega), show (x + 9 * y) % 9 = x by omega, show (x + 9 * y) / 9 = y by omega, show (x' + 9 * y') % 9 = x' by omega, show (x' + 9 * y') / 9 = y' by omega]
      exact ti_clear hQ hS (by omega) (by omega) (by omega) (by omega)
theorem ti_seeEach {h c r q : am_F} {s k l : Int} (hC : HC h c) (hQ : FQ s r q) (hs : 0 ≤ s ∧ s < 40) (hk : 0 ≤ k ∧ k < c 4 4) (hl : 0 ≤ l ∧ l < c 4 4) : f_seeEach r h k l s = k_seesOne c q k l s := by
  obtain ⟨hHI, hV, hT, hN, hW, -⟩ := hC
  unfold f_seeEach k_seesOne
  rw [ti_clearP hV hQ hN.1 (ti_place hW hk hs) (ti_place hW hl hs)]
  simp only []
  by_cases g1 : k_placeOf c k s = -1
  · rw [if_pos g1, if_pos g1]
  · rw [if_neg g1, if_neg g1]
    by_cases g2 : k_placeOf c l s = -1
    · rw [if_pos g2, if_pos g2]
    · rw [if_neg g2, if_neg g2]
      rcases ti_seesBy01 c q (k_placeOf c k s % 9) (k_placeOf c k s / 9) (k_placeOf c l s % 9) (k_placeOf c l s / 9) s with g | g
      · rw [g, if_pos rfl]
      · rw [g, if_neg (by decide)]
theorem ti_or0 {a : Int} (h : am_w32 a = a) : am_ior a 0 = a := by
  unfold am_ior
  have e : Int32.ofInt a ||| Int32.ofInt 0 = Int32.ofInt a := by
    apply Int32.toBitVec_inj.mp
    show (Int32.ofInt a).toBitVec ||| 0#32 = _
    simp
  rw [e]
  exact h
theorem ti_orw (a b : Int) : am_w32 (am_ior a b) = am_ior a b := by unfold am_ior; exact am_i32_i (am_w32r _)
/-- a loop by fuel that counts -/
theorem ti_whc {α : Type} {f : α × Int → (α × Int) ⊕ (α × Int)} {g : Int → α → α} {N : Int} (hs : ∀ a k, 0 ≤ k → k < N → f (a, k) = .inl (g k a, k + 1)) (he : ∀ a, f (a, N) = .inr (a, N)) : ∀ (n : Nat) (k : Int) (a : α) (F : Nat), 0 ≤ k → k + n = N → n + 1 ≤ F → am_wh f F (a, k) = (am_fold g k n a, N) := by
  intro n
  induction n with
  | zero =>
    intro k a F h0 h1 h2
    obtain ⟨F', rfl⟩ : ∃ F', F = F' + 1 := ⟨F - 1, by omega⟩
    have e : k = N := by omega
    rw [e, am_wh_r (he a)]
    rfl
  | succ n ih =>
    intro k a F h0 h1 h2
    obtain ⟨F', rfl⟩ : ∃ F', F = F' + 1 := ⟨F - 1, by omega⟩
    rw [am_wh_l (hs a k h0 (by omega)), ih (k + 1) (g k a) F' (by omega) (by omega) (by omega)]
    rfl
theorem ti_seenOn {h c r q : am_F} {s n m : Int} (hC : HC h c) (hQ : FQ s r q) (hP : PC c n m) : f_watchesOn r h n s = k_seenOn c q m s := by
  obtain ⟨hHI, hV, hT, hN, hW, hWt, -⟩ := hC
  have v1 := hV.1
  have v2 := hV.2.1
  have v5 := hV.2.2.2.2.2.1
  unfold f_watchesOn k_seenOn
  by_cases g : m = -1
  · have e : n = -1 := by rcases hP with ⟨p1, p2⟩ | ⟨x, y, p1, p2, p3, p4⟩ <;> omega
    have e1 : am_fold (g_watches r h n s) 0 (h 0 9).toNat 0 = 0 := ti_foldid _ 0 fun j a1 a2 => by
      unfold g_watches
      rw [e, ti_clearN.1, if_pos rfl]
    have e2 : w_k_seenOn_5 c q m s ((0 : Int), (0 : Int)) = .inr (0, 0) := by
      unfold w_k_seenOn_5
      simp only []
      split
      · rfl
      · rfl
    rw [e1, am_wh_r (n := 4) e2]
  · have h9 := ti_whc (f := w_k_seenOn_5 c q m s) (N := c 4 5) (g := fun k bits => am_ior bits (if k_seesBy c q (c (118 + k.toNat) 0) (c (118 + k.toNat) 1) (m % 9) (m / 9) s = 0 then 0 else am_ishl 1 k)) (fun a k a1 a2 => by
      unfold w_k_seenOn_5
      simp only []
      rw [if_neg (by omega), if_neg g]) (fun a => by
      unfold w_k_seenOn_5
      simp only []
      rw [if_pos (Int.le_refl _)]) (c 4 5).toNat 0 0 5 (by decide) (by omega) (by omega)
    rw [h9, hWt.1]
    have h8 := ti_rel (R := fun i (a b : Int) => a = b ∧ am_w32 a = a) (f := g_watches r h n s) (g := fun k bits => am_ior bits (if k_seesBy c q (c (118 + k.toNat) 0) (c (118 + k.toNat) 1) (m % 9) (m / 9) s = 0 then 0 else am_ishl 1 k)) (c 4 5).toNat 0 0 0 ⟨rfl, by decide⟩ (fun j a b a1 a2 hR => by
      obtain ⟨rfl, hw⟩ := hR
      obtain ⟨w1, w2, w3⟩ := hWt.2 j a1 (by omega)
      unfold g_watches
      have e : f_clear r h (f_at (h 0 9) (h 7) j 0) n s = k_seesBy c q (c (118 + j.toNat) 0) (c (118 + j.toNat) 1) (m % 9) (m / 9) s := by
        have hp : PC c (f_at (h 0 9) (h 7) j 0) (c (118 + j.toNat) 0 + 9 * c (118 + j.toNat) 1) := Or.inr ⟨_, _, w2, w3, w1, rfl⟩
        rw [ti_clearP hV hQ hN.1 hp hP, if_neg (by omega), if_neg g, show (c (118 + j.toNat) 0 + 9 * c (118 + j.toNat) 1) % 9 = c (118 + j.toNat) 0 by omega, show (c (118 + j.toNat) 0 + 9 * c (118 + j.toNat) 1) / 9 = c (118 + j.toNat) 1 by omega]
      rw [e]
      split
      · exact ⟨(ti_or0 hw).symm, hw⟩
      · exact ⟨rfl, ti_orw _ _⟩)
    exact h8.1
theorem ti_could {h c r q : am_F} {s x y : Int} (hC : HC h c) (hQ : FQ s r q) (hs : 0 ≤ s ∧ s < 40) (hx : 0 ≤ x ∧ x < c 4 0) (hy : 0 ≤ y ∧ y < c 4 1) : f_walkersOn r h (x + 10 * y) s = k_couldSee c q x y s := by
  obtain ⟨hHI, hV, hT, hN, hW, hWt, -⟩ := hC
  have v1 := hV.1
  have v2 := hV.2.1
  unfold f_walkersOn k_couldSee
  rw [hW.1]
  refine (ti_rel (R := fun i (a b : Int) => a = b ∧ am_w32 a = a) (f := g_walkers r h (x + 10 * y) s) (g := g_k_couldSee_6 c q x y s) (c 4 4).toNat 0 0 0 ⟨rfl, by decide⟩ (fun j a b a1 a2 hR => ?_)).1
  obtain ⟨rfl, hw⟩ := hR
  unfold g_walkers g_k_couldSee_6
  have hp : PC c (x + 10 * y) (x + 9 * y) := Or.inr ⟨x, y, hx, hy, rfl, rfl⟩
  rw [ti_clearP hV hQ hN.1 (ti_place hW ⟨a1, by omega⟩ hs) hp, if_neg (show ¬ x + 9 * y = -1 by omega), show (x + 9 * y) % 9 = x by omega, show (x + 9 * y) / 9 = y by omega]
  simp only []
  by_cases g1 : k_placeOf c j s = -1
  · rw [if_pos g1, if_pos g1, if_pos rfl]
    exact ⟨(ti_or0 hw).symm, hw⟩
  · rw [if_neg g1, if_neg g1]
    split
    · exact ⟨(ti_or0 hw).symm, hw⟩
    · exact ⟨rfl, ti_orw _ _⟩
/-- a loop that does something in a window alone -/
theorem ti_window {α : Type} {g : Int → α → α} {N lo hi : Int} (h0 : 0 ≤ lo) (h1 : lo ≤ hi + 1) (h2 : hi < N) (hb : ∀ j a, 0 ≤ j → j < lo → g j a = a) (he : ∀ j a, hi < j → j < N → g j a = a) (a : α) : am_fold g 0 N.toNat a = am_fold g lo (hi + 1 - lo).toNat a := by
  rw [show N.toNat = lo.toNat + ((hi + 1 - lo).toNat + (N - (hi + 1)).toNat) by omega, ti_add, ti_add, ti_foldid (f := g) lo.toNat 0 (fun j a1 a2 => hb j a a1 (by omega)), show (0 : Int) + (lo.toNat : Int) = lo by omega]
  exact ti_foldid _ _ fun j a1 a2 => he j _ (by omega) (by omega)
theorem ti_lotIn {c : am_F} {x y k : Int} (hk : 0 ≤ k) (h : k_lotOf c x y = k) : c (96 + k.toNat) 0 ≤ x ∧ x ≤ c (96 + k.toNat) 2 ∧ c (96 + k.toNat) 1 ≤ y ∧ y ≤ c (96 + k.toNat) 3 := by
  unfold k_lotOf at h
  cases e : am_find (p_k_lotOf_2 c x y) 0 (c 4 3).toNat with
  | none =>
    rw [e] at h
    have : (-1 : Int) = k := h
    omega
  | some r =>
    rw [e] at h
    have hr : r = k := h
    obtain ⟨j, h1, h2, h3⟩ := am_find_spec _ _ e
    unfold p_k_lotOf_2 at h3
    simp only [] at h3
    rcases ti_rng x (c (96 + j.toNat) 0) (c (96 + j.toNat) 2) with ⟨-, a1, a2, a3⟩ | ⟨-, a1, -⟩
    · rcases ti_rng y (c (96 + j.toNat) 1) (c (96 + j.toNat) 3) with ⟨-, b1, b2, b3⟩ | ⟨-, b1, -⟩
      · rw [a1, b1, if_neg (by decide), if_neg (by decide)] at h3
        have : j = r := Option.some.inj h3
        rw [← hr, ← this]
        exact ⟨a2, a3, b2, b3⟩
      · rw [a1, b1, if_neg (by decide), if_pos rfl] at h3
        cases h3
    · rw [a1, if_pos rfl] at h3
      cases h3
theorem ti_inLot {h c r q : am_F} {k s : Int} (hC : HC h c) (hQ : FQ s r q) (hk : 0 ≤ k ∧ k < c 4 3) : f_inLot r h k s = k_yardsOf c q k s ∧ 0 ≤ f_inLot r h k s ∧ f_inLot r h k s ≤ 9000 := by
  obtain ⟨hHI, hV, hT, hN, hW, hWt, hSh, hL⟩ := hC
  have v1 := hV.1
  have v2 := hV.2.1
  obtain ⟨⟨l1, l2, l3⟩, ⟨l4, l5, l6⟩, -⟩ := hL.1 k hk.1 hk.2
  have hlot : ∀ x y, 0 ≤ x → x < c 4 0 → 0 ≤ y → y < c 4 1 → (f_lotOn h (x + 10 * y) = k ↔ (c (96 + k.toNat) 0 ≤ x ∧ x ≤ c (96 + k.toNat) 2 ∧ c (96 + k.toNat) 1 ≤ y ∧ y ≤ c (96 + k.toNat) 3)) := fun x y a1 a2 a3 a4 => by
    rw [hT.2.1 x y a1 a2 a3 a4]
    exact ⟨fun g => ti_lotIn hk.1 g, fun g => hL.2.2 k x y hk.1 hk.2 g.1 g.2.1 g.2.2.1 g.2.2.2⟩
  have e1 : ∀ y a, 0 ≤ y → y < c 4 1 → (y < c (96 + k.toNat) 1 ∨ c (96 + k.toNat) 3 < y) → g_inLot r h k s y a = a := fun y a a1 a2 a3 => by
    unfold g_inLot
    rw [hT.1.1]
    refine ti_foldid _ 0 fun x b1 b2 => ?_
    unfold g_inLotx
    rw [if_neg (fun g => by have := (hlot x y b1 (by omega) a1 a2).mp g; omega)]
  have e2 : ∀ y a, c (96 + k.toNat) 1 ≤ y → y ≤ c (96 + k.toNat) 3 → g_inLot r h k s y a = am_fold (g_inLotx r h k s y) (c (96 + k.toNat) 0) (c (96 + k.toNat) 2 + 1 - c (96 + k.toNat) 0).toNat a := fun y a a1 a2 => by
    unfold g_inLot
    rw [hT.1.1]
    refine ti_window (by omega) (by omega) (by omega) (fun x b b1 b2 => ?_) (fun x b b1 b2 => ?_) a
    · unfold g_inLotx
      rw [if_neg (fun g => by have := (hlot x y b1 (by omega) (by omega) (by omega)).mp g; omega)]
    · unfold g_inLotx
      rw [if_neg (fun g => by have := (hlot x y (by omega) b2 (by omega) (by omega)).mp g; omega)]
  unfold f_inLot k_yardsOf
  rw [hT.1.2, ti_window (g := g_inLot r h k s) (lo := c (96 + k.toNat) 1) (hi := c (96 + k.toNat) 3) (by omega) (by omega) (by omega) (fun j a a1 a2 => e1 j a a1 (by omega) (Or.inl a2)) (fun j a a1 a2 => e1 j a (by omega) a2 (Or.inr a1)) 0]
  simp only []
  have h9 := ti_rel (R := fun y (a b : Int) => a = b ∧ 0 ≤ a ∧ a ≤ 900 * (y - c (96 + k.toNat) 1)) (f := g_inLot r h k s) (g := g_k_yardsOf_12 c q k s) (c (96 + k.toNat) 3 + 1 - c (96 + k.toNat) 1).toNat (c (96 + k.toNat) 1) 0 0 ⟨rfl, by omega, by omega⟩ (fun y a b a1 a2 hR => by
    obtain ⟨rfl, r1, r2⟩ := hR
    rw [e2 y a a1 (by omega)]
    unfold g_k_yardsOf_12
    simp only []
    have h8 := ti_rel (R := fun x (a' b' : Int) => a' = b' ∧ 0 ≤ a' ∧ a' ≤ a + 99 * (x - c (96 + k.toNat) 0)) (f := g_inLotx r h k s y) (g := g_k_yardsOf_35 q s y) (c (96 + k.toNat) 2 + 1 - c (96 + k.toNat) 0).toNat (c (96 + k.toNat) 0) a a ⟨rfl, r1, by omega⟩ (fun x a' b' b1 b2 hR' => by
      obtain ⟨rfl, q1, q2⟩ := hR'
      obtain ⟨f1, f2, f3⟩ := hQ x y (by omega) (by omega) (by omega) (by omega)
      unfold g_inLotx g_k_yardsOf_35
      rw [if_pos ((hlot x y (by omega) (by omega) (by omega) (by omega)).mpr (by omega)), ← f1, ti_w ⟨by omega, by omega⟩]
      exact ⟨rfl, by omega, by omega⟩)
    exact ⟨h8.1, h8.2.1, by have := h8.2.2; omega⟩)
  exact ⟨h9.1, h9.2.1, by have := h9.2.2; omega⟩
