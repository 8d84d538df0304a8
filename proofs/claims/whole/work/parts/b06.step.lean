/-! THE TIE: a step's end; a step without fog; one step -/
theorem ti_record {r q : am_F} {s : Int} (hs : 0 ≤ s ∧ s < 40) (hB : ∀ j : Nat, 0 ≤ r 1 j ∧ r 1 j ≤ 99) (hF : TF 265 (s + 1) r q) :
    (∀ m, m ≠ 159 + (s + 1).toNat → m ≠ 201 + (s + 1).toNat → am_fold (g_k_stepGoes_285 s) 0 81 (am_put q (201 + (s + 1).toNat) 0 0) m = q m) ∧ (∀ m, m ≠ 0 → am_fold (g_k_stepGoes_285 s) 0 81 (am_put q (201 + (s + 1).toNat) 0 0) (201 + (s + 1).toNat) m = q (201 + (s + 1).toNat) m) ∧ (am_fold (g_k_stepGoes_285 s) 0 81 (am_put q (201 + (s + 1).toNat) 0 0) (201 + (s + 1).toNat) 0 = f_fogsum r (s + 1)) ∧ ∀ x : Nat, x < 81 → am_fold (g_k_stepGoes_285 s) 0 81 (am_put q (201 + (s + 1).toNat) 0 0) (159 + (s + 1).toNat) x = q 265 x := by
  have h := ti_rows (R := fun i j (a : Int) x => (0 ≤ a ∧ a ≤ 99 * (10 * j + i)) ∧ x (201 + (s + 1).toNat) 0 = a ∧ (∀ m, m ≠ 159 + (s + 1).toNat → m ≠ 201 + (s + 1).toNat → x m = q m) ∧ (∀ m, m ≠ 0 → x (201 + (s + 1).toNat) m = q (201 + (s + 1).toNat) m) ∧ ∀ y : Nat, (y : Int) < i + 9 * j → x (159 + (s + 1).toNat) y = q 265 y) (f := fun i a => a + r 1 i.toNat) (g := g_k_stepGoes_285 s) ((s + 1) * 90) 0 (am_put q (201 + (s + 1).toNat) 0 0)
    ⟨⟨by decide, by decide⟩, am_put_s, fun m h1 h2 => am_put_kr h2, fun m hm => am_put_i hm, fun y hy => by omega⟩
    (fun i j a x h1 h2 h3 h4 hR => by
      obtain ⟨g1, g2, g3, g4, g5⟩ := hR
      have e := hF.1 i j h1 h2 h3 h4
      have hb := hB ((s + 1) * 90 + (i + 10 * j)).toNat
      have e5 : x 265 = q 265 := g3 265 (by omega) (by omega)
      have hv : a + r 1 ((s + 1) * 90 + (i + 10 * j)).toNat = am_w32 (x (201 + (s + 1).toNat) 0 + x 265 (i + 9 * j).toNat) := by
        rw [g2, e5, ← e]
        exact (ti_w ⟨by omega, by omega⟩).symm
      unfold g_k_stepGoes_285
      refine ⟨⟨by omega, by omega⟩, ?_, fun m m1 m2 => ?_, fun m hm => ?_, fun y hy => ?_⟩
      · rw [am_put_s, hv]
      · rw [am_put_kr m2, am_put_kr m1]
        exact g3 m m1 m2
      · rw [am_put_i hm, am_put_k (by omega)]
        exact g4 m hm
      · rw [am_put_k (by omega)]
        by_cases e9 : y = (i + 9 * j).toNat
        · rw [e9, am_put_s, e5]
        · rw [am_put_i e9]
          exact g5 y (by omega))
    (fun j a x h1 h2 hR => by
      obtain ⟨g1, g2, g3, g4, g5⟩ := hR
      have e := hF.2 j h1 h2
      simp only [e, Int.add_zero]
      exact ⟨⟨g1.1, by omega⟩, g2, g3, g4, fun y hy => g5 y (by omega)⟩)
  exact ⟨h.2.2.1, h.2.2.2.1, h.2.1, fun x hx => h.2.2.2.2 x (by omega)⟩
/-- no fog at all: all cells are empty -/
theorem ti_sum0 {F : Nat → Int} (hF : ∀ j, 0 ≤ F j) : ∀ (n : Nat) (i a : Int), 0 ≤ i → a ≤ am_fold (fun i a => a + F i.toNat) i n a ∧ ∀ j : Int, i ≤ j → j < i + n → a + F j.toNat ≤ am_fold (fun i a => a + F i.toNat) i n a := by
  intro n
  induction n with
  | zero => intro i a _; exact ⟨Int.le_refl _, fun j h1 h2 => by omega⟩
  | succ n ih =>
    intro i a hi
    obtain ⟨h1, h2⟩ := ih (i + 1) (a + F i.toNat) (by omega)
    have := hF i.toNat
    rw [am_fold_s]
    refine ⟨by omega, fun j h3 h4 => ?_⟩
    by_cases e : j = i
    · rw [e]; exact h1
    · have := h2 j (by omega) (by omega)
      have := hF i.toNat
      omega
theorem ti_empty {r : am_F} {p : Int} (hB : ∀ j : Nat, 0 ≤ r 1 j ∧ r 1 j ≤ 99) (hp : 0 ≤ p) (h0 : f_fogsum r p ≤ 0) : ∀ j : Int, p * 90 ≤ j → j < p * 90 + 90 → r 1 j.toNat = 0 := by
  intro j h1 h2
  have h := (ti_sum0 (F := r 1) (fun j => (hB j).1) 90 (p * 90) 0 (by omega)).2 j h1 (by omega)
  unfold f_fogsum at h0
  have := (hB j.toNat).1
  omega
theorem ti_foldid {α : Type} {f : Int → α → α} {x : α} (n : Nat) (i : Int) (h : ∀ j, i ≤ j → j < i + n → f j x = x) : am_fold f i n x = x :=
  ti_inv0 (P := fun y => y = x) n i x rfl (fun j y h1 h2 e => by rw [e]; exact h j h1 h2)
/-- the class's parts of a step do nothing where there is no fog -/
theorem ti_zero_blows {h r : am_F} {s tn : Int} (hV : HbV h) (hs : 0 ≤ s) (h0 : ∀ j : Int, s * 90 ≤ j → j < s * 90 + 90 → r 1 j.toNat = 0) : f_blows h r s tn = r := by
  obtain ⟨v1, v2, v3, v4, -⟩ := id hV
  unfold f_blows
  split
  · rfl
  · unfold f_blow
    refine ti_foldid _ 0 fun y h1 h2 => ?_
    unfold g_blow
    refine ti_foldid _ 0 fun x h3 h4 => ?_
    unfold g_blowx
    rw [h0 _ (by omega) (by omega), Int.zero_mul, if_neg (by decide)]
theorem ti_zero_mix {h r : am_F} {s cell : Int} (hV : HbV h) (hs : 0 ≤ s) (hc : 0 ≤ cell ∧ cell ≤ 88) (h0 : ∀ j : Int, (s + 1) * 90 ≤ j → j < (s + 1) * 90 + 90 → r 1 j.toNat = 0) : f_mix h r ((s + 1) * 90) cell = r := by
  have h1 : (f_mixr h r ((s + 1) * 90) cell).1 = 0 := by
    unfold f_mixr
    refine ti_inv0 (P := fun (x : Int × Int) => x.1 = 0) 9 0 (0, 0) rfl fun j x _ _ hx => ?_
    unfold g_mixr
    split
    · exact hx
    · rcases f_near_b hV cell j with g | g
      · omega
      · show x.1 + r 1 ((s + 1) * 90 + f_near h cell j).toNat = 0
        rw [hx, h0 _ (by omega) (by omega)]
        rfl
  have h2 : f_mixw h r ((s + 1) * 90) cell 0 = r := by
    unfold f_mixw
    refine ti_foldid 9 0 fun j _ _ => ?_
    unfold g_mixw
    split
    · rfl
    · rcases f_near_b hV cell j with g | g
      · omega
      · have e := h0 ((s + 1) * 90 + f_near h cell j) (by omega) (by omega)
        have e2 := am_put_same r 1 ((s + 1) * 90 + f_near h cell j).toNat
        rw [e] at e2
        exact e2
  unfold f_mix
  split
  · rfl
  · rw [h1, Int.zero_ediv, h2, Int.zero_mul, Int.sub_zero, Int.add_zero, am_put_same]
theorem ti_zero_burnl {h r : am_F} {s lamp cell burns : Int} (hV : HbV h) (hs : 0 ≤ s) (hb : 0 ≤ burns) (h0 : ∀ j : Int, (s + 1) * 90 ≤ j → j < (s + 1) * 90 + 90 → r 1 j.toNat = 0) : (f_burnl h r (s + 1) lamp cell burns).1 = 0 ∧ (f_burnl h r (s + 1) lamp cell burns).2 1 = r 1 ∧ ((∀ x y : Int, 0 ≤ x → x < 9 → 0 ≤ y → y < 9 → am_w32 (r 8 (lamp * 90 + (x + 10 * y)).toNat) = r 8 (lamp * 90 + (x + 10 * y)).toNat) → (f_burnl h r (s + 1) lamp cell burns).2 = r) := by
  obtain ⟨v1, v2, v3, v4, -⟩ := id hV
  unfold f_burnl
  refine ti_inv0 (P := fun (x : Int × am_F) => x.1 = 0 ∧ x.2 1 = r 1 ∧ ((∀ x y : Int, 0 ≤ x → x < 9 → 0 ≤ y → y < 9 → am_w32 (r 8 (lamp * 90 + (x + 10 * y)).toNat) = r 8 (lamp * 90 + (x + 10 * y)).toNat) → x.2 = r)) 9 0 (0, r) ⟨rfl, rfl, fun _ => rfl⟩ fun j x _ _ hx => ?_
  unfold g_burn
  by_cases hn : f_near h cell j = -1
  · rw [if_pos hn]
    exact hx
  · rw [if_neg hn]
    have hg : ∃ a e : Int, 0 ≤ a ∧ a < 9 ∧ 0 ≤ e ∧ e < 9 ∧ f_near h cell j = a + 10 * e := by
      unfold f_near at hn ⊢
      by_cases g : (0 ≤ cell % 10 + j % 3 - 1 ∧ cell % 10 + j % 3 - 1 < h 0 0) ∧ 0 ≤ cell / 10 + j / 3 - 1 ∧ cell / 10 + j / 3 - 1 < h 0 1
      · rw [if_pos g]
        exact ⟨_, _, g.1.1, by omega, g.2.1, by omega, rfl⟩
      · rw [if_neg g] at hn
        exact absurd rfl hn
    obtain ⟨a, e, a1, a2, a3, a4, a5⟩ := hg
    obtain ⟨p1, p2, p3⟩ := hx
    have e0 : r 1 ((s + 1) * 90 + f_near h cell j).toNat = 0 := h0 _ (by omega) (by omega)
    have et : f_takes x.2 (s + 1) burns (f_near h cell j) = 0 := by
      unfold f_takes
      rw [p2, e0]
      split <;> omega
    rw [et, p1]
    refine ⟨rfl, ?_, fun hw => ?_⟩
    · dsimp only
      rw [am_put_kr (by decide), Int.sub_zero, am_put_same, p2]
    · dsimp only
      rw [p3 hw, Int.sub_zero, am_put_same, Int.add_zero, a5, hw a e a1 a2 a3 a4, am_put_same]
theorem ti_zero_burn {h r q : am_F} {L s lamp cell burns : Int} (hV : HbV h) (hs : 0 ≤ s) (hb : 0 ≤ burns) (hl : 0 ≤ lamp ∧ lamp < L) (h0 : ∀ j : Int, (s + 1) * 90 ≤ j → j < (s + 1) * 90 + 90 → r 1 j.toNat = 0) : f_burn h r (s + 1) lamp cell burns 1 = r 1 ∧ (TS L (s + 1) r q → f_burn h r (s + 1) lamp cell burns = r) := by
  obtain ⟨p1, p2, p3⟩ := ti_zero_burnl (lamp := lamp) (cell := cell) hV hs hb h0
  unfold f_burn
  rw [p1]
  refine ⟨by rw [am_put_kr (by decide), am_put_kr (by decide), p2], fun hS => ?_⟩
  obtain ⟨t3, t4, t5, t6, t7, t8, t9⟩ := hS
  rw [p3 (fun x y c1 c2 c3 c4 => (t8 lamp x y hl.1 hl.2 c1 c2 c3 c4).2), Int.add_zero, Int.add_zero, (t7 lamp hl.1 hl.2).2, am_put_same, t4.2, am_put_same]
theorem ti_zero_thin {h r q : am_F} {L s : Int} (hs : 0 ≤ s) (h0 : ∀ j : Int, (s + 1) * 90 ≤ j → j < (s + 1) * 90 + 90 → r 1 j.toNat = 0) : f_thin h r s 1 = r 1 ∧ (TS L (s + 1) r q → f_thin h r s = r) := by
  unfold f_thin
  by_cases hn : f_loses h s ≤ 0
  · rw [if_pos hn]
    exact ⟨rfl, fun _ => rfl⟩
  · rw [if_neg hn]
    refine ti_inv0 (P := fun x => x 1 = r 1 ∧ (TS L (s + 1) r q → x = r)) 90 ((s + 1) * 90) r ⟨rfl, fun _ => rfl⟩ fun j x h1 h2 hx => ?_
    have e0 : f_lose x (f_loses h s) j = 0 := by
      unfold f_lose
      rw [hx.1, h0 j h1 (by omega)]
      split <;> omega
    unfold g_thin
    rw [e0, Int.sub_zero, am_put_same, Int.add_zero]
    exact ⟨(am_put_kr (by decide)).trans hx.1, fun hS => by rw [hx.2 hS, hS.2.2.1.2, am_put_same]⟩
theorem ti_zero {h c r q : am_F} {s : Int} (hA : HbAll h) (hMl : MlB r) (hT : TLp h c r) (hs : 0 ≤ s ∧ s < 40) (h0 : ∀ j : Int, s * 90 ≤ j → j < s * 90 + 90 → r 1 j.toNat = 0) : f_go4 h r s 1 = f_go1 r s 1 ∧ (TS (c 0 45) (s + 1) (f_go1 r s) q → f_go4 h r s = f_go1 r s) := by
  obtain ⟨hV, hLt, hWd, hSt, hLp, hTh⟩ := hA
  obtain ⟨v1, v2, v3, v4, v5, v6, v7, v8, v9, v10, v11, v12, v13, v14, v15, v16, v17, v18, v19, v20, v21, v22⟩ := id hV
  obtain ⟨a1, a2, a3, a4, a5, a6⟩ := ti_go1 (r := r) hs
  have z0 : ∀ j : Int, s * 90 ≤ j → j < s * 90 + 90 → f_go1 r s 1 j.toNat = 0 := fun j h1 h2 => by
    rw [a1 _ (by omega)]
    exact h0 j h1 h2
  have z1 : ∀ j : Int, (s + 1) * 90 ≤ j → j < (s + 1) * 90 + 90 → f_go1 r s 1 j.toNat = 0 := fun j h1 h2 => by
    have := a2 (j - (s + 1) * 90).toNat (by omega)
    rw [show ((s + 1) * 90).toNat + (j - (s + 1) * 90).toNat = j.toNat by omega, show (s * 90).toNat + (j - (s + 1) * 90).toNat = (j - 90).toNat by omega] at this
    rw [this]
    exact h0 (j - 90) (by omega) (by omega)
  have e2 : f_go2 h r s = f_go1 r s := ti_zero_blows hV hs.1 z0
  have em : f_mixAll h (f_go2 h r s) s = f_go1 r s := by
    rw [e2]
    unfold f_mixAll
    refine ti_foldid _ 0 fun i h1 h2 => ?_
    unfold g_mixAll
    split
    · exact ti_zero_mix hV hs.1 (hSt i) z1
    · rfl
  have e3 : f_go3 h r s = f_go1 r s := by
    unfold f_go3
    rw [em]
    unfold f_spill
    refine ti_foldid 90 _ fun i h1 h2 => ?_
    unfold g_spill
    rw [z1 i h1 (by omega), if_neg (by decide)]
  have hl5 : h 0 5 ≤ c 0 45 := by rcases hT.2 with ⟨b1, b2⟩ | ⟨b1, b2, -⟩ <;> omega
  have eb : f_burns h (f_go1 r s) (s + 1) 1 = f_go1 r s 1 ∧ (TS (c 0 45) (s + 1) (f_go1 r s) q → f_burns h (f_go1 r s) (s + 1) = f_go1 r s) := by
    unfold f_burns
    refine ti_inv0 (P := fun x => x 1 = f_go1 r s 1 ∧ (TS (c 0 45) (s + 1) (f_go1 r s) q → x = f_go1 r s)) _ 0 (f_go1 r s) ⟨rfl, fun _ => rfl⟩ fun i x h1 h2 hx => ?_
    unfold g_burnAll
    have z := ti_zero_burn (r := x) (q := q) (L := c 0 45) (lamp := i) (cell := f_at (h 0 5) (h 3) i 0) (burns := f_at (h 0 5) (h 3) i 1) hV hs.1 (hLp i).2.1 ⟨h1, by omega⟩ (fun j b1 b2 => by rw [hx.1]; exact z1 j b1 b2)
    refine ⟨z.1.trans hx.1, fun hS => ?_⟩
    have e := hx.2 hS
    rw [e] at z ⊢
    exact z.2 hS
  have eB : f_burnAll h (f_go1 r s) (s + 1) 1 = f_go1 r s 1 ∧ (TS (c 0 45) (s + 1) (f_go1 r s) q → f_burnAll h (f_go1 r s) (s + 1) = f_go1 r s) := by
    have g4 : f_go1 r s 0 4 = r 0 4 := (show f_go1 r s 0 4 = f_go0 r s 0 4 from rfl).trans (congrFun (f_go0_k r s).2 4)
    have g5 : f_go1 r s 0 5 = r 0 5 := (show f_go1 r s 0 5 = f_go0 r s 0 5 from rfl).trans (congrFun (f_go0_k r s).2 5)
    unfold f_burnAll
    rw [g4, g5]
    rcases hT.2 with ⟨b1, b2⟩ | ⟨b1, b2, b3, b4, b5, b6⟩
    · rw [if_pos b1]
      exact eb
    · rw [if_neg b1]
      have z := ti_zero_burn (r := f_burns h (f_go1 r s) (s + 1)) (q := q) (L := c 0 45) (lamp := h 0 5) (cell := r 0 4) (burns := r 0 5) hV hs.1 b6 ⟨by omega, by omega⟩ (fun j b1 b2 => by rw [eb.1]; exact z1 j b1 b2)
      refine ⟨z.1.trans eb.1, fun hS => ?_⟩
      have e := eb.2 hS
      rw [e] at z ⊢
      exact z.2 hS
  unfold f_go4
  rw [e3]
  have z := ti_zero_thin (h := h) (r := f_burnAll h (f_go1 r s) (s + 1)) (q := q) (L := c 0 45) hs.1 (fun j b1 b2 => by rw [eB.1]; exact z1 j b1 b2)
  refine ⟨z.1.trans eB.1, fun hS => ?_⟩
  have e := eB.2 hS
  rw [e] at z ⊢
  exact z.2 hS
/-- what of the port both sides have alike -/
def TH (h c : am_F) : Prop := (h 0 0 = c 4 0 ∧ h 0 1 = c 4 1) ∧ TLo h c ∧ TW h c ∧ TSt h c ∧ TTh h c ∧ h 0 7 = c 4 3
/-- one step -/
theorem ti_step {b : Prop} {h c r q : am_F} {s : Int} (hA : HbAll h) (hF : RnF r) (hMl : MlB r) (hst : r 2 s.toNat = f_fogsum r s) (hT : TH h c) (hLp : TLp h c r) (hD : TD c r q) (hs : 0 ≤ s ∧ s < 40) (hdu : s ≠ c 0 58) (h5 : TF 265 s r q) (hS : b → TSo (c 0 45) s r q) :
    TF 265 (s + 1) (f_goOn h r s) (k_stepGoes c q s) ∧ (b → TS (c 0 45) (s + 1) (f_goOn h r s) (k_stepGoes c q s)) ∧ TF (159 + (s + 1).toNat) (s + 1) (f_goOn h r s) (k_stepGoes c q s) ∧ f_goOn h r s 2 (s + 1).toNat = k_stepGoes c q s (201 + (s + 1).toNat) 0 ∧ f_goOn h r s 2 (s + 1).toNat = f_fogsum (f_goOn h r s) (s + 1) := by
  obtain ⟨hH, hlo, hW, hSt, hTh, -⟩ := hT
  have hA9 := id hA
  obtain ⟨hV, hLt, hWd, hStB, hLpB, hThB⟩ := hA9
  obtain ⟨v1, v2, v3, v4, v5, v6, v7, v8, v9, v10, v11, v12, v13, v14, v15, v16, v17, v18, v19, v20, v21, v22⟩ := id hV
  have hL : c 0 45 ≤ 7 := by rcases hLp.2 with ⟨b1, b2⟩ | ⟨b1, b2, -⟩ <;> omega
  obtain ⟨y1, y2, y3, ⟨y4, y5⟩, y6, y7, y8⟩ := f_go_k hA hs hF hMl
  obtain ⟨x1, x2, x3⟩ := ti_begins hs hL h5 hS
  -- the stages
  have htn : f_draws (f_go0 r s) = ti_tn c (ti_s2 c q s) := by
    refine ti_drawn (q := ti_s2 c q s) ?_ s
    unfold TD
    rw [(ti_s2_k (q := q) hs hL).1 0 (by omega) (by omega)]
    exact hD
  have s3 := ti_blows (b := b) (L := c 0 45) (tn := f_draws (f_go0 r s)) hH hV hlo hLt hW hL hs y1 x1 x2 x3
  have e3 : ti_b c (k_windAt c s) (f_draws (f_go0 r s)) s (ti_q20 c (ti_s2 c q s) s) = k_blows c (ti_s2 c q s) s := by rw [htn]; rfl
  rw [e3] at s3
  have s4 := ti_mixAll (b := b) hH hV hStB hSt hL hs y2 s3.1 s3.2
  have s5 := ti_spill (b := b) hL hs (fun j => by have := y3 j; omega) s4.1 s4.2
  have z4 : f_go3 h r s 0 4 = r 0 4 ∧ f_go3 h r s 0 5 = r 0 5 := by
    have e : f_go3 h r s 0 = f_go1 r s 0 := by
      unfold f_go3
      rw [f_spill_0, (f_mixAllB hV hStB y2 hs.1).2.2]
      exact f_blows_0 _ _ _ _
    rw [e]
    exact ⟨(show f_go1 r s 0 4 = f_go0 r s 0 4 from rfl).trans (congrFun (f_go0_k r s).2 4), (show f_go1 r s 0 5 = f_go0 r s 0 5 from rfl).trans (congrFun (f_go0_k r s).2 5)⟩
  have hLp3 : TLp h c (f_go3 h r s) := by
    unfold TLp
    rw [z4.1, z4.2]
    exact hLp
  have s6 := ti_burnAll (b := b) (r := f_go3 h r s) hH hV hLpB hLp3 hs y4 s5.1 s5.2
  have s7 := ti_thin (b := b) (r := f_burnAll h (f_go3 h r s) (s + 1)) hTh (by unfold f_loses; split; exact Int.le_refl _; exact (hThB _).1) hL hs y6 s6.1 s6.2
  have eq9 : k_stepGoes c q s = am_fold (g_k_stepGoes_285 s) 0 81 (am_put (am_fold (g_k_stepGoes_204 s (k_thinAt c s)) 0 81 (am_fold (g_k_stepGoes_176 c s) 0 (c 0 45).toNat (am_fold (g_k_stepGoes_113 s) 0 81 (am_fold (g_k_stepGoes_72 c s) 0 (c 4 10).toNat (k_blows c (ti_s2 c q s) s))))) (201 + (s + 1).toNat) 0 0) := by
    unfold k_stepGoes
    simp only []
    rw [if_neg hdu]
    rfl
  -- without fog
  have s8 : ∃ X, X = (if 0 < f_go1 r s 2 s.toNat then f_go4 h r s else f_go1 r s) ∧ FgB X 99 ∧ TF 265 (s + 1) X (am_fold (g_k_stepGoes_204 s (k_thinAt c s)) 0 81 (am_fold (g_k_stepGoes_176 c s) 0 (c 0 45).toNat (am_fold (g_k_stepGoes_113 s) 0 81 (am_fold (g_k_stepGoes_72 c s) 0 (c 4 10).toNat (k_blows c (ti_s2 c q s) s))))) ∧ (b → TS (c 0 45) (s + 1) X (am_fold (g_k_stepGoes_204 s (k_thinAt c s)) 0 81 (am_fold (g_k_stepGoes_176 c s) 0 (c 0 45).toNat (am_fold (g_k_stepGoes_113 s) 0 81 (am_fold (g_k_stepGoes_72 c s) 0 (c 4 10).toNat (k_blows c (ti_s2 c q s) s)))))) := by
    refine ⟨_, rfl, ?_⟩
    by_cases g : 0 < f_go1 r s 2 s.toNat
    · rw [if_pos g]
      exact ⟨y7, s7.1, s7.2⟩
    · rw [if_neg g]
      have e2 : f_go1 r s 2 s.toNat = r 2 s.toNat := congrFun (ti_go1 hs).2.2.1 _
      have z := ti_zero (q := ti_q20 c (ti_s2 c q s) s) hA hMl hLp hs (ti_empty hF hs.1 (by omega))
      refine ⟨(f_go1_f hs hF hMl).1, TF_k s7.1 z.1.symm rfl, fun hb => ?_⟩
      have e4 := z.2 (x3 hb)
      have s9 := s7.2 hb
      rw [show f_thin h (f_burnAll h (f_go3 h r s) (s + 1)) s = f_go4 h r s from rfl, e4] at s9
      exact s9
  obtain ⟨X, eX, w1, w2, w3⟩ := s8
  have eG : f_goOn h r s = f_addUp X (s + 1) := by rw [eX]; rfl
  have ef1 : f_addUp X (s + 1) 1 = X 1 := am_put_kr (by decide)
  have efs : f_fogsum (f_addUp X (s + 1)) (s + 1) = f_fogsum X (s + 1) := by
    unfold f_fogsum
    rw [ef1]
  obtain ⟨u1, u2, u3, u4⟩ := ti_record (q := am_fold (g_k_stepGoes_204 s (k_thinAt c s)) 0 81 (am_fold (g_k_stepGoes_176 c s) 0 (c 0 45).toNat (am_fold (g_k_stepGoes_113 s) 0 81 (am_fold (g_k_stepGoes_72 c s) 0 (c 4 10).toNat (k_blows c (ti_s2 c q s) s))))) hs w1 w2
  rw [eG, eq9]
  generalize am_fold (g_k_stepGoes_204 s (k_thinAt c s)) 0 81 (am_fold (g_k_stepGoes_176 c s) 0 (c 0 45).toNat (am_fold (g_k_stepGoes_113 s) 0 81 (am_fold (g_k_stepGoes_72 c s) 0 (c 4 10).toNat (k_blows c (ti_s2 c q s) s)))) = q7 at *
  generalize am_fold (g_k_stepGoes_285 s) 0 81 (am_put q7 (201 + (s + 1).toNat) 0 0) = q9 at *
  refine ⟨TF_k w2 ef1 (u1 265 (by omega) (by omega)), fun hb => ?_, TF_copy (TF_k w2 ef1 rfl) u4, ?_, ?_⟩
  · obtain ⟨t3, t4, t5, t6, t7, t8, t9⟩ := w3 hb
    have ek : ∀ k, k ≠ 2 → f_addUp X (s + 1) k = X k := fun k hk => am_put_kr hk
    refine ⟨?_, ?_, ?_, ?_, ?_, ?_, ?_⟩
    · unfold T3; rw [ek 3 (by decide), u2 1 (by decide)]; exact t3
    · unfold T4; rw [ek 4 (by decide), u2 2 (by decide)]; exact t4
    · unfold T5; rw [ek 5 (by decide), u2 3 (by decide)]; exact t5
    · unfold T6; rw [ek 6 (by decide), u1 267 (by omega) (by omega)]; exact t6
    · intro l c1 c2; rw [ek 7 (by decide), u1 _ (by omega) (by omega)]; exact t7 l c1 c2
    · intro l x y c1 c2 c3 c4 c5 c6; rw [ek 8 (by decide), u1 _ (by omega) (by omega)]; exact t8 l x y c1 c2 c3 c4 c5 c6
    · intro a e c1 c2 c3 c4; rw [ek 9 (by decide), u1 _ (by omega) (by omega)]; exact t9 a e c1 c2 c3 c4
  · rw [u3]
    exact am_put_s
  · rw [efs]
    exact am_put_s
