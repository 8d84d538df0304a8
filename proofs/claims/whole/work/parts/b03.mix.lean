/-! THE TIE: steamers, what is too much -/
theorem TF_q {k : Nat} {p : Int} {r q : am_F} {x0 y0 v : Int} (h : TF k p r q) (hx : 0 ≤ x0 ∧ x0 < 9) (hy : 0 ≤ y0 ∧ y0 < 9) (hv : v = q k (x0 + 9 * y0).toNat) : TF k p r (am_put q k (x0 + 9 * y0).toNat v) := by
  rw [hv, am_put_same]
  exact h
theorem ti_near {h c : am_F} (hH : h 0 0 = c 4 0 ∧ h 0 1 = c 4 1) {X Y dx dy : Int} (hX : 0 ≤ X ∧ X < 9) (hx : 0 ≤ dx ∧ dx < 3) : f_near h (X + 10 * Y) (dx + 3 * dy) = if k_isIn c (X - 1 + dx) (Y - 1 + dy) = 0 then -1 else (X - 1 + dx) + 10 * (Y - 1 + dy) := by
  rw [ti_isIn hH]
  unfold f_near f_has
  have e1 : (X + 10 * Y) % 10 + (dx + 3 * dy) % 3 - 1 = X - 1 + dx := by omega
  have e2 : (X + 10 * Y) / 10 + (dx + 3 * dy) / 3 - 1 = Y - 1 + dy := by omega
  rw [e1, e2]
  by_cases g : (0 ≤ X - 1 + dx ∧ X - 1 + dx < h 0 0) ∧ 0 ≤ Y - 1 + dy ∧ Y - 1 + dy < h 0 1
  · have e3 : (if 0 ≤ X - 1 + dx ∧ X - 1 + dx < h 0 0 ∧ 0 ≤ Y - 1 + dy ∧ Y - 1 + dy < h 0 1 then (1 : Int) else 0) = 1 := if_pos ⟨g.1.1, g.1.2, g.2⟩
    rw [if_pos g, e3, if_neg (by decide)]
  · have e3 : (if 0 ≤ X - 1 + dx ∧ X - 1 + dx < h 0 0 ∧ 0 ≤ Y - 1 + dy ∧ Y - 1 + dy < h 0 1 then (1 : Int) else 0) = 0 := if_neg (fun g2 => g ⟨⟨g2.1, g2.2.1⟩, g2.2.2⟩)
    rw [if_neg g, e3, if_pos rfl]
theorem ti_inb {h c : am_F} (hH : h 0 0 = c 4 0 ∧ h 0 1 = c 4 1) (hV : HbV h) {x y : Int} (hi : ¬ k_isIn c x y = 0) : (0 ≤ x ∧ x < 9) ∧ 0 ≤ y ∧ y < 9 := by
  obtain ⟨v1, v2, v3, v4, -⟩ := hV
  rw [ti_isIn hH] at hi
  rcases f_has_x h x y with g | g
  · exact absurd g hi
  · omega
theorem ti_mixr {h c r q : am_F} {s k : Int} (hH : h 0 0 = c 4 0 ∧ h 0 1 = c 4 1) (hV : HbV h) (hX : 0 ≤ c (82 + k.toNat) 1 ∧ c (82 + k.toNat) 1 < 9) (hs : 0 ≤ s) (hB : FgB r 20000) (hF : TF 265 (s + 1) r q) : am_fold (g_k_mixes_11 c q k) (c (82 + k.toNat) 2 - 1) ((c (82 + k.toNat) 2 + 1) + 1 - (c (82 + k.toNat) 2 - 1)).toNat (0, 0) = f_mixr h r ((s + 1) * 90) (c (82 + k.toNat) 1 + 10 * c (82 + k.toNat) 2) := by
  generalize hXe : c (82 + k.toNat) 1 = X at *
  generalize hYe : c (82 + k.toNat) 2 = Y at *
  rw [show ((Y + 1) + 1 - (Y - 1)).toNat = 3 by omega, ti_from]
  unfold f_mixr
  rw [show (9 : Nat) = 3 * 3 from rfl, ti_nest0]
  refine (ti_rel (R := fun j (x y : Int × Int) => y = x ∧ (0 ≤ x.1 ∧ x.1 ≤ 20000 * (3 * j))) 3 0 (0, 0) (0, 0) ⟨rfl, by decide, by decide⟩ fun j x y h1 h2 hR => ?_).1
  obtain ⟨rfl, hR⟩ := hR
  have e : g_k_mixes_11 c q k (Y - 1 + j) y = am_fold (g_k_mixes_28 c q (Y - 1 + j)) (X - 1) ((X + 1) + 1 - (X - 1)).toNat y := by rw [← hXe]; rfl
  rw [e, show ((X + 1) + 1 - (X - 1)).toNat = 3 by omega, ti_from]
  have h9 := ti_rel (R := fun i (x y : Int × Int) => y = x ∧ (0 ≤ x.1 ∧ x.1 ≤ 20000 * (3 * j + i))) (f := fun i => g_mixr h r ((s + 1) * 90) (X + 10 * Y) (i + ((3 : Nat) : Int) * j)) (g := fun i => g_k_mixes_28 c q (Y - 1 + j) (X - 1 + i)) 3 0 y y ⟨rfl, by omega, by omega⟩ (fun i x z h3 h4 hR => by
    obtain ⟨rfl, hR⟩ := hR
    have e2 := ti_near (dy := j) (Y := Y) hH hX (show 0 ≤ i ∧ i < 3 by omega)
    show g_k_mixes_28 c q (Y - 1 + j) (X - 1 + i) z = g_mixr h r ((s + 1) * 90) (X + 10 * Y) (i + 3 * j) z ∧ 0 ≤ (g_mixr h r ((s + 1) * 90) (X + 10 * Y) (i + 3 * j) z).1 ∧ (g_mixr h r ((s + 1) * 90) (X + 10 * Y) (i + 3 * j) z).1 ≤ 20000 * (3 * j + (i + 1))
    unfold g_mixr
    by_cases hi : k_isIn c (X - 1 + i) (Y - 1 + j) = 0
    · rw [if_pos hi] at e2
      rw [if_pos e2]
      refine ⟨?_, by omega, by omega⟩
      show ((if k_isIn c (X - 1 + i) (Y - 1 + j) = 0 then z.1 else _), (if k_isIn c (X - 1 + i) (Y - 1 + j) = 0 then z.2 else _)) = z
      rw [if_pos hi, if_pos hi]
    · rw [if_neg hi] at e2
      obtain ⟨b1, b2⟩ := ti_inb hH hV hi
      rw [if_neg (by omega), e2]
      have e3 := hF.1 (X - 1 + i) (Y - 1 + j) b1.1 b1.2 b2.1 b2.2
      have hb := hB ((s + 1) * 90 + (X - 1 + i + 10 * (Y - 1 + j))).toNat
      refine ⟨?_, by show 0 ≤ z.1 + _; omega, by show z.1 + _ ≤ _; omega⟩
      show ((if k_isIn c (X - 1 + i) (Y - 1 + j) = 0 then z.1 else am_w32 (z.1 + q 265 ((X - 1 + i) + 9 * (Y - 1 + j)).toNat)), (if k_isIn c (X - 1 + i) (Y - 1 + j) = 0 then z.2 else z.2 + 1)) = _
      rw [if_neg hi, if_neg hi, ← e3, ti_w ⟨by omega, by omega⟩])
  refine ⟨h9.1, h9.2.1, ?_⟩
  have := h9.2.2
  omega
theorem ti_mixr_n {h c r : am_F} {row X Y : Int} (hH : h 0 0 = c 4 0 ∧ h 0 1 = c 4 1) (hV : HbV h) (hX : 0 ≤ X ∧ X < c 4 0) (hY : 0 ≤ Y ∧ Y < c 4 1) : 1 ≤ (f_mixr h r row (X + 10 * Y)).2 := by
  obtain ⟨v1, v2, v3, v4, -⟩ := id hV
  have h9 := am_fold_inv (P := fun i (x : Int × Int) => 0 ≤ x.2 ∧ (5 ≤ i → 1 ≤ x.2)) (g := g_mixr h r row (X + 10 * Y)) 9 0 (0, 0) ⟨by decide, by decide⟩ (fun j y h1 h2 hP => by
    unfold g_mixr
    by_cases e : f_near h (X + 10 * Y) j = -1
    · rw [if_pos e]
      refine ⟨hP.1, fun h5 => ?_⟩
      by_cases e4 : j = 4
      · have e2 := ti_near (dx := 1) (dy := 1) (Y := Y) hH (show 0 ≤ X ∧ X < 9 by omega) (by decide)
        rw [show (1 : Int) + 3 * 1 = j by omega, e, if_neg (by rw [ti_isIn hH]; unfold f_has; rw [hH.1, hH.2, if_pos (by omega)]; decide)] at e2
        omega
      · exact hP.2 (by omega)
    · rw [if_neg e]
      exact ⟨by show 0 ≤ y.2 + 1; omega, fun _ => by show 1 ≤ y.2 + 1; omega⟩)
  exact h9.2 (by decide)
def TSt (h c : am_F) : Prop := h 0 6 = c 4 10 ∧ ∀ i : Int, 0 ≤ i → i < c 4 10 → f_at (h 0 6) (h 4) i 0 = c (82 + i.toNat) 0 ∧ f_at (h 0 6) (h 4) i 1 = c (82 + i.toNat) 1 + 10 * c (82 + i.toNat) 2 ∧ (0 ≤ c (82 + i.toNat) 1 ∧ c (82 + i.toNat) 1 < c 4 0) ∧ 0 ≤ c (82 + i.toNat) 2 ∧ c (82 + i.toNat) 2 < c 4 1
theorem ti_mix {b : Prop} {L : Int} {h c r q : am_F} {s k : Int} (hH : h 0 0 = c 4 0 ∧ h 0 1 = c 4 1) (hV : HbV h) (hL : L ≤ 7) (hX : 0 ≤ c (82 + k.toNat) 1 ∧ c (82 + k.toNat) 1 < c 4 0) (hY : 0 ≤ c (82 + k.toNat) 2 ∧ c (82 + k.toNat) 2 < c 4 1) (hs : 0 ≤ s ∧ s < 40) (hB : FgB r 10100) (hF : TF 265 (s + 1) r q) (hS : b → TS L (s + 1) r q) : TF 265 (s + 1) (f_mix h r ((s + 1) * 90) (c (82 + k.toNat) 1 + 10 * c (82 + k.toNat) 2)) (k_mixes c q k) ∧ (b → TS L (s + 1) (f_mix h r ((s + 1) * 90) (c (82 + k.toNat) 1 + 10 * c (82 + k.toNat) 2)) (k_mixes c q k)) := by
  obtain ⟨v1, v2, v3, v4, -⟩ := id hV
  have hB2 : FgB r 20000 := fun j => by have := hB j; omega
  have hr := ti_mixr (k := k) hH hV ⟨hX.1, by omega⟩ hs.1 hB2 hF
  have hn := ti_mixr_n (r := r) (row := (s + 1) * 90) hH hV hX hY
  have hb := f_mixrB (h := h) (row := (s + 1) * 90) (cell := c (82 + k.toNat) 1 + 10 * c (82 + k.toNat) 2) hB
  have e0 : k_mixes c q k = am_put (am_fold (g_k_mixes_89 c k (am_fold (g_k_mixes_11 c q k) (c (82 + k.toNat) 2 - 1) ((c (82 + k.toNat) 2 + 1) + 1 - (c (82 + k.toNat) 2 - 1)).toNat (0, 0)).1 (am_fold (g_k_mixes_11 c q k) (c (82 + k.toNat) 2 - 1) ((c (82 + k.toNat) 2 + 1) + 1 - (c (82 + k.toNat) 2 - 1)).toNat (0, 0)).2) (c (82 + k.toNat) 2 - 1) ((c (82 + k.toNat) 2 + 1) + 1 - (c (82 + k.toNat) 2 - 1)).toNat q) 265 (c (82 + k.toNat) 1 + 9 * c (82 + k.toNat) 2).toNat (am_w32 (am_fold (g_k_mixes_89 c k (am_fold (g_k_mixes_11 c q k) (c (82 + k.toNat) 2 - 1) ((c (82 + k.toNat) 2 + 1) + 1 - (c (82 + k.toNat) 2 - 1)).toNat (0, 0)).1 (am_fold (g_k_mixes_11 c q k) (c (82 + k.toNat) 2 - 1) ((c (82 + k.toNat) 2 + 1) + 1 - (c (82 + k.toNat) 2 - 1)).toNat (0, 0)).2) (c (82 + k.toNat) 2 - 1) ((c (82 + k.toNat) 2 + 1) + 1 - (c (82 + k.toNat) 2 - 1)).toNat q 265 (c (82 + k.toNat) 1 + 9 * c (82 + k.toNat) 2).toNat + (am_fold (g_k_mixes_11 c q k) (c (82 + k.toNat) 2 - 1) ((c (82 + k.toNat) 2 + 1) + 1 - (c (82 + k.toNat) 2 - 1)).toNat (0, 0)).1.tmod (am_fold (g_k_mixes_11 c q k) (c (82 + k.toNat) 2 - 1) ((c (82 + k.toNat) 2 + 1) + 1 - (c (82 + k.toNat) 2 - 1)).toNat (0, 0)).2)) := rfl
  rw [e0, hr]
  unfold f_mix
  rw [if_neg (by omega)]
  generalize hR : f_mixr h r ((s + 1) * 90) (c (82 + k.toNat) 1 + 10 * c (82 + k.toNat) 2) = R at *
  obtain ⟨all, many⟩ := R
  simp only [] at hn hb ⊢
  generalize hXe : c (82 + k.toNat) 1 = X at *
  generalize hYe : c (82 + k.toNat) 2 = Y at *
  have hsh : all.tdiv many = all / many := am_td hb.2.1
  have hmd : all.tmod many = all - all / many * many := by rw [am_tm hb.2.1, Int.emod_def, Int.mul_comm]
  have hq1 : 0 ≤ all / many := Int.ediv_nonneg hb.2.1 (by omega)
  have hq2 : all / many ≤ 10100 := Int.ediv_le_of_le_mul (by omega) (by rw [Int.mul_comm] at hb; have := hb.2.2; rw [Int.mul_comm] at this; omega)
  have hq3 : 0 ≤ all - all / many * many ∧ all - all / many * many < many := by
    rw [← hmd, am_tm hb.2.1]
    exact ⟨Int.emod_nonneg _ (by omega), Int.emod_lt_of_pos _ (by omega)⟩
  rw [hmd]
  -- the cells are written
  have hw : TF 265 (s + 1) (f_mixw h r ((s + 1) * 90) (X + 10 * Y) (all / many)) (am_fold (g_k_mixes_89 c k all many) (Y - 1) ((Y + 1) + 1 - (Y - 1)).toNat q) ∧ FgB (f_mixw h r ((s + 1) * 90) (X + 10 * Y) (all / many)) 10100 ∧ (b → TS L (s + 1) (f_mixw h r ((s + 1) * 90) (X + 10 * Y) (all / many)) (am_fold (g_k_mixes_89 c k all many) (Y - 1) ((Y + 1) + 1 - (Y - 1)).toNat q)) := by
    rw [show ((Y + 1) + 1 - (Y - 1)).toNat = 3 by omega, ti_from]
    unfold f_mixw
    rw [show (9 : Nat) = 3 * 3 from rfl, ti_nest0]
    refine ti_rel0 (R := fun r q => TF 265 (s + 1) r q ∧ FgB r 10100 ∧ (b → TS L (s + 1) r q)) 3 0 r q ⟨hF, hB, hS⟩ fun j r q h1 h2 hR => ?_
    have e : g_k_mixes_89 c k all many (Y - 1 + j) q = am_fold (g_k_mixes_106 c all many (Y - 1 + j)) (X - 1) ((X + 1) + 1 - (X - 1)).toNat q := by rw [← hXe]; rfl
    rw [e, show ((X + 1) + 1 - (X - 1)).toNat = 3 by omega, ti_from (g_k_mixes_106 c all many (Y - 1 + j))]
    refine ti_rel0 (R := fun r q => TF 265 (s + 1) r q ∧ FgB r 10100 ∧ (b → TS L (s + 1) r q)) 3 0 r q hR fun i r q h3 h4 hR => ?_
    obtain ⟨g1, g2, g3⟩ := hR
    have e2 := ti_near (dy := j) (Y := Y) hH (show 0 ≤ X ∧ X < 9 by omega) (show 0 ≤ i ∧ i < 3 by omega)
    show TF 265 (s + 1) (g_mixw h ((s + 1) * 90) (X + 10 * Y) (all / many) (i + 3 * j) r) (g_k_mixes_106 c all many (Y - 1 + j) (X - 1 + i) q) ∧ FgB (g_mixw h ((s + 1) * 90) (X + 10 * Y) (all / many) (i + 3 * j) r) 10100 ∧ (b → TS L (s + 1) (g_mixw h ((s + 1) * 90) (X + 10 * Y) (all / many) (i + 3 * j) r) (g_k_mixes_106 c all many (Y - 1 + j) (X - 1 + i) q))
    unfold g_mixw g_k_mixes_106
    by_cases hi : k_isIn c (X - 1 + i) (Y - 1 + j) = 0
    · rw [if_pos hi] at e2
      rw [if_pos e2, if_pos hi]
      exact ⟨g1, g2, g3⟩
    · rw [if_neg hi] at e2
      obtain ⟨b1, b2⟩ := ti_inb hH hV hi
      rw [if_neg (by omega), e2, if_neg hi, hsh]
      exact ⟨TF_put g1 (by omega) b1 b2, am_upB g2 ⟨hq1, hq2⟩, fun hb => TS_1 (TS_q (g3 hb) hL (by omega) 265 _ _ (by omega)) hL (by omega) _ _⟩
  obtain ⟨w1, w2, w3⟩ := hw
  have e9 : am_w32 (am_fold (g_k_mixes_89 c k all many) (Y - 1) ((Y + 1) + 1 - (Y - 1)).toNat q 265 (X + 9 * Y).toNat + (all - all / many * many)) = f_mixw h r ((s + 1) * 90) (X + 10 * Y) (all / many) 1 ((s + 1) * 90 + (X + 10 * Y)).toNat + (all - all / many * many) := by
    rw [w1.1 X Y hX.1 (by omega) hY.1 (by omega)]
    have := w2 ((s + 1) * 90 + (X + 10 * Y)).toNat
    rw [w1.1 X Y hX.1 (by omega) hY.1 (by omega)] at this
    exact ti_w ⟨by omega, by omega⟩
  rw [e9]
  exact ⟨TF_put w1 (by omega) ⟨hX.1, by omega⟩ ⟨hY.1, by omega⟩, fun hb => TS_1 (TS_q (w3 hb) hL (by omega) 265 _ _ (by omega)) hL (by omega) _ _⟩
theorem ti_mixAll {b : Prop} {L : Int} {h c r q : am_F} {s : Int} (hH : h 0 0 = c 4 0 ∧ h 0 1 = c 4 1) (hV : HbV h) (hSt : StB h) (hT : TSt h c) (hL : L ≤ 7) (hs : 0 ≤ s ∧ s < 40) (hB : FgB r 10000) (hF : TF 265 (s + 1) r q) (hS : b → TS L (s + 1) r q) : TF 265 (s + 1) (f_mixAll h r s) (am_fold (g_k_stepGoes_72 c s) 0 (c 4 10).toNat q) ∧ (b → TS L (s + 1) (f_mixAll h r s) (am_fold (g_k_stepGoes_72 c s) 0 (c 4 10).toNat q)) := by
  obtain ⟨v1, v2, v3, v4, v5, v6, v7, v8, v9, v10, v11, v12, v13, v14, v15, v16, v17, v18, v19, v20, v21, v22⟩ := id hV
  unfold f_mixAll
  rw [hT.1]
  have h9 := ti_rel (R := fun i r q => FgB r (10000 + 8 * i) ∧ TF 265 (s + 1) r q ∧ (b → TS L (s + 1) r q)) (f := g_mixAll h s) (g := g_k_stepGoes_72 c s) (c 4 10).toNat 0 r q ⟨hB, hF, hS⟩ (fun i r q h1 h2 hR => by
    obtain ⟨g1, g2, g3⟩ := hR
    have hi : i < c 4 10 := by have := hT.1; omega
    obtain ⟨a1, a2, a3, a4⟩ := hT.2 i h1 hi
    have h6 := hT.1
    unfold g_mixAll g_k_stepGoes_72
    rw [a1]
    by_cases e : c (82 + i.toNat) 0 = s
    · rw [if_pos e, if_pos e]
      refine ⟨?_, ?_⟩
      · have := (f_mixB (cell := f_at (h 0 6) (h 4) i 1) hV g1 hs.1 (hSt i)).1
        rwa [show 10000 + 8 * i + 8 = 10000 + 8 * (i + 1) by omega] at this
      · rw [a2]
        exact ti_mix hH hV hL a3 a4 hs (fun j => by have := g1 j; omega) g2 g3
    · rw [if_neg e, if_neg e]
      exact ⟨fun j => by have := g1 j; omega, g2, g3⟩)
  exact h9.2
theorem ti_spill {b : Prop} {L : Int} {r q : am_F} {s : Int} (hL : L ≤ 7) (hs : 0 ≤ s ∧ s < 40) (hB : FgB r 20000) (hF : TF 265 (s + 1) r q) (hS : b → TS L (s + 1) r q) : TF 265 (s + 1) (f_spill r (s + 1)) (am_fold (g_k_stepGoes_113 s) 0 81 q) ∧ (b → TS L (s + 1) (f_spill r (s + 1)) (am_fold (g_k_stepGoes_113 s) 0 81 q)) := by
  unfold f_spill
  have h9 := ti_rows (R := fun _ _ r q => FgB r 20000 ∧ TF 265 (s + 1) r q ∧ (b → TS L (s + 1) r q)) (f := g_spill (s + 1)) (g := g_k_stepGoes_113 s) ((s + 1) * 90) r q ⟨hB, hF, hS⟩ (fun i j r q h1 h2 h3 h4 hR => by
    obtain ⟨g1, g2, g3⟩ := hR
    have e := g2.1 i j h1 h2 h3 h4
    have hb := g1 ((s + 1) * 90 + (i + 10 * j)).toNat
    unfold g_spill g_k_stepGoes_113
    rw [e] at hb ⊢
    generalize hv : q 265 (i + 9 * j).toNat = v at *
    by_cases h5 : 99 < v
    · rw [if_pos h5, if_neg (show ¬ v ≤ 99 by omega)]
      have e1 : am_w32 (v - 99) = v - 99 := ti_w ⟨by omega, by omega⟩
      simp only [e1]
      rw [show v - (v - 99) = 99 by omega, ti_w (show am_i32 99 from ⟨by decide, by decide⟩)]
      refine ⟨am_upB g1 ⟨by decide, by decide⟩, TF_k (TF_put (r := am_put r 3 (s + 1).toNat (am_w32 (r 3 (s + 1).toNat + (v - 99)))) (v := 99) (TF_k g2 (am_put_kr (by decide)) rfl) (by omega) ⟨h1, h2⟩ ⟨h3, h4⟩) rfl (am_put_kr (by omega)), fun hb => ?_⟩
      have hS9 := g3 hb
      have e2 : q (201 + (s + 1).toNat) 1 = r 3 (s + 1).toNat := hS9.1.1.symm
      rw [e2]
      exact TS_1 (TS_3 (TS_q hS9 hL (by omega) 265 _ _ (by omega)) hL (by omega) (ti_ww _)) hL (by omega) _ _
    · rw [if_neg h5, if_pos (show v ≤ 99 by omega)]
      simp only []
      rw [Int.sub_zero, Int.add_zero, ti_w (show am_i32 v from ⟨by omega, by omega⟩)]
      refine ⟨g1, TF_k (TF_q g2 ⟨h1, h2⟩ ⟨h3, h4⟩ hv.symm) rfl (am_put_kr (by omega)), fun hb => ?_⟩
      have hS9 := g3 hb
      have e2 : q (201 + (s + 1).toNat) 1 = r 3 (s + 1).toNat := hS9.1.1.symm
      have e3 := TS_3 (v := am_w32 (r 3 (s + 1).toNat)) (TS_q hS9 hL (by omega) 265 (i + 9 * j).toNat v (by omega)) hL (by omega) (ti_ww _)
      rw [e2]
      rw [hS9.1.2] at e3 ⊢
      rwa [am_put_same] at e3) (fun j r q h1 h2 hR => by
    obtain ⟨g1, g2, g3⟩ := hR
    have e := g2.2 j h1 h2
    refine ⟨?_, ?_⟩
    · unfold g_spill
      rw [e, if_neg (by decide)]
      exact g1
    · unfold g_spill
      rw [e, if_neg (by decide)]
      exact ⟨g2, g3⟩)
  exact h9.2
