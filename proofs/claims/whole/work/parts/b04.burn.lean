/-! THE TIE: lamps, what is thinned -/
def TB (L p lp tot : Int) (r q : am_F) : Prop := T3 p r q ∧ T5 p r q ∧ T6 p r q ∧ T8 L r q ∧ T9 r q ∧ am_w32 (r 4 p.toNat + tot) = q (201 + p.toNat) 2 ∧ ∀ l : Int, 0 ≤ l → l < L → (l = lp → am_w32 (r 7 (l * 41 + p).toNat + tot) = q (243 + l.toNat) p.toNat) ∧ (l ≠ lp → r 7 (l * 41 + p).toNat = q (243 + l.toNat) p.toNat ∧ am_w32 (r 7 (l * 41 + p).toNat) = r 7 (l * 41 + p).toNat)
theorem TB_of {L p lp : Int} {r q : am_F} (h : TS L p r q) : TB L p lp 0 r q := by
  obtain ⟨h3, h4, h5, h6, h7, h8, h9⟩ := h
  refine ⟨h3, h5, h6, h8, h9, by rw [Int.add_zero, h4.2]; exact h4.1, fun l a1 a2 => ⟨fun _ => ?_, fun _ => h7 l a1 a2⟩⟩
  rw [Int.add_zero, (h7 l a1 a2).2]
  exact (h7 l a1 a2).1
theorem TB_end {L p lp tot : Int} {r q : am_F} (h : TB L p lp tot r q) (hL : L ≤ 7) (hp : 0 ≤ p ∧ p ≤ 40) (hl : 0 ≤ lp ∧ lp < L) : TS L p (am_put (am_put r 7 (lp * 41 + p).toNat (am_w32 (r 7 (lp * 41 + p).toNat + tot))) 4 p.toNat (am_w32 (r 4 p.toNat + tot))) q := by
  obtain ⟨h3, h5, h6, h8, h9, h4, h7⟩ := h
  refine ⟨?_, ⟨?_, ?_⟩, ?_, ?_, ?_, ?_, ?_⟩
  · unfold T3; simp (disch := omega) only [am_put_k]; exact h3
  · rw [am_put_s]; exact h4
  · rw [am_put_s]; exact ti_ww _
  · unfold T5; simp (disch := omega) only [am_put_k]; exact h5
  · unfold T6; simp (disch := omega) only [am_put_k]; exact h6
  · intro l a1 a2
    have h7l := h7 l a1 a2
    rw [am_put_k (by decide)]
    by_cases e : l = lp
    · have h8l := h7l.1 e
      rw [e] at h8l ⊢
      rw [am_put_s]
      exact ⟨h8l, ti_ww _⟩
    · rw [am_put_i (by omega)]
      exact h7l.2 e
  · intro l x y a1 a2 a3 a4 a5 a6; simp (disch := omega) only [am_put_k]; exact h8 l x y a1 a2 a3 a4 a5 a6
  · intro a e a1 a2 a3 a4; simp (disch := omega) only [am_put_k]; exact h9 a e a1 a2 a3 a4
theorem TB_step {L p lp tot n X Y v w : Int} {r q : am_F} {i : Nat} (h : TB L p lp tot r q) (hL : L ≤ 7) (hp : 0 ≤ p ∧ p ≤ 40) (hl : 0 ≤ lp ∧ lp < L) (hX : 0 ≤ X ∧ X < 9) (hY : 0 ≤ Y ∧ Y < 9) :
    TB L p lp (tot + n) (am_put (am_put r 1 i v) 8 (lp * 90 + (X + 10 * Y)).toNat (am_w32 (r 8 (lp * 90 + (X + 10 * Y)).toNat + n))) (am_put (am_put (am_put (am_put q 265 (X + 9 * Y).toNat w) (201 + p.toNat) 2 (am_w32 (q (201 + p.toNat) 2 + n))) (243 + lp.toNat) p.toNat (am_w32 (q (243 + lp.toNat) p.toNat + n))) (251 + lp.toNat) (X + 9 * Y).toNat (am_w32 (q (251 + lp.toNat) (X + 9 * Y).toNat + n))) := by
  obtain ⟨h3, h5, h6, h8, h9, h4, h7⟩ := h
  refine ⟨?_, ?_, ?_, ?_, ?_, ?_, ?_⟩
  · unfold T3; simp (disch := omega) only [am_put_k, am_put_i]; exact h3
  · unfold T5; simp (disch := omega) only [am_put_k, am_put_i]; exact h5
  · unfold T6; simp (disch := omega) only [am_put_k, am_put_i]; exact h6
  · intro l x y a1 a2 a3 a4 a5 a6
    by_cases e1 : l = lp
    · by_cases e2 : x = X ∧ y = Y
      · rw [e1, e2.1, e2.2, am_put_s, am_put_s, (h8 lp X Y hl.1 hl.2 hX.1 hX.2 hY.1 hY.2).1]
        exact ⟨rfl, ti_ww _⟩
      · rw [e1, am_put_i (by omega), am_put_i (by omega)]
        simp (disch := omega) only [am_put_k]
        exact h8 lp x y hl.1 hl.2 a3 a4 a5 a6
    · rw [am_put_i (by omega)]
      simp (disch := omega) only [am_put_k]
      exact h8 l x y a1 a2 a3 a4 a5 a6
  · intro a e a1 a2 a3 a4; simp (disch := omega) only [am_put_k]; exact h9 a e a1 a2 a3 a4
  · simp (disch := omega) only [am_put_k, am_put_s]
    rw [← h4, ti_wadd, Int.add_assoc]
  · intro l a1 a2
    have h7l := h7 l a1 a2
    refine ⟨fun e => ?_, fun e => ?_⟩
    · have h8l := h7l.1 e
      rw [e] at h8l ⊢
      simp (disch := omega) only [am_put_k, am_put_s]
      rw [← h8l, ti_wadd, Int.add_assoc]
    · simp (disch := omega) only [am_put_k]
      exact h7l.2 e
theorem ti_burn {b : Prop} {L : Int} {h c r q : am_F} {s k burns : Int} (hH : h 0 0 = c 4 0 ∧ h 0 1 = c 4 1) (hV : HbV h) (hL : L ≤ 7) (hk : 0 ≤ k ∧ k < L) (hX : 0 ≤ c (67 + k.toNat) 0 ∧ c (67 + k.toNat) 0 < 9) (hbu : c (67 + k.toNat) 2 = burns) (hb0 : 0 ≤ burns) (hs : 0 ≤ s ∧ s < 40) (hB : FgB r 99) (hF : TF 265 (s + 1) r q) (hS : b → TS L (s + 1) r q) : TF 265 (s + 1) (f_burn h r (s + 1) k (c (67 + k.toNat) 0 + 10 * c (67 + k.toNat) 1) burns) (k_burns c q k s) ∧ (b → TS L (s + 1) (f_burn h r (s + 1) k (c (67 + k.toNat) 0 + 10 * c (67 + k.toNat) 1) burns) (k_burns c q k s)) := by
  obtain ⟨v1, v2, v3, v4, -⟩ := id hV
  have e0 : k_burns c q k s = am_fold (g_k_burns_11 c k s) (c (67 + k.toNat) 1 - 1) ((c (67 + k.toNat) 1 + 1) + 1 - (c (67 + k.toNat) 1 - 1)).toNat q := rfl
  have e1 : ∀ y q, g_k_burns_11 c k s y q = am_fold (g_k_burns_37 c k s y) (c (67 + k.toNat) 0 - 1) ((c (67 + k.toNat) 0 + 1) + 1 - (c (67 + k.toNat) 0 - 1)).toNat q := fun _ _ => rfl
  have hgo : TF 265 (s + 1) (f_burnl h r (s + 1) k (c (67 + k.toNat) 0 + 10 * c (67 + k.toNat) 1) burns).2 (k_burns c q k s) ∧ (b → TB L (s + 1) k (f_burnl h r (s + 1) k (c (67 + k.toNat) 0 + 10 * c (67 + k.toNat) 1) burns).1 (f_burnl h r (s + 1) k (c (67 + k.toNat) 0 + 10 * c (67 + k.toNat) 1) burns).2 (k_burns c q k s)) := by
    rw [e0]
    generalize hXe : c (67 + k.toNat) 0 = X at *
    generalize hYe : c (67 + k.toNat) 1 = Y at *
    unfold f_burnl
    rw [show ((Y + 1) + 1 - (Y - 1)).toNat = 3 by omega, ti_from (g_k_burns_11 c k s), show (9 : Nat) = 3 * 3 from rfl, ti_nest0]
    refine (ti_rel0 (R := fun (x : Int × am_F) q => FgB x.2 99 ∧ TF 265 (s + 1) x.2 q ∧ (b → TB L (s + 1) k x.1 x.2 q)) 3 0 (0, r) q ⟨hB, hF, fun hb => TB_of (hS hb)⟩ fun j x q h1 h2 hR => ?_).2
    rw [e1, show ((X + 1) + 1 - (X - 1)).toNat = 3 by omega, ti_from (g_k_burns_37 c k s (Y - 1 + j))]
    refine ti_rel0 (R := fun (x : Int × am_F) q => FgB x.2 99 ∧ TF 265 (s + 1) x.2 q ∧ (b → TB L (s + 1) k x.1 x.2 q)) 3 0 x q hR fun i x q h3 h4 hR => ?_
    obtain ⟨tot, r⟩ := x
    obtain ⟨g1, g2, g3⟩ := hR
    simp only [] at g1 g2 g3
    have e2 := ti_near (dy := j) (Y := Y) hH (show 0 ≤ X ∧ X < 9 by omega) (show 0 ≤ i ∧ i < 3 by omega)
    show FgB (g_burn h (s + 1) k (X + 10 * Y) burns (i + 3 * j) (tot, r)).2 99 ∧ TF 265 (s + 1) (g_burn h (s + 1) k (X + 10 * Y) burns (i + 3 * j) (tot, r)).2 (g_k_burns_37 c k s (Y - 1 + j) (X - 1 + i) q) ∧ (b → TB L (s + 1) k (g_burn h (s + 1) k (X + 10 * Y) burns (i + 3 * j) (tot, r)).1 (g_burn h (s + 1) k (X + 10 * Y) burns (i + 3 * j) (tot, r)).2 (g_k_burns_37 c k s (Y - 1 + j) (X - 1 + i) q))
    unfold g_burn g_k_burns_37
    by_cases hi : k_isIn c (X - 1 + i) (Y - 1 + j) = 0
    · rw [if_pos hi] at e2
      rw [if_pos e2]
      simp only []
      rw [if_pos hi]
      exact ⟨g1, g2, g3⟩
    · rw [if_neg hi] at e2
      obtain ⟨b1, b2⟩ := ti_inb hH hV hi
      rw [if_neg (by omega), e2]
      simp only []
      rw [if_neg hi, hbu]
      have e3 := g2.1 (X - 1 + i) (Y - 1 + j) b1.1 b1.2 b2.1 b2.2
      have hb := g1 ((s + 1) * 90 + (X - 1 + i + 10 * (Y - 1 + j))).toNat
      have e4 : f_takes r (s + 1) burns (X - 1 + i + 10 * (Y - 1 + j)) = k_less burns (q 265 ((X - 1 + i) + 9 * (Y - 1 + j)).toNat) := by
        unfold f_takes k_less
        rw [e3]
        by_cases g : q 265 ((X - 1 + i) + 9 * (Y - 1 + j)).toNat < burns
        · rw [if_pos g, if_pos (by omega)]
        · rw [if_neg g]
          split <;> omega
      rw [e4]
      have hn : 0 ≤ k_less burns (q 265 ((X - 1 + i) + 9 * (Y - 1 + j)).toNat) ∧ k_less burns (q 265 ((X - 1 + i) + 9 * (Y - 1 + j)).toNat) ≤ q 265 ((X - 1 + i) + 9 * (Y - 1 + j)).toNat := by
        rw [e3] at hb
        unfold k_less
        split <;> omega
      rw [e3] at hb ⊢
      generalize hne : k_less burns (q 265 ((X - 1 + i) + 9 * (Y - 1 + j)).toNat) = n at *
      generalize hve : q 265 ((X - 1 + i) + 9 * (Y - 1 + j)).toNat = v at *
      rw [ti_w (show am_i32 (v - n) from ⟨by omega, by omega⟩)]
      simp (disch := omega) only [am_put_k]
      refine ⟨am_upB g1 ⟨by omega, by omega⟩, ?_, fun hb => TB_step (g3 hb) hL (by omega) hk b1 b2⟩
      exact TF_k (TF_put g2 (by omega) b1 b2) (am_put_kr (by decide)) (((am_put_kr (by omega)).trans (am_put_kr (by omega))).trans (am_put_kr (by omega)))
  unfold f_burn
  exact ⟨TF_k hgo.1 ((am_put_kr (by decide)).trans (am_put_kr (by decide))) rfl, fun hb => TB_end (hgo.2 hb) hL (by omega) hk⟩
/-- the lamps of both sides, the one more too -/
def TLp (h c r : am_F) : Prop := (∀ i : Int, 0 ≤ i → i < h 0 5 → f_at (h 0 5) (h 3) i 0 = c (67 + i.toNat) 0 + 10 * c (67 + i.toNat) 1 ∧ (0 ≤ c (67 + i.toNat) 0 ∧ c (67 + i.toNat) 0 < 9) ∧ f_at (h 0 5) (h 3) i 1 = c (67 + i.toNat) 2) ∧ ((r 0 4 = -1 ∧ c 0 45 = h 0 5) ∨ (r 0 4 ≠ -1 ∧ c 0 45 = h 0 5 + 1 ∧ r 0 4 = c (67 + (h 0 5).toNat) 0 + 10 * c (67 + (h 0 5).toNat) 1 ∧ (0 ≤ c (67 + (h 0 5).toNat) 0 ∧ c (67 + (h 0 5).toNat) 0 < 9) ∧ r 0 5 = c (67 + (h 0 5).toNat) 2 ∧ 0 ≤ r 0 5))
theorem ti_burnAll {b : Prop} {h c r q : am_F} {s : Int} (hH : h 0 0 = c 4 0 ∧ h 0 1 = c 4 1) (hV : HbV h) (hLp : LpB h) (hT : TLp h c r) (hs : 0 ≤ s ∧ s < 40) (hB : FgB r 99) (hF : TF 265 (s + 1) r q) (hS : b → TS (c 0 45) (s + 1) r q) : TF 265 (s + 1) (f_burnAll h r (s + 1)) (am_fold (g_k_stepGoes_176 c s) 0 (c 0 45).toNat q) ∧ (b → TS (c 0 45) (s + 1) (f_burnAll h r (s + 1)) (am_fold (g_k_stepGoes_176 c s) 0 (c 0 45).toNat q)) := by
  obtain ⟨v1, v2, v3, v4, v5, v6, v7, v8, v9, v10, v11, v12, v13, v14, v15, v16, v17, v18, v19, v20, v21, v22⟩ := id hV
  have hL : c 0 45 ≤ 7 := by rcases hT.2 with ⟨a1, a2⟩ | ⟨a1, a2, -⟩ <;> omega
  have hL5 : h 0 5 ≤ c 0 45 := by rcases hT.2 with ⟨a1, a2⟩ | ⟨a1, a2, -⟩ <;> omega
  have hbs : FgB (f_burns h r (s + 1)) 99 ∧ TF 265 (s + 1) (f_burns h r (s + 1)) (am_fold (g_k_stepGoes_176 c s) 0 (h 0 5).toNat q) ∧ (b → TS (c 0 45) (s + 1) (f_burns h r (s + 1)) (am_fold (g_k_stepGoes_176 c s) 0 (h 0 5).toNat q)) := by
    unfold f_burns
    refine ti_rel0 (R := fun r q => FgB r 99 ∧ TF 265 (s + 1) r q ∧ (b → TS (c 0 45) (s + 1) r q)) (h 0 5).toNat 0 r q ⟨hB, hF, hS⟩ fun i r q h1 h2 hR => ?_
    obtain ⟨g1, g2, g3⟩ := hR
    obtain ⟨a1, a2, a3⟩ := hT.1 i h1 (by omega)
    have hl := (hLp i).2
    unfold g_burnAll g_k_stepGoes_176
    refine ⟨(f_burnB hV g1 hs.1 hl.1).1, ?_⟩
    rw [a1, a3]
    rw [a3] at hl
    exact ti_burn hH hV hL ⟨h1, by omega⟩ a2 rfl hl.1 hs g1 g2 g3
  unfold f_burnAll
  rcases hT.2 with ⟨a1, a2⟩ | ⟨a1, a2, a3, a4, a5, a6⟩
  · rw [if_pos a1, a2]
    rw [a2] at hbs
    exact hbs.2
  · rw [if_neg a1]
    have e : (c 0 45).toNat = (h 0 5).toNat + 1 := by omega
    rw [e, ti_last, show (0 : Int) + ((h 0 5).toNat : Int) = h 0 5 by omega]
    rw [a3, a5]
    rw [a5] at a6
    exact ti_burn hH hV hL ⟨by omega, by omega⟩ a4 rfl a6 hs hbs.1 hbs.2.1 hbs.2.2
def TTh (h c : am_F) : Prop := ∀ t : Int, 0 ≤ t → t < 40 → f_loses h t = k_thinAt c t
theorem TS_5 {L p v : Int} {r q : am_F} (h : TS L p r q) (hL : L ≤ 7) (hp : 0 ≤ p ∧ p ≤ 40) (hv : am_w32 v = v) : TS L p (am_put r 5 p.toNat v) (am_put q (201 + p.toNat) 3 v) := by
  obtain ⟨h1, h2, h3, h4, h5, h6, h8⟩ := h
  refine ⟨?_, ?_, ⟨by rw [am_put_s, am_put_s], by rw [am_put_s]; exact hv⟩, ?_, ?_, ?_, ?_⟩
  · unfold T3; simp (disch := omega) only [am_put_k, am_put_i]; exact h1
  · unfold T4; simp (disch := omega) only [am_put_k, am_put_i]; exact h2
  · unfold T6; simp (disch := omega) only [am_put_k]; exact h4
  · intro l a1 a2; simp (disch := omega) only [am_put_k]; exact h5 l a1 a2
  · intro l x y a1 a2 a3 a4 a5 a6; simp (disch := omega) only [am_put_k]; exact h6 l x y a1 a2 a3 a4 a5 a6
  · intro a e a1 a2 a3 a4; simp (disch := omega) only [am_put_k]; exact h8 a e a1 a2 a3 a4
theorem ti_thin {b : Prop} {L : Int} {h c r q : am_F} {s : Int} (hTh : TTh h c) (hThB : 0 ≤ f_loses h s) (hL : L ≤ 7) (hs : 0 ≤ s ∧ s < 40) (hB : FgB r 99) (hF : TF 265 (s + 1) r q) (hS : b → TS L (s + 1) r q) : TF 265 (s + 1) (f_thin h r s) (am_fold (g_k_stepGoes_204 s (k_thinAt c s)) 0 81 q) ∧ (b → TS L (s + 1) (f_thin h r s) (am_fold (g_k_stepGoes_204 s (k_thinAt c s)) 0 81 q)) := by
  rw [← hTh s hs.1 hs.2]
  unfold f_thin
  generalize f_loses h s = n at *
  -- one cell of the model, m yards of v less
  have hone : ∀ (i j : Int) (r q : am_F), 0 ≤ i → i < 9 → 0 ≤ j → j < 9 → FgB r 99 ∧ TF 265 (s + 1) r q ∧ (b → TS L (s + 1) r q) → FgB (g_thin s n ((s + 1) * 90 + (i + 10 * j)) r) 99 ∧ TF 265 (s + 1) (g_thin s n ((s + 1) * 90 + (i + 10 * j)) r) (g_k_stepGoes_204 s n (i + 9 * j) q) ∧ (b → TS L (s + 1) (g_thin s n ((s + 1) * 90 + (i + 10 * j)) r) (g_k_stepGoes_204 s n (i + 9 * j) q)) := by
    intro i j r q h1 h2 h3 h4 hR
    obtain ⟨g1, g2, g3⟩ := hR
    have e := g2.1 i j h1 h2 h3 h4
    have hb := g1 ((s + 1) * 90 + (i + 10 * j)).toNat
    unfold g_thin f_lose g_k_stepGoes_204 k_less
    rw [e] at hb ⊢
    generalize hv : q 265 (i + 9 * j).toNat = v at *
    have e4 : (if v < n then v else n) = (if v ≤ n then v else n) := by split <;> split <;> omega
    rw [e4]
    have hm : 0 ≤ (if v ≤ n then v else n) ∧ (if v ≤ n then v else n) ≤ v := by split <;> omega
    generalize (if v ≤ n then v else n) = m at *
    simp only []
    rw [ti_w (show am_i32 (v - m) from ⟨by omega, by omega⟩)]
    refine ⟨am_upB g1 ⟨by omega, by omega⟩, TF_k (TF_put g2 (by omega) ⟨h1, h2⟩ ⟨h3, h4⟩) (am_put_kr (by decide)) (am_put_kr (by omega)), fun hb => ?_⟩
    have hS9 := g3 hb
    have e2 : q (201 + (s + 1).toNat) 3 = r 5 (s + 1).toNat := hS9.2.2.1.1.symm
    rw [e2]
    exact TS_5 (TS_1 (TS_q hS9 hL (by omega) 265 _ _ (by omega)) hL (by omega) _ _) hL (by omega) (ti_ww _)
  by_cases h0 : n ≤ 0
  · rw [if_pos h0]
    have en : n = 0 := by omega
    have h9 := ti_inv0 (P := fun q => TF 265 (s + 1) r q ∧ (b → TS L (s + 1) r q)) (f := g_k_stepGoes_204 s n) 81 0 q ⟨hF, hS⟩ (fun c9 q h1 h2 hR => by
      obtain ⟨i, j, a1, a2, a3, a4, rfl⟩ : ∃ i j : Int, 0 ≤ i ∧ i < 9 ∧ 0 ≤ j ∧ j < 9 ∧ c9 = i + 9 * j := ⟨c9 % 9, c9 / 9, by omega, by omega, by omega, by omega, by omega⟩
      have h8 := hone i j r q a1 a2 a3 a4 ⟨hB, hR⟩
      have hb := hB ((s + 1) * 90 + (i + 10 * j)).toNat
      have e5 : f_lose r n ((s + 1) * 90 + (i + 10 * j)) = 0 := by
        unfold f_lose
        split <;> omega
      have e6 : g_thin s n ((s + 1) * 90 + (i + 10 * j)) r 1 = r 1 := by
        unfold g_thin
        rw [e5, Int.sub_zero, am_put_same]
        exact am_put_kr (by decide)
      refine ⟨TF_k h8.2.1 e6.symm rfl, fun hb => ?_⟩
      have h7 := h8.2.2 hb
      unfold g_thin at h7
      rw [e5, Int.sub_zero, am_put_same, Int.add_zero, (hR.2 hb).2.2.1.2, am_put_same] at h7
      exact h7)
    exact h9
  · rw [if_neg h0]
    refine (ti_rows (R := fun _ _ r q => FgB r 99 ∧ TF 265 (s + 1) r q ∧ (b → TS L (s + 1) r q)) (f := g_thin s n) (g := g_k_stepGoes_204 s n) ((s + 1) * 90) r q ⟨hB, hF, hS⟩ (fun i j r q h1 h2 h3 h4 hR => hone i j r q h1 h2 h3 h4 hR) (fun j r q h1 h2 hR => ?_)).2
    obtain ⟨g1, g2, g3⟩ := hR
    have e := g2.2 j h1 h2
    have e5 : f_lose r n ((s + 1) * 90 + (9 + 10 * j)) = 0 := by
      unfold f_lose
      rw [e]
      split <;> omega
    have e6 : g_thin s n ((s + 1) * 90 + (9 + 10 * j)) r 1 = r 1 := by
      unfold g_thin
      rw [e5, Int.sub_zero, am_put_same]
      exact am_put_kr (by decide)
    refine ⟨?_, TF_k g2 e6 rfl, fun hb => ?_⟩
    · intro j9
      rw [e6]
      exact g1 j9
    · have h7 := g3 hb
      unfold g_thin
      rw [e5, Int.sub_zero, am_put_same, Int.add_zero, h7.2.2.1.2, am_put_same]
      exact h7
