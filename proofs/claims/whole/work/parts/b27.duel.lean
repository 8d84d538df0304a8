/-! THE TIE: a step with a duel; cells off the port -/
def ti_q7 (c q : am_F) (s : Int) : am_F := am_fold (g_k_stepGoes_204 s (k_thinAt c s)) 0 81 (am_fold (g_k_stepGoes_176 c s) 0 (c 0 45).toNat (am_fold (g_k_stepGoes_113 s) 0 81 (am_fold (g_k_stepGoes_72 c s) 0 (c 4 10).toNat (k_blows c (ti_s2 c q s) s))))
theorem ti_q7_eq (c q : am_F) (s : Int) : k_stepGoes c q s = am_fold (g_k_stepGoes_285 s) 0 81 (am_put (if s = c 0 58 then am_put (ti_q7 c q s) 265 (c 0 59).toNat 0 else ti_q7 c q s) (201 + (s + 1).toNat) 0 0) := rfl
theorem ti_pre {b : Prop} {h c r q : am_F} {s : Int} (hA : HbAll h) (hF : RnF r) (hMl : MlB r) (hst : r 2 s.toNat = f_fogsum r s) (hT : TH h c) (hLp : TLp h c r) (hD : TD c r q) (hs : 0 ≤ s ∧ s < 40) (h5 : TF 265 s r q) (hS : b → TSo (c 0 45) s r q) : ∃ X, f_goOn h r s = f_addUp X (s + 1) ∧ FgB X 99 ∧ TF 265 (s + 1) X (ti_q7 c q s) := by
  obtain ⟨hH, hlo, hW, hSt, hTh, -⟩ := hT
  have hA9 := id hA
  obtain ⟨hV, hLt, hWd, hStB, hLpB, hThB⟩ := hA9
  obtain ⟨v1, v2, v3, v4, v5, v6, v7, v8, v9, v10, v11, v12, v13, v14, v15, v16, v17, v18, v19, v20, v21, v22⟩ := id hV
  have hL : c 0 45 ≤ 7 := by rcases hLp.2 with ⟨b1, b2⟩ | ⟨b1, b2, -⟩ <;> omega
  obtain ⟨y1, y2, y3, ⟨y4, y5⟩, y6, y7, y8⟩ := f_go_k hA hs hF hMl
  obtain ⟨x1, x2, x3⟩ := ti_begins hs hL h5 hS
  -- the stages
  have htn : f_draws (f_go0 r s) = ti_tn c (ti_s2 c q s) := by
    refine ti_drawn (q := ti_s2 c q s) ?_ s
    unfold TD
    rw [(ti_s2_k (q := q) hs hL).1 0 (by omega) (by omega)]
    exact hD
  have s3 := ti_blows (b := b) (L := c 0 45) (tn := f_draws (f_go0 r s)) hH hV hlo hLt hW hL hs y1 x1 x2 x3
  have e3 : ti_b c (k_windAt c s) (f_draws (f_go0 r s)) s (ti_q20 c (ti_s2 c q s) s) = k_blows c (ti_s2 c q s) s := by rw [htn]; rfl
  rw [e3] at s3
  have s4 := ti_mixAll (b := b) hH hV hStB hSt hL hs y2 s3.1 s3.2
  have s5 := ti_spill (b := b) hL hs (fun j => by have := y3 j; omega) s4.1 s4.2
  have z4 : f_go3 h r s 0 4 = r 0 4 ∧ f_go3 h r s 0 5 = r 0 5 := by
    have e : f_go3 h r s 0 = f_go1 r s 0 := by
      unfold f_go3
      rw [f_spill_0, (f_mixAllB hV hStB y2 hs.1).2.2]
      exact f_blows_0 _ _ _ _
    rw [e]
    exact ⟨(show f_go1 r s 0 4 = f_go0 r s 0 4 from rfl).trans (congrFun (f_go0_k r s).2 4), (show f_go1 r s 0 5 = f_go0 r s 0 5 from rfl).trans (congrFun (f_go0_k r s).2 5)⟩
  have hLp3 : TLp h c (f_go3 h r s) := by
    unfold TLp
    rw [z4.1, z4.2]
    exact hLp
  have s6 := ti_burnAll (b := b) (r := f_go3 h r s) hH hV hLpB hLp3 hs y4 s5.1 s5.2
  have s7 := ti_thin (b := b) (r := f_burnAll h (f_go3 h r s) (s + 1)) hTh (by unfold f_loses; split; exact Int.le_refl _; exact (hThB _).1) hL hs y6 s6.1 s6.2
  -- without fog
  have s8 : ∃ X, X = (if 0 < f_go1 r s 2 s.toNat then f_go4 h r s else f_go1 r s) ∧ FgB X 99 ∧ TF 265 (s + 1) X (am_fold (g_k_stepGoes_204 s (k_thinAt c s)) 0 81 (am_fold (g_k_stepGoes_176 c s) 0 (c 0 45).toNat (am_fold (g_k_stepGoes_113 s) 0 81 (am_fold (g_k_stepGoes_72 c s) 0 (c 4 10).toNat (k_blows c (ti_s2 c q s) s))))) ∧ (b → TS (c 0 45) (s + 1) X (am_fold (g_k_stepGoes_204 s (k_thinAt c s)) 0 81 (am_fold (g_k_stepGoes_176 c s) 0 (c 0 45).toNat (am_fold (g_k_stepGoes_113 s) 0 81 (am_fold (g_k_stepGoes_72 c s) 0 (c 4 10).toNat (k_blows c (ti_s2 c q s) s)))))) := by
    refine ⟨_, rfl, ?_⟩
    by_cases g : 0 < f_go1 r s 2 s.toNat
    · rw [if_pos g]
      exact ⟨y7, s7.1, s7.2⟩
    · rw [if_neg g]
      have e2 : f_go1 r s 2 s.toNat = r 2 s.toNat := congrFun (ti_go1 hs).2.2.1 _
      have z := ti_zero (q := ti_q20 c (ti_s2 c q s) s) hA hMl hLp hs (ti_empty hF hs.1 (by omega))
      refine ⟨(f_go1_f hs hF hMl).1, TF_k s7.1 z.1.symm rfl, fun hb => ?_⟩
      have e4 := z.2 (x3 hb)
      have s9 := s7.2 hb
      rw [show f_thin h (f_burnAll h (f_go3 h r s) (s + 1)) s = f_go4 h r s from rfl, e4] at s9
      exact s9
  obtain ⟨X, eX, w1, w2, w3⟩ := s8
  exact ⟨X, by rw [eX]; rfl, w1, w2⟩
theorem ti_fogsum_eq {k : Nat} {p : Int} {r r' q : am_F} (h : TF k p r q) (h' : TF k p r' q) (hp : 0 ≤ p) : (∀ j : Int, p * 90 ≤ j → j < p * 90 + 90 → r 1 j.toNat = r' 1 j.toNat) ∧ f_fogsum r p = f_fogsum r' p := by
  have e : ∀ j : Int, p * 90 ≤ j → j < p * 90 + 90 → r 1 j.toNat = r' 1 j.toNat := fun j a1 a2 => by
    have ej : j = p * 90 + ((j - p * 90) % 10 + 10 * ((j - p * 90) / 10)) := by omega
    by_cases g : (j - p * 90) % 10 = 9
    · have e1 := h.2 ((j - p * 90) / 10) (by omega) (by omega)
      have e2 := h'.2 ((j - p * 90) / 10) (by omega) (by omega)
      rw [show p * 90 + (9 + 10 * ((j - p * 90) / 10)) = j by omega] at e1 e2
      rw [e1, e2]
    · have e1 := h.1 ((j - p * 90) % 10) ((j - p * 90) / 10) (by omega) (by omega) (by omega) (by omega)
      have e2 := h'.1 ((j - p * 90) % 10) ((j - p * 90) / 10) (by omega) (by omega) (by omega) (by omega)
      rw [← ej] at e1 e2
      rw [e1, e2]
  refine ⟨e, ?_⟩
  unfold f_fogsum
  exact am_fold_eq 90 (p * 90) 0 fun j y a1 a2 => by rw [e j a1 (by omega)]
theorem ti_stepDuel {X c q : am_F} {s x0 y0 : Int} (hs : 0 ≤ s ∧ s < 40) (hB : FgB X 99) (hF : TF 265 (s + 1) X (ti_q7 c q s)) (hd : s = c 0 58) (hc : c 0 59 = x0 + 9 * y0) (hx : 0 ≤ x0 ∧ x0 < 9) (hy : 0 ≤ y0 ∧ y0 < 9) : TF 265 (s + 1) (am_put X 1 ((s + 1) * 90 + (x0 + 10 * y0)).toNat 0) (k_stepGoes c q s) ∧ TF (159 + (s + 1).toNat) (s + 1) (am_put X 1 ((s + 1) * 90 + (x0 + 10 * y0)).toNat 0) (k_stepGoes c q s) ∧ k_stepGoes c q s (201 + (s + 1).toNat) 0 = f_fogsum (am_put X 1 ((s + 1) * 90 + (x0 + 10 * y0)).toNat 0) (s + 1) := by
  rw [ti_q7_eq, if_pos hd, hc]
  have h1 := TF_put (v := 0) hF (by omega) hx hy
  obtain ⟨u1, u2, u3, u4⟩ := ti_record hs (am_upB hB ⟨by decide, by decide⟩ : FgB (am_put X 1 ((s + 1) * 90 + (x0 + 10 * y0)).toNat 0) 99) h1
  exact ⟨TF_k h1 rfl (u1 265 (by omega) (by omega)), TF_copy h1 u4, u3⟩
/-- no fog off the port in row p -/
def OutZ (h : am_F) (p : Int) (r : am_F) : Prop := ∀ x y : Int, 0 ≤ x → x < 10 → 0 ≤ y → y < 9 → (h 0 0 ≤ x ∨ h 0 1 ≤ y) → r 1 (p * 90 + (x + 10 * y)).toNat = 0
theorem OutZ_put {h r : am_F} {p x0 y0 v : Int} (hH : HbV h) (hp : 0 ≤ p) (hx : 0 ≤ x0 ∧ x0 < h 0 0) (hy : 0 ≤ y0 ∧ y0 < h 0 1) (hZ : OutZ h p r) : OutZ h p (am_put r 1 (p * 90 + (x0 + 10 * y0)).toNat v) := fun x y a1 a2 a3 a4 a5 => by
  obtain ⟨v1, v2, v3, v4, -⟩ := hH
  rw [am_put_i (by omega)]
  exact hZ x y a1 a2 a3 a4 a5
theorem OutZ_k {h r r' : am_F} {p : Int} (hr : r' 1 = r 1) (hZ : OutZ h p r) : OutZ h p r' := fun x y a1 a2 a3 a4 a5 => by
  rw [hr]; exact hZ x y a1 a2 a3 a4 a5
theorem ti_nearIn {h : am_F} (c i : Int) : f_near h c i = -1 ∨ ∃ x y : Int, (0 ≤ x ∧ x < h 0 0) ∧ (0 ≤ y ∧ y < h 0 1) ∧ f_near h c i = x + 10 * y := by
  unfold f_near
  by_cases g : (0 ≤ c % 10 + i % 3 - 1 ∧ c % 10 + i % 3 - 1 < h 0 0) ∧ 0 ≤ c / 10 + i / 3 - 1 ∧ c / 10 + i / 3 - 1 < h 0 1
  · rw [if_pos g]
    exact Or.inr ⟨_, _, g.1, g.2, rfl⟩
  · rw [if_neg g]
    exact Or.inl rfl
theorem OutZ_carry {h r : am_F} {s x0 y0 way m : Int} (hV : HbV h) (hs : 0 ≤ s) (hx : 0 ≤ x0 ∧ x0 < h 0 0) (hy : 0 ≤ y0 ∧ y0 < h 0 1) (hZ : OutZ h (s + 1) r) : OutZ h (s + 1) (f_carry h r s (x0 + 10 * y0) way m) := by
  have h1 : OutZ h (s + 1) (f_carry1 r s (x0 + 10 * y0) m) := by
    unfold f_carry1
    exact OutZ_put hV (by omega) hx hy (OutZ_k (am_put_kr (by decide)) hZ)
  unfold f_carry
  split
  · exact OutZ_k (am_put_kr (by decide)) h1
  · rename_i g
    rcases f_has_x h ((x0 + 10 * y0) % 10 + way / 3 - 1) ((x0 + 10 * y0) / 10 + way % 3 - 1) with g2 | g2
    · exact absurd g2 g
    · have h2 : OutZ h (s + 1) (f_carry2 r s (x0 + 10 * y0) m (((x0 + 10 * y0) % 10 + way / 3 - 1) + 10 * ((x0 + 10 * y0) / 10 + way % 3 - 1))) := by
        unfold f_carry2
        exact OutZ_put hV (by omega) ⟨g2.2.1, g2.2.2.1⟩ ⟨g2.2.2.2.1, g2.2.2.2.2⟩ h1
      split
      · exact OutZ_k (am_put_kr (by decide)) h2
      · exact h2
theorem OutZ_mix {h r : am_F} {s X Y : Int} (hV : HbV h) (hs : 0 ≤ s) (hx : 0 ≤ X ∧ X < h 0 0) (hy : 0 ≤ Y ∧ Y < h 0 1) (hZ : OutZ h (s + 1) r) : OutZ h (s + 1) (f_mix h r ((s + 1) * 90) (X + 10 * Y)) := by
  unfold f_mix
  split
  · exact hZ
  · refine OutZ_put hV (by omega) hx hy ?_
    unfold f_mixw
    refine ti_inv0 (P := OutZ h (s + 1)) 9 0 r hZ fun j x _ _ hx9 => ?_
    unfold g_mixw
    split
    · exact hx9
    · rename_i g
      rcases ti_nearIn (h := h) (X + 10 * Y) j with g2 | ⟨a, b, a1, b1, e⟩
      · exact absurd g2 g
      · rw [e]
        exact OutZ_put hV (by omega) a1 b1 hx9
theorem OutZ_burn {h r : am_F} {s l cell bu : Int} (hV : HbV h) (hs : 0 ≤ s) (hZ : OutZ h (s + 1) r) : OutZ h (s + 1) (f_burn h r (s + 1) l cell bu) := by
  have h1 : OutZ h (s + 1) (f_burnl h r (s + 1) l cell bu).2 := by
    unfold f_burnl
    refine ti_inv0 (P := fun (y : Int × am_F) => OutZ h (s + 1) y.2) 9 0 (0, r) hZ fun j x _ _ hx9 => ?_
    unfold g_burn
    split
    · exact hx9
    · rename_i g
      rcases ti_nearIn (h := h) cell j with g2 | ⟨a, b, a1, b1, e⟩
      · exact absurd g2 g
      · rw [e]
        intro x' y' c1 c2 c3 c4 c5
        dsimp only
        rw [am_put_k (by decide)]
        exact OutZ_put hV (by omega) a1 b1 hx9 x' y' c1 c2 c3 c4 c5
  unfold f_burn
  exact OutZ_k ((am_put_kr (by decide)).trans (am_put_kr (by decide))) h1
theorem OutZ_step {h c r : am_F} {s : Int} (hV : HbV h) (hT : TSt h c) (hH : h 0 0 = c 4 0 ∧ h 0 1 = c 4 1) (hs : 0 ≤ s ∧ s < 40) (hZ : OutZ h s r) : OutZ h (s + 1) (f_goOn h r s) := by
  obtain ⟨v1, v2, v3, v4, v5, v6, v7, v8, v9, v10, v11, v12, v13, v14, v15, v16, v17, v18, v19, v20, v21, v22⟩ := id hV
  obtain ⟨a1, a2, -⟩ := ti_go1 (r := r) hs
  have h1 : OutZ h (s + 1) (f_go1 r s) := fun x y b1 b2 b3 b4 b5 => by
    have := a2 (x + 10 * y).toNat (by omega)
    rw [show ((s + 1) * 90).toNat + (x + 10 * y).toNat = ((s + 1) * 90 + (x + 10 * y)).toNat by omega, show (s * 90).toNat + (x + 10 * y).toNat = (s * 90 + (x + 10 * y)).toNat by omega] at this
    rw [this]
    exact hZ x y b1 b2 b3 b4 b5
  have h2 : OutZ h (s + 1) (f_go2 h r s) := by
    unfold f_go2 f_blows
    split
    · exact h1
    · unfold f_blow
      refine ti_inv0 (P := OutZ h (s + 1)) _ 0 _ h1 fun y x b1 b2 hx => ?_
      unfold g_blow
      refine ti_inv0 (P := OutZ h (s + 1)) _ 0 _ hx fun z x b3 b4 hx => ?_
      unfold g_blowx
      split
      · exact OutZ_carry hV hs.1 ⟨b3, by omega⟩ ⟨b1, by omega⟩ hx
      · exact hx
  have h3 : OutZ h (s + 1) (f_go3 h r s) := by
    unfold f_go3 f_spill
    refine ti_inv0 (P := OutZ h (s + 1)) 90 _ _ ?_ fun j x b1 b2 hx => ?_
    · unfold f_mixAll
      refine ti_inv0 (P := OutZ h (s + 1)) _ 0 _ h2 fun j x b1 b2 hx => ?_
      unfold g_mixAll
      split
      · obtain ⟨t1, t2, t3, t4⟩ := hT.2 j b1 (by have := hT.1; omega)
        rw [t2]
        rw [← hH.1] at t3
        rw [← hH.2] at t4
        exact OutZ_mix hV hs.1 t3 t4 hx
      · exact hx
    · unfold g_spill
      split
      · rename_i g
        intro x' y' c1 c2 c3 c4 c5
        have h0 := hx x' y' c1 c2 c3 c4 c5
        by_cases e : ((s + 1) * 90 + (x' + 10 * y')).toNat = j.toNat
        · rw [e] at h0; omega
        · rw [am_put_i e, am_put_k (by decide)]; exact h0
      · exact hx
  have h4 : OutZ h (s + 1) (f_burnAll h (f_go3 h r s) (s + 1)) := by
    have hb : OutZ h (s + 1) (f_burns h (f_go3 h r s) (s + 1)) := by
      unfold f_burns
      refine ti_inv0 (P := OutZ h (s + 1)) _ 0 _ h3 fun j x b1 b2 hx => ?_
      exact OutZ_burn hV hs.1 hx
    unfold f_burnAll
    split
    · exact hb
    · exact OutZ_burn hV hs.1 hb
  have h5 : OutZ h (s + 1) (f_go4 h r s) := by
    unfold f_go4 f_thin
    split
    · exact h4
    · rename_i g
      refine ti_inv0 (P := OutZ h (s + 1)) 90 _ _ h4 fun j x b1 b2 hx => ?_
      intro x' y' c1 c2 c3 c4 c5
      have h0 := hx x' y' c1 c2 c3 c4 c5
      unfold g_thin
      rw [am_put_k (by decide)]
      by_cases e : ((s + 1) * 90 + (x' + 10 * y')).toNat = j.toNat
      · rw [e] at h0 ⊢
        rw [am_put_s]
        unfold f_lose
        rw [h0, if_pos (by omega)]
        rfl
      · rw [am_put_i e]; exact h0
  unfold f_goOn
  refine OutZ_k (am_put_kr (by decide)) ?_
  split
  · exact h5
  · exact h1
/-- the class's run of a port, from nothing -/
def ti_can (h : am_F) : Nat → am_F
  | 0 => f_begin h (fun _ _ => 0)
  | n + 1 => am_put (f_goOn h (ti_can h n) n) 0 1 ((n : Int) + 1)
def FzI (h : am_F) : Prop := ∀ x y : Int, 0 ≤ x → x < 10 → 0 ≤ y → y < 9 → (h 0 0 ≤ x ∨ h 0 1 ≤ y) → h 11 (x + 10 * y).toNat = 0
/-- with a duel told of (or none) the runs are alike up to it -/
theorem ti_canRun {h c : am_F} (hC : HC h c) (hTb : TLb h c) (hFs : TFs h c) (hz : FzI h) (hd : c 0 61 = -1) : ∀ n : Nat, (n : Int) ≤ 40 → (c 0 58 = -1 ∨ (n : Int) ≤ c 0 58) → RunAt True h c (fun _ => True) 0 n (ti_can h n) ∧ OutZ h n (ti_can h n) := by
  obtain ⟨hHI, hV, hT, hN, hW, hWt, hSh, hL⟩ := hC
  obtain ⟨v1, v2, v3, v4, -⟩ := id hHI.1.1
  intro n
  induction n with
  | zero =>
    intro _ _
    obtain ⟨g1, g3, g4⟩ := f_begin_01 h (fun _ _ => 0)
    refine ⟨RunAt_begin (r := fun _ _ => 0) (fun _ _ => rfl) g1 ⟨by show -1 ≤ f_begin h (fun _ _ => 0) 0 4 ∧ f_begin h (fun _ _ => 0) 0 4 ≤ 88; rw [g4]; omega, Or.inl g4⟩ ?_ hHI.1.1 (fun q _ => Or.inl ⟨hd, by show f_begin h (fun _ _ => 0) 0 3 ≤ 0; rw [g3]; decide⟩) TrI_z.1.2.1 hHI.2.2.2.2.1 hFs TrI_z.2, fun x y a1 a2 a3 a4 a5 => ?_⟩
    · have g4' : ti_can h 0 0 4 = -1 := g4
      unfold TLp
      rw [g4']
      exact ⟨hTb, Or.inl ⟨rfl, by rw [hN.2.1, hN.2.2]⟩⟩
    · have e1 : ti_can h 0 1 = am_cpy (h 11) (fun _ => 0) 0 0 90 := by
        show f_begin h (fun _ _ => 0) 1 = _
        unfold f_begin f_addUp f_beg1
        rw [am_put_kr (by decide), ti_row_k (by decide), ti_row_k (by decide), ti_row_s]
        rfl
      rw [e1]
      unfold am_cpy
      rw [if_pos (by omega)]
      have := hz x y a1 a2 a3 a4 a5
      rw [show 0 + ((((0 : Nat) : Int) * 90 + (x + 10 * y)).toNat - 0) = (x + 10 * y).toNat by omega]
      exact this
  | succ n ih =>
    intro h1 h2
    obtain ⟨r1, r2⟩ := ih (by omega) (by omega)
    have := RunAt_step hHI.1 hT r1 (by omega) (by omega)
    refine ⟨this, ?_⟩
    refine OutZ_k (r := f_goOn h (ti_can h n) n) (am_put_kr (by decide)) ?_
    exact OutZ_step hHI.1.1 hT.2.2.2.1 hT.1 (by omega) r2
