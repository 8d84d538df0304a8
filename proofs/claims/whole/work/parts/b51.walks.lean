/-! THE TIE: the clause of a walk -/
def bw (b : Nat → Int) (i : Int) (x9 : Int × Int) : Int × Int := (x9.1 + k_goesBy (b i.toNat) 1, x9.2 + k_goesBy (b i.toNat) 0)
def okL (b : Int) : Prop := b = 110 ∨ b = 115 ∨ b = 119 ∨ b = 101 ∨ b = 111
def inW (W H : Int) (p : Int × Int) : Prop := (0 ≤ p.1 ∧ p.1 < W) ∧ 0 ≤ p.2 ∧ p.2 < H
def okW (W H : Int) (b : Nat → Int) (p0 : Int × Int) (i : Nat) : Prop := okL (b i) ∧ inW W H (am_fold (bw b) 0 (i + 1) p0)
theorem bw_s (b : Nat → Int) (m : Nat) (p0 : Int × Int) : am_fold (bw b) 0 (m + 1) p0 = ((am_fold (bw b) 0 m p0).1 + k_goesBy (b m) 1, (am_fold (bw b) 0 m p0).2 + k_goesBy (b m) 0) := by
  rw [ti_add, Int.zero_add]
  show ((am_fold (bw b) 0 m p0).1 + k_goesBy (b ((m : Nat) : Int).toNat) 1, (am_fold (bw b) 0 m p0).2 + k_goesBy (b ((m : Nat) : Int).toNat) 0) = _
  rw [Int.toNat_natCast]
theorem bw_b (b : Nat → Int) (p0 : Int × Int) : ∀ m : Nat, (p0.1 - m ≤ (am_fold (bw b) 0 m p0).1 ∧ (am_fold (bw b) 0 m p0).1 ≤ p0.1 + m) ∧ p0.2 - m ≤ (am_fold (bw b) 0 m p0).2 ∧ (am_fold (bw b) 0 m p0).2 ≤ p0.2 + m
  | 0 => ⟨⟨by show p0.1 - 0 ≤ p0.1; omega, by show p0.1 ≤ p0.1 + 0; omega⟩, by show p0.2 - 0 ≤ p0.2; omega, by show p0.2 ≤ p0.2 + 0; omega⟩
  | m + 1 => by
    have h9 := bw_b b p0 m
    have h1 := k_goesBy_b (b m) 1
    have h2 := k_goesBy_b (b m) 0
    rw [bw_s]
    dsimp only
    omega
theorem okL_if {b : Int} : (if b = 110 then (1 : Int) else (if b = 115 then 1 else (if b = 119 then 1 else (if b = 101 then 1 else (if b = 111 then 1 else 0))))) = 0 ↔ ¬ okL b := by
  unfold okL
  repeat' split
  all_goals first | omega | (constructor <;> intro h <;> omega)
theorem rr_walkM {C : am_F} {k here x0 y0 : Int} (hV : RdV C) (h5 : C 0 5 = 0) (hx : 0 ≤ x0 ∧ x0 ≤ 9) (hy : 0 ≤ y0 ∧ y0 ≤ 9) : ((am_wh (w_k_walkHere_76 k here) 601 (x0, y0, 0, C)).2.2.2 0 4 = k_skipWord C 0 4 ∧ (am_wh (w_k_walkHere_76 k here) 601 (x0, y0, 0, C)).2.2.1 = k_skipWord C 0 4 - C 0 4 ∧ 0 ≤ (am_wh (w_k_walkHere_76 k here) 601 (x0, y0, 0, C)).2.2.1) ∧ (((am_wh (w_k_walkHere_76 k here) 601 (x0, y0, 0, C)).2.2.2 0 5 = 0 ∧ (am_wh (w_k_walkHere_76 k here) 601 (x0, y0, 0, C)).2.2.2 0 6 = C 0 6 ∧ (am_wh (w_k_walkHere_76 k here) 601 (x0, y0, 0, C)).2.2.1 ≤ 12 ∧ ∀ i : Nat, (i : Int) < (am_wh (w_k_walkHere_76 k here) 601 (x0, y0, 0, C)).2.2.1 → okW (C 3 0) (C 3 1) (fun i => k_byteAt C (C 0 4 + i)) (x0, y0) i ∧ (am_wh (w_k_walkHere_76 k here) 601 (x0, y0, 0, C)).2.2.2 (103 + k.toNat) (4 + i) = k_byteAt C (C 0 4 + i)) ∨ ((am_wh (w_k_walkHere_76 k here) 601 (x0, y0, 0, C)).2.2.2 0 5 = 2 ∧ (am_wh (w_k_walkHere_76 k here) 601 (x0, y0, 0, C)).2.2.2 0 6 = here ∧ (12 < (am_wh (w_k_walkHere_76 k here) 601 (x0, y0, 0, C)).2.2.1 ∨ ∃ i : Nat, (i : Int) < (am_wh (w_k_walkHere_76 k here) 601 (x0, y0, 0, C)).2.2.1 ∧ ¬ okW (C 3 0) (C 3 1) (fun i => k_byteAt C (C 0 4 + i)) (x0, y0) i))) ∧ LX (103 + k.toNat) C (am_wh (w_k_walkHere_76 k here) 601 (x0, y0, 0, C)).2.2.2 ∧ ∀ j, j < 4 → (am_wh (w_k_walkHere_76 k here) 601 (x0, y0, 0, C)).2.2.2 (103 + k.toNat) j = C (103 + k.toNat) j := by
  have h9 := rr_wh (R := fun (Y : Int × Int × Int × am_F) (z : am_F) => (Y.2.2.2 0 4 = z 0 4 ∧ Y.2.2.1 = z 0 4 - C 0 4 ∧ 0 ≤ Y.2.2.1 ∧ z 0 4 ≤ C 0 2 ∧ (Y.1, Y.2.1) = am_fold (bw (fun i => k_byteAt C (C 0 4 + i))) 0 Y.2.2.1.toNat (x0, y0)) ∧ (((Y.2.2.2 0 5 = 0 ∧ Y.2.2.2 0 6 = C 0 6 ∧ Y.2.2.1 ≤ 12 ∧ ∀ i : Nat, (i : Int) < Y.2.2.1 → okW (C 3 0) (C 3 1) (fun i => k_byteAt C (C 0 4 + i)) (x0, y0) i ∧ Y.2.2.2 (103 + k.toNat) (4 + i) = k_byteAt C (C 0 4 + i)) ∨ (Y.2.2.2 0 5 = 2 ∧ Y.2.2.2 0 6 = here ∧ (12 < Y.2.2.1 ∨ ∃ i : Nat, (i : Int) < Y.2.2.1 ∧ ¬ okW (C 3 0) (C 3 1) (fun i => k_byteAt C (C 0 4 + i)) (x0, y0) i))) ∧ LX (103 + k.toNat) C Y.2.2.2 ∧ ∀ j, j < 4 → Y.2.2.2 (103 + k.toNat) j = C (103 + k.toNat) j) ∧ ∀ k j, ¬ (k = 0 ∧ j = 4) → z k j = C k j) (f := w_k_walkHere_76 k here) (g := w_k_skipWord_0) (fun Y z hR => by
    obtain ⟨x, y, m, c⟩ := Y
    obtain ⟨⟨r1, r2, r3, r4, r5⟩, ⟨r6, r7, r8⟩, r9⟩ := hR
    dsimp only at r1 r2 r3 r4 r5 r6 r7 r8
    have b1 : k_byteAt c (c 0 4) = k_byteAt C (C 0 4 + m) := by
      unfold k_byteAt
      rw [r7.2 2 (by decide) (by decide) (by decide), r7.1 1 (by decide) (by omega), r1, r2, show C 0 4 + (z 0 4 - C 0 4) = z 0 4 by omega]
    have b2 : k_byteAt z (z 0 4) = k_byteAt C (C 0 4 + m) := by
      unfold k_byteAt
      rw [r9 0 2 (by decide), r9 1 _ (fun e => absurd e.1 (by decide)), r2, show C 0 4 + (z 0 4 - C 0 4) = z 0 4 by omega]
    have hxy := bw_b (fun i => k_byteAt C (C 0 4 + i)) (x0, y0) m.toNat
    have ebx : x = (am_fold (bw (fun i => k_byteAt C (C 0 4 + i))) 0 m.toNat (x0, y0)).1 := congrArg Prod.fst r5
    have eby : y = (am_fold (bw (fun i => k_byteAt C (C 0 4 + i))) 0 m.toNat (x0, y0)).2 := congrArg Prod.snd r5
    rw [← ebx, ← eby] at hxy
    have es := bw_s (fun i => k_byteAt C (C 0 4 + i)) m.toNat (x0, y0)
    rw [← ebx, ← eby] at es
    dsimp only at es hxy
    rw [show ((m.toNat : Nat) : Int) = m by omega] at es hxy
    have okm : okW (C 3 0) (C 3 1) (fun i => k_byteAt C (C 0 4 + i)) (x0, y0) m.toNat ↔ okL (k_byteAt C (C 0 4 + m)) ∧ inW (C 3 0) (C 3 1) (x + k_goesBy (k_byteAt C (C 0 4 + m)) 1, y + k_goesBy (k_byteAt C (C 0 4 + m)) 0) := by
      unfold okW
      rw [es]
      dsimp only
      rw [show ((m.toNat : Nat) : Int) = m by omega]
    have h600 := hV.2.2
    have h0a := hV.1
    unfold w_k_walkHere_76 w_k_skipWord_0
    dsimp only
    rw [b1, b2]
    rcases k_byteAt_s C (C 0 4 + m) with ⟨c1, c2⟩ | ⟨c1, c2⟩
    · rcases k_isSmall_s (k_byteAt C (C 0 4 + m)) with ⟨f1, f2⟩ | ⟨f1, f2⟩
      · refine Or.inl ⟨_, _, if_neg (by rw [f1]; decide), if_neg (by rw [f1]; decide), ?_⟩
        have g1 := k_goesBy_b (k_byteAt C (C 0 4 + m)) 1
        have g2 := k_goesBy_b (k_byteAt C (C 0 4 + m)) 0
        rw [ti_w (x := x + k_goesBy (k_byteAt C (C 0 4 + m)) 1) ⟨by omega, by omega⟩, ti_w (x := y + k_goesBy (k_byteAt C (C 0 4 + m)) 0) ⟨by omega, by omega⟩, r7.1 3 (by decide) (by omega)]
        generalize hB : k_byteAt C (C 0 4 + m) = B at *
        generalize hX : x + k_goesBy B 1 = X at *
        generalize hY : y + k_goesBy B 0 = Y at *
        dsimp only
        -- what the step does with the state
        have st : ∀ c' : am_F, (c' 0 4 = c 0 4) → (((c' 0 5 = 0 ∧ c' 0 6 = C 0 6 ∧ m + 1 ≤ 12 ∧ ∀ i : Nat, (i : Int) < m + 1 → okW (C 3 0) (C 3 1) (fun i => k_byteAt C (C 0 4 + i)) (x0, y0) i ∧ c' (103 + k.toNat) (4 + i) = k_byteAt C (C 0 4 + i)) ∨ (c' 0 5 = 2 ∧ c' 0 6 = here ∧ (12 < m + 1 ∨ ∃ i : Nat, (i : Int) < m + 1 ∧ ¬ okW (C 3 0) (C 3 1) (fun i => k_byteAt C (C 0 4 + i)) (x0, y0) i))) ∧ LX (103 + k.toNat) C c' ∧ ∀ j, j < 4 → c' (103 + k.toNat) j = C (103 + k.toNat) j) → ((am_put c' 0 4 (c' 0 4 + 1) 0 4 = am_put z 0 4 (z 0 4 + 1) 0 4 ∧ m + 1 = am_put z 0 4 (z 0 4 + 1) 0 4 - C 0 4 ∧ 0 ≤ m + 1 ∧ am_put z 0 4 (z 0 4 + 1) 0 4 ≤ C 0 2 ∧ (X, Y) = am_fold (bw (fun i => k_byteAt C (C 0 4 + i))) 0 (m + 1).toNat (x0, y0)) ∧ (((am_put c' 0 4 (c' 0 4 + 1) 0 5 = 0 ∧ am_put c' 0 4 (c' 0 4 + 1) 0 6 = C 0 6 ∧ m + 1 ≤ 12 ∧ ∀ i : Nat, (i : Int) < m + 1 → okW (C 3 0) (C 3 1) (fun i => k_byteAt C (C 0 4 + i)) (x0, y0) i ∧ am_put c' 0 4 (c' 0 4 + 1) (103 + k.toNat) (4 + i) = k_byteAt C (C 0 4 + i)) ∨ (am_put c' 0 4 (c' 0 4 + 1) 0 5 = 2 ∧ am_put c' 0 4 (c' 0 4 + 1) 0 6 = here ∧ (12 < m + 1 ∨ ∃ i : Nat, (i : Int) < m + 1 ∧ ¬ okW (C 3 0) (C 3 1) (fun i => k_byteAt C (C 0 4 + i)) (x0, y0) i))) ∧ LX (103 + k.toNat) C (am_put c' 0 4 (c' 0 4 + 1)) ∧ ∀ j, j < 4 → am_put c' 0 4 (c' 0 4 + 1) (103 + k.toNat) j = C (103 + k.toNat) j) ∧ ∀ k j, ¬ (k = 0 ∧ j = 4) → am_put z 0 4 (z 0 4 + 1) k j = C k j) := fun c' e4 hc => by
          obtain ⟨hc1, hc2, hc3⟩ := hc
          have eR : am_put c' 0 4 (c' 0 4 + 1) (103 + k.toNat) = c' (103 + k.toNat) := am_put_kr (by omega)
          refine ⟨⟨by rw [am_put_s, am_put_s, e4, r1], by rw [am_put_s]; omega, by omega, by rw [am_put_s]; omega, by rw [show (m + 1).toNat = m.toNat + 1 by omega]; exact es.symm⟩, ⟨?_, LX_t hc2 (LX_x (Lx_p (Or.inl rfl))), fun j hj => by rw [eR]; exact hc3 j hj⟩, fun k' j' hkj => ?_⟩
          · rw [eR, am_put_i (by decide), am_put_i (by decide)]
            exact hc1
          · by_cases g : k' = 0
            · rw [g, am_put_i (fun e => hkj ⟨g, e⟩), ← g]; exact r9 k' j' hkj
            · rw [am_put_k g]; exact r9 k' j' hkj
        -- a move that may not be
        have bad : (12 ≤ m ∨ ¬ okW (C 3 0) (C 3 1) (fun i => k_byteAt C (C 0 4 + i)) (x0, y0) m.toNat) → k_wrong c 2 here 0 4 = c 0 4 ∧ (((k_wrong c 2 here 0 5 = 0 ∧ k_wrong c 2 here 0 6 = C 0 6 ∧ m + 1 ≤ 12 ∧ ∀ i : Nat, (i : Int) < m + 1 → okW (C 3 0) (C 3 1) (fun i => k_byteAt C (C 0 4 + i)) (x0, y0) i ∧ k_wrong c 2 here (103 + k.toNat) (4 + i) = k_byteAt C (C 0 4 + i)) ∨ (k_wrong c 2 here 0 5 = 2 ∧ k_wrong c 2 here 0 6 = here ∧ (12 < m + 1 ∨ ∃ i : Nat, (i : Int) < m + 1 ∧ ¬ okW (C 3 0) (C 3 1) (fun i => k_byteAt C (C 0 4 + i)) (x0, y0) i))) ∧ LX (103 + k.toNat) C (k_wrong c 2 here) ∧ ∀ j, j < 4 → k_wrong c 2 here (103 + k.toNat) j = C (103 + k.toNat) j) := fun hb => by
          have hw : Lx c (k_wrong c 2 here) := by
            unfold k_wrong
            split
            · exact Lx_t (Lx_p (Or.inr (Or.inl rfl))) (Lx_p (Or.inr (Or.inr rfl)))
            · exact Lx_r
          refine ⟨k_wrong_4, Or.inr ?_, LX_t r7 (LX_x hw), fun j hj => (congrFun (hw.1 _ (by omega)) j).trans (r8 j hj)⟩
          rcases r6 with ⟨p1, p2, p3, p4⟩ | ⟨p1, p2, p3⟩
          · have e9 : k_wrong c 2 here = am_put (am_put c 0 5 2) 0 6 here := if_pos p1
            rw [e9]
            refine ⟨rfl, rfl, ?_⟩
            rcases hb with hb | hb
            · exact Or.inl (by omega)
            · exact Or.inr ⟨m.toNat, by omega, hb⟩
          · have e9 : k_wrong c 2 here = c := if_neg (by omega)
            rw [e9]
            refine ⟨p1, p2, ?_⟩
            rcases p3 with p3 | ⟨i, p3, p4⟩
            · exact Or.inl (by omega)
            · exact Or.inr ⟨i, by omega, p4⟩
        by_cases q1 : 12 ≤ m
        · rw [if_pos q1, if_pos rfl]
          obtain ⟨d1, d2⟩ := bad (Or.inl q1)
          exact st _ d1 d2
        rw [if_neg q1]
        by_cases q2 : okL B
        · rw [if_neg (fun h => (okL_if.1 h) q2)]
          by_cases q3 : inW (C 3 0) (C 3 1) (X, Y)
          · obtain ⟨⟨q4, q5⟩, q6, q7⟩ := id q3
            dsimp only at q4 q5 q6 q7
            have z1 : ¬ k_in X 0 (C 3 0 - 1) = 0 := by
              unfold k_in
              rw [if_neg (by omega), if_neg (by omega)]; decide
            have z2 : ¬ k_in Y 0 (C 3 1 - 1) = 0 := by
              unfold k_in
              rw [if_neg (by omega), if_neg (by omega)]; decide
            rw [if_neg z1, if_neg z2]
            refine st _ (am_put_k (by omega)) ⟨?_, LX_t r7 (LX_p (by omega)), fun j hj => (am_put_i (by omega)).trans (r8 j hj)⟩
            rw [am_put_k (by omega), am_put_k (by omega)]
            rcases r6 with ⟨p1, p2, p3, p4⟩ | ⟨p1, p2, p3⟩
            · refine Or.inl ⟨p1, p2, by omega, fun i hi => ?_⟩
              by_cases g : (i : Int) = m
              · have ei : i = m.toNat := by omega
                subst ei
                refine ⟨okm.2 ⟨q2, q3⟩, ?_⟩
                rw [show (4 + m).toNat = 4 + m.toNat by omega, am_put_s, show ((m.toNat : Nat) : Int) = m by omega, hB]
              · refine ⟨(p4 i (by omega)).1, ?_⟩
                rw [am_put_i (by omega)]
                exact (p4 i (by omega)).2
            · refine Or.inr ⟨p1, p2, ?_⟩
              rcases p3 with p3 | ⟨i, p3, p4⟩
              · exact Or.inl (by omega)
              · exact Or.inr ⟨i, by omega, p4⟩
          · obtain ⟨d1, d2⟩ := bad (Or.inr fun h => q3 (okm.1 h).2)
            by_cases z1 : k_in X 0 (C 3 0 - 1) = 0
            · rw [if_pos z1]
              exact st _ d1 d2
            · by_cases z2 : k_in Y 0 (C 3 1 - 1) = 0
              · rw [if_neg z1, if_pos z2]
                exact st _ d1 d2
              · refine absurd ?_ q3
                unfold k_in at z1 z2
                unfold inW
                dsimp only
                by_cases y1 : X < 0
                · rw [if_pos y1] at z1; exact absurd rfl z1
                by_cases y2 : C 3 0 - 1 < X
                · rw [if_neg y1, if_pos y2] at z1; exact absurd rfl z1
                by_cases y3 : Y < 0
                · rw [if_pos y3] at z2; exact absurd rfl z2
                by_cases y4 : C 3 1 - 1 < Y
                · rw [if_neg y3, if_pos y4] at z2; exact absurd rfl z2
                omega
        · rw [if_pos (okL_if.2 q2)]
          obtain ⟨d1, d2⟩ := bad (Or.inr fun h => q2 (okm.1 h).1)
          exact st _ d1 d2
      · exact Or.inr ⟨_, _, if_pos f1, if_pos f1, ⟨r1, r2, r3, r4, r5⟩, ⟨r6, r7, r8⟩, r9⟩
    · exact Or.inr ⟨_, _, if_pos (by rw [c2]; decide), if_pos (by rw [c2]; decide), ⟨r1, r2, r3, r4, r5⟩, ⟨r6, r7, r8⟩, r9⟩) 601 (x0, y0, 0, C) C ⟨⟨rfl, by dsimp only; omega, by dsimp only; decide, hV.2.1, rfl⟩, ⟨Or.inl ⟨h5, rfl, by dsimp only; decide, fun i hi => by dsimp only at hi; omega⟩, LX_x Lx_r, fun _ _ => rfl⟩, fun _ _ _ => rfl⟩
  obtain ⟨⟨r1, r2, r3, -, -⟩, ⟨r6, r7, r8⟩, -⟩ := h9
  exact ⟨⟨r1, r2, r3⟩, r6, r7, r8⟩
