/-! THE TIE: a test of a rule -/
theorem am_put_c {r : am_F} {k i j : Nat} {v y : Int} (h : i ≠ j) : am_put (am_put r k i v) k j y = am_put (am_put r k j y) k i v := by
  funext k' j'
  by_cases g : k' = k
  · subst g
    by_cases g1 : j' = j
    · subst g1
      rw [am_put_s, am_put_i (fun e => h e.symm), am_put_s]
    · rw [am_put_i g1]
      by_cases g2 : j' = i
      · subst g2
        rw [am_put_s, am_put_s]
      · rw [am_put_i g2, am_put_i g2, am_put_i g1]
  · rw [am_put_k g, am_put_k g, am_put_k g, am_put_k g]
theorem k_skip50n (a : Int) : ∀ (n : Nat) (c : am_F), am_wh w_k_skipWord_0 n (am_put c 0 50 a) = am_put (am_wh w_k_skipWord_0 n c) 0 50 a := by
  intro n
  induction n with
  | zero => intro c; rfl
  | succ n ih =>
    intro c
    have e1 : k_byteAt (am_put c 0 50 a) (am_put c 0 50 a 0 4) = k_byteAt c (c 0 4) := by
      unfold k_byteAt
      rw [am_put_i (by decide), am_put_i (by decide), am_put_kr (by decide)]
    by_cases g : k_isSmall (k_byteAt c (c 0 4)) = 0
    · have w1 : w_k_skipWord_0 c = .inr c := if_pos g
      have w2 : w_k_skipWord_0 (am_put c 0 50 a) = .inr (am_put c 0 50 a) := if_pos (by rw [e1]; exact g)
      rw [am_wh_r w1, am_wh_r w2]
    · have w1 : w_k_skipWord_0 c = .inl (am_put c 0 4 (c 0 4 + 1)) := if_neg g
      have w2 : w_k_skipWord_0 (am_put c 0 50 a) = .inl (am_put (am_put c 0 50 a) 0 4 (am_put c 0 50 a 0 4 + 1)) := if_neg (by rw [e1]; exact g)
      rw [am_wh_l w1, am_wh_l w2, am_put_i (by decide), am_put_c (by decide), ih]
theorem k_skip50 (c : am_F) (a : Int) : k_skipWord (am_put c 0 50 a) = am_put (k_skipWord c) 0 50 a := k_skip50n a 601 c
/-- a relation's sign, in the model -/
def k_rel (c : am_F) : Int × am_F := if (k_takesSign c 60).1 = 0 then (if (k_takesSign (k_takesSign c 60).2 62).1 = 0 then (if (k_takesSign (k_takesSign (k_takesSign c 60).2 62).2 61).1 = 0 then (-1, k_wrong (k_takesSign (k_takesSign (k_takesSign c 60).2 62).2 61).2 1 ((k_takesSign (k_takesSign (k_takesSign c 60).2 62).2 61).2 0 4)) else (8, (k_takesSign (k_takesSign (k_takesSign c 60).2 62).2 61).2)) else (7, (k_takesSign (k_takesSign c 60).2 62).2)) else (6, (k_takesSign c 60).2)
theorem k_sign_t (c : am_F) (sg : Int) : k_sign c sg = if (k_takesSign c sg).1 = 0 then k_wrong (k_takesSign c sg).2 1 ((k_takesSign c sg).2 0 4) else (k_takesSign c sg).2 := by
  by_cases h0 : c 0 5 = 0
  · rw [k_tS h0]
    unfold k_sign
    dsimp only
    rw [if_pos h0]
    by_cases g : k_byteAt (k_blanks c) (k_blanks c 0 4) = sg
    · rw [if_pos g, if_pos g, if_neg (show ¬ (1 : Int) = 0 by decide)]
    · rw [if_neg g, if_neg g, if_pos rfl]
  · have e1 : k_takesSign c sg = (0, c) := if_neg h0
    have e2 : k_sign c sg = c := if_neg h0
    rw [e1, e2, if_pos rfl]
    exact (if_neg h0).symm
theorem rr_rel {e p c : am_F} (h : RR e p c) (t : TpI e) (hV : RdV c) : RR e (c_readRelation e p).2 (k_rel c).2 ∧ Ea c (k_rel c).2 1 ∧ ((k_rel c).2 0 5 = 0 → (6 ≤ (k_rel c).1 ∧ (k_rel c).1 ≤ 8) ∧ (c_readRelation e p).1 = 1998 + (k_rel c).1) := by
  obtain ⟨a1, a2⟩ := rr_takesSign h t (sg := 60) (by decide)
  have hE1 := Ea_takesSign (sg := 60) (Ea_r hV) (by decide)
  have hb1 := k_takesSign_b c 60
  unfold c_readRelation k_rel
  dsimp only
  rw [a2]
  rcases hb1 with h1 | h1
  · rw [if_pos h1, if_pos h1]
    rw [h1] at hE1
    generalize (c_takesSign e p 60).2 = p1 at *
    generalize (k_takesSign c 60).2 = c1 at *
    obtain ⟨b1, b2⟩ := rr_takesSign a1 t (sg := 62) (by decide)
    have hE2 := Ea_takesSign (sg := 62) hE1 (by decide)
    have hb2 := k_takesSign_b c1 62
    rw [b2]
    rcases hb2 with h2 | h2
    · rw [if_pos h2, if_pos h2]
      rw [h2] at hE2
      generalize (c_takesSign e p1 62).2 = p2 at *
      generalize (k_takesSign c1 62).2 = c2 at *
      have d1 := rr_sign b1 t (sg := 61) (by decide)
      have hE3 := Ea_takesSign (sg := 61) hE2 (by decide)
      have hb3 := k_takesSign_b c2 61
      have es := k_sign_t c2 61
      rcases hb3 with h3 | h3
      · rw [if_pos h3] at es ⊢
        rw [es] at d1
        exact ⟨d1, Ea_wrong hE3 (by decide), fun g => absurd g (k_wrong_5 (by decide))⟩
      · have h3n : ¬ (k_takesSign c2 61).1 = 0 := by omega
        rw [if_neg h3n] at es ⊢
        rw [es] at d1
        exact ⟨d1, Ea_le hE3 (by omega), fun _ => ⟨⟨(by decide : (6 : Int) ≤ 8), (by decide : (8 : Int) ≤ 8)⟩, rfl⟩⟩
    · have h2n : ¬ (k_takesSign c1 62).1 = 0 := by omega
      rw [if_neg h2n, if_neg h2n]
      exact ⟨b1, Ea_le hE2 (by omega), fun _ => ⟨⟨(by decide : (6 : Int) ≤ 7), (by decide : (7 : Int) ≤ 8)⟩, rfl⟩⟩
  · have h1n : ¬ (k_takesSign c 60).1 = 0 := by omega
    rw [if_neg h1n, if_neg h1n]
    exact ⟨a1, Ea_le hE1 (by omega), fun _ => ⟨⟨(by decide : (6 : Int) ≤ 6), (by decide : (6 : Int) ≤ 8)⟩, rfl⟩⟩
/-- the model's test, by cases -/
theorem k_oneIs_e {c : am_F} {mn mc ms : am_F → am_F} (h0 : c 0 5 = 0) (hV : RdV c) : k_oneIs c mn mc ms = if (k_wordHere c).1 = rS 15 then (if (k_opens (k_blanks c)).1 = 0 then (k_opens (k_blanks c)).2 else am_put (k_says (mn (k_skipWord (k_opens (k_blanks c)).2)) 9 0) 0 50 (k_says (mn (k_skipWord (k_opens (k_blanks c)).2)) 9 0 0 50 - 1)) else if k_byteAt (k_blanks c) (k_blanks c 0 4) = 91 then (if (k_opens (k_blanks c)).1 = 0 then (k_opens (k_blanks c)).2 else am_put (k_sign (mc (am_put (k_opens (k_blanks c)).2 0 4 ((k_opens (k_blanks c)).2 0 4 + 1))) 93) 0 50 (k_sign (mc (am_put (k_opens (k_blanks c)).2 0 4 ((k_opens (k_blanks c)).2 0 4 + 1))) 93 0 50 - 1)) else k_says (ms (k_rel (ms (k_blanks c))).2) (k_rel (ms (k_blanks c))).1 0 := by
  have hS : k_seven 14 15 20 0 0 0 0 = rS 15 := by rw [rS_15]; decide
  unfold k_oneIs
  dsimp only
  rw [if_pos h0, rr_isK2 hV h0, hS]
  by_cases gw : (k_wordHere c).1 = rS 15
  · rw [if_pos gw, if_pos gw, if_neg (show ¬ (1 : Int) = 0 by decide)]
  · rw [if_neg gw, if_neg gw, if_pos rfl]
    dsimp only
    by_cases g91 : k_byteAt (k_blanks c) (k_blanks c 0 4) = 91
    · rw [if_pos g91, if_pos g91]
    · rw [if_neg g91, if_neg g91]
      unfold k_rel
      generalize ms (k_blanks c) = Y
      rcases k_takesSign_b Y 60 with h1 | h1
      · rw [if_pos h1, if_pos h1, if_pos h1]
        generalize (k_takesSign Y 60).2 = Y1
        rcases k_takesSign_b Y1 62 with h2 | h2
        · rw [if_pos h2, if_pos h2, if_pos h2]
          generalize (k_takesSign Y1 62).2 = Y2
          rcases k_takesSign_b Y2 61 with h3 | h3
          · rw [if_pos h3, if_pos h3, if_pos rfl]
          · have h3n : ¬ (k_takesSign Y2 61).1 = 0 := by omega
            rw [if_neg h3n, if_neg h3n, if_neg (show ¬ (8 : Int) = -1 by decide)]
        · have h2n : ¬ (k_takesSign Y1 62).1 = 0 := by omega
          rw [if_neg h2n, if_neg h2n, if_neg h2n, if_neg (by decide)]
      · have h1n : ¬ (k_takesSign Y 60).1 = 0 := by omega
        rw [if_neg h1n, if_neg h1n, if_neg h1n, if_neg (by decide)]
theorem c_readTest_e (e v k : am_F) (dp : Int) (fn fc fs : am_F → am_F → am_F × am_F) : c_readTest e v k dp fn fc fs = if (c_takesWord e k 15).1 = 0 then (if (c_takesSign e (c_takesWord e k 15).2 91).1 = 0 then (f_rput (fs (fs v (c_takesSign e (c_takesWord e k 15).2 91).2).1 (c_readRelation e (fs v (c_takesSign e (c_takesWord e k 15).2 91).2).2).2).1 (c_readRelation e (fs v (c_takesSign e (c_takesWord e k 15).2 91).2).2).1, (fs (fs v (c_takesSign e (c_takesWord e k 15).2 91).2).1 (c_readRelation e (fs v (c_takesSign e (c_takesWord e k 15).2 91).2).2).2).2) else (if (c_mayOpen (c_takesSign e (c_takesWord e k 15).2 91).2 dp).1 = 0 then (v, (c_mayOpen (c_takesSign e (c_takesWord e k 15).2 91).2 dp).2) else ((fc v (c_mayOpen (c_takesSign e (c_takesWord e k 15).2 91).2 dp).2).1, c_needSign e (fc v (c_mayOpen (c_takesSign e (c_takesWord e k 15).2 91).2 dp).2).2 93))) else (if (c_mayOpen (c_takesWord e k 15).2 dp).1 = 0 then (v, (c_mayOpen (c_takesWord e k 15).2 dp).2) else (f_rput (fn v (c_mayOpen (c_takesWord e k 15).2 dp).2).1 2009, (fn v (c_mayOpen (c_takesWord e k 15).2 dp).2).2)) := by
  unfold c_readTest
  dsimp only
  generalize c_takesWord e k 15 = u
  by_cases g : u.1 = 0
  · rw [if_pos g, if_pos g, if_pos g]
    generalize c_takesSign e u.2 91 = w
    by_cases g2 : w.1 = 0
    · rw [if_pos g2, if_pos g2, if_pos g2]
    · rw [if_neg g2, if_neg g2, if_neg g2]
      by_cases g3 : (c_mayOpen w.2 dp).1 = 0
      · rw [if_pos g3, if_pos g3, if_pos g3]
      · rw [if_neg g3, if_neg g3, if_neg g3]
  · rw [if_neg g, if_neg g, if_neg g]
    by_cases g3 : (c_mayOpen u.2 dp).1 = 0
    · rw [if_pos g3, if_pos g3, if_pos g3]
    · rw [if_neg g3, if_neg g3, if_neg g3]
/-- one more that is opened, or refused, on both sides -/
theorem rr_opens {e u c : am_F} {dp : Int} {s : am_F} (hR : RR e u s) (hs0 : s 0 5 = 0) (hsB : s 0 2 = k_blanks c 0 2 ∧ s 1 = k_blanks c 1) (tk : u 0 3 = k_blanks c 0 4) (h0 : c 0 5 = 0) (hM : MI c) (hd : c 0 50 = dp) (hdp : dp ≤ 6) : (dp < 6 ∧ k_opens (k_blanks c) = (1, am_put (k_blanks c) 0 50 (dp + 1)) ∧ c_mayOpen u dp = (1, u)) ∨ (dp = 6 ∧ k_opens (k_blanks c) = (0, k_wrong (k_blanks c) 3 (k_blanks c 0 4)) ∧ (c_mayOpen u dp).1 = 0 ∧ RR e (c_mayOpen u dp).2 (k_wrong (k_blanks c) 3 (k_blanks c 0 4))) := by
  have hB5 : k_blanks c 0 5 = 0 := k_blanks_5.trans h0
  have hBx := (k_blanks_x hM.1).2
  have hB50 : k_blanks c 0 50 = dp := (hBx.2 50 (by decide) (by decide) (by decide)).trans hd
  have hu5 : u 0 4 = 0 := hR.1.trans hs0
  by_cases g6 : dp < 6
  · refine Or.inl ⟨g6, ?_, ?_⟩
    · unfold k_opens
      dsimp only
      rw [if_neg (show ¬ k_blanks c 0 50 = 6 by omega), if_pos (show am_put (k_blanks c) 0 50 (k_blanks c 0 50 + 1) 0 5 = 0 from (am_put_i (by decide)).trans hB5), hB50]
    · unfold c_mayOpen
      dsimp only
      rw [if_pos g6, c_fine_1 hu5]
  · have e6 : dp = 6 := by omega
    have eY : c_mayOpen u dp = (0, c_wrong u 3 (u 0 3)) := by
      unfold c_mayOpen
      dsimp only
      rw [if_neg g6, c_fine_0 (wrong_k (by decide))]
    refine Or.inr ⟨e6, ?_, by rw [eY], ?_⟩
    · unfold k_opens
      dsimp only
      rw [if_pos (hB50.trans e6), if_neg (k_wrong_5 (by decide))]
    · rw [eY]
      dsimp only
      rw [tk]
      exact rr_wrong2 (B := k_blanks c) (x := 3) (a := k_blanks c 0 4) hR (by decide) hs0 hB5 hsB.1.symm hsB.2.symm (k_blanks_x hM.1).1
theorem ls_test {e : am_F} {dp : Int} {N M : Nat} {fn fc fs : am_F → am_F → am_F × am_F} {mn mc ms : am_F → am_F} (t : TpI e) (hdp : 0 ≤ dp ∧ dp ≤ 6) (hn : dp < 6 → LV e true N (dp + 1) fn mn) (hc : dp < 6 → LV e true N (dp + 1) fc mc) (hs : LV e false M dp fs ms) (hMN : M + 1 ≤ N) : LvS e true N dp (fun v k => c_readTest e v k dp fn fc fs) (fun c => k_oneIs c mn mc ms) := by
  intro v k c hM hS h0 hd
  have hR := hS.1
  have hV := hM.1
  have mB := MR_bl hM
  have hB5 : k_blanks c 0 5 = 0 := k_blanks_5.trans h0
  have hBx := (k_blanks_x hV).2
  have hbb := rr_bb2 hV
  have hB50 : k_blanks c 0 50 = dp := (hBx.2 50 (by decide) (by decide) (by decide)).trans hd
  have hB49 : k_blanks c 0 49 = c 0 49 := hBx.2 49 (by decide) (by decide) (by decide)
  have hMB : MI (k_blanks c) := MR_I hM mB (by decide) (by omega)
  obtain ⟨p1, p2, p3⟩ := rr_takesW hR t h0 rW_15
  have hsm := (Ea_isWord (la := 14) (lb := 15) (lc := 20) (ld := 0) (le := 0) (lf := 0) (lg := 0) (Ea_r mB.1) (by decide)).2
  have hS15 : k_seven 14 15 20 0 0 0 0 = rS 15 := by rw [rS_15]; decide
  rw [rr_isK2 hV h0, hS15] at hsm
  dsimp only at hsm
  have h49 : 0 ≤ c 0 49 := hM.2.2.1.1
  dsimp only
  rw [k_oneIs_e h0 hV, c_readTest_e]
  generalize c_takesWord e k 15 = u at *
  by_cases gw : (k_wordHere c).1 = rS 15
  · -- not
    rw [if_pos gw] at p1 hsm
    have hsm2 : k_isSmall (k_byteAt (k_blanks c) (k_blanks c 0 4)) ≠ 0 := hsm.resolve_left (by decide)
    obtain ⟨q1, q2, q3, q4⟩ := p3 gw
    rw [if_pos gw, if_neg (show ¬ u.1 = 0 by rw [p1]; decide)]
    have k49 : k_skipWord (k_blanks c) 0 49 = c 0 49 := (q4 0 49 (by decide)).trans hB49
    have k50 : k_skipWord (k_blanks c) 0 50 = dp := (q4 0 50 (by decide)).trans hB50
    rcases rr_opens (dp := dp) q1 q3 ⟨q4 0 2 (by decide), by funext j; exact q4 1 j (fun e => absurd e.1 (by decide))⟩ q2 h0 hM hd hdp.2 with ⟨g6, o1, o2⟩ | ⟨g6, o1, o2, o3⟩
    · rw [o1, o2, if_neg (show ¬ (1 : Int) = 0 by decide), if_neg (show ¬ (1 : Int) = 0 by decide)]
      dsimp only
      rw [k_skip50]
      have mK := MR_E mB (Ea_skip (Ea_r mB.1) hsm2)
      have eO : k_opens (k_skipWord (k_blanks c)) = (1, am_put (k_skipWord (k_blanks c)) 0 50 (dp + 1)) := by
        unfold k_opens
        dsimp only
        rw [k50, if_neg (show ¬ dp = 6 by omega), if_pos (show am_put (k_skipWord (k_blanks c)) 0 50 (dp + 1) 0 5 = 0 from (am_put_i (by decide)).trans q3)]
      have mX := (MR_opens mK q3).1
      rw [eO] at mX
      dsimp only at mX
      have hMX := MR_I hM mX (by decide) (by omega)
      have xk : ∀ m, m ≠ 0 → am_put (k_skipWord (k_blanks c)) 0 50 (dp + 1) m = c m := fun m hm => by
        rw [am_put_kr hm]
        exact (funext fun j => q4 m j (fun e => hm e.1)).trans (hBx.1 m hm)
      have x49 : am_put (k_skipWord (k_blanks c)) 0 50 (dp + 1) 0 49 = c 0 49 := (am_put_i (by decide)).trans k49
      have x50 : am_put (k_skipWord (k_blanks c)) 0 50 (dp + 1) 0 50 = dp + 1 := am_put_s
      have xR : RR e u.2 (am_put (k_skipWord (k_blanks c)) 0 50 (dp + 1)) := rr_c q1 (am_put_kr (by decide)) (fun j hj => am_put_i (by omega))
      generalize am_put (k_skipWord (k_blanks c)) 0 50 (dp + 1) = X at *
      have sX : SG e v c v u.2 X := SG_E hS xR xk x49 (fun _ => h0)
      obtain ⟨c1, c2, c3, c4⟩ := lv_call (hn g6) sX hMX (fun _ => x50)
      generalize fn v u.2 = U at *
      generalize mn X = Y at *
      have mY := MR_t mX c2
      obtain ⟨s2, s3⟩ := SG_put (o := 2009) (x := 9) (y := 0) c1 (fun g => ⟨MR_room hM (MR_le mY (by omega)) g, Or.inr (Or.inr (Or.inr (Or.inl ⟨rfl, rfl⟩)))⟩)
      refine ⟨SG_E s2 (rr_c s2.1 (am_put_kr (by decide)) (fun j hj => am_put_i (by omega))) (fun m hm => am_put_kr hm) (am_put_i (by decide)) (fun g => (am_put_i (by decide)).symm.trans g), fun g => ?_⟩
      obtain ⟨t1, t2, t3, t4⟩ := s3 ((am_put_i (by decide)).symm.trans g)
      have q := (c4 t1).2.1
      have ql := XX_lt q
      rw [x49] at q
      rw [show am_put (k_says Y 9 0) 0 50 (k_says Y 9 0 0 50 - 1) 0 49 = Y 0 49 + 1 from (am_put_i (by decide)).trans t2]
      refine XX_3 (XX_c (fun i i0 i1 => ?_) q) ?_
      · rw [am_put_kr (by omega), t4 i (by omega) i1]
      · rw [am_put_kr (by omega), t3]
    · rw [o1, if_pos rfl, if_pos o2]
      exact ⟨⟨o3, hS.2.1, fun g => absurd g (k_wrong_5 (by decide))⟩, fun g => absurd g (k_wrong_5 (by decide))⟩
  · rw [if_neg gw] at p1
    have pR := p2 gw
    rw [if_neg gw, if_pos p1]
    obtain ⟨r1, r2⟩ := rr_takesSign pR t (sg := 91) (by decide)
    rw [k_tS hB5, hbb] at r1 r2
    by_cases g91 : k_byteAt (k_blanks c) (k_blanks c 0 4) = 91
    · -- one more is opened
      have tk : (c_takesSign e u.2 91).2 0 3 = k_blanks c 0 4 := by
        have h9 := (rr_signTok pR t hB5 (sg := 91) (by rw [hbb]; exact g91)).1
        rw [hbb] at h9
        exact h9
      rw [if_pos g91] at r1 r2
      dsimp only at r1 r2
      rw [if_pos g91]
      generalize c_takesSign e u.2 91 = w at *
      rw [if_neg (show ¬ w.1 = 0 by rw [r2]; decide)]
      have hsz : k_blanks c 0 4 < k_blanks c 0 2 := by
        rcases k_byteAt_s (k_blanks c) (k_blanks c 0 4) with ⟨b1, -⟩ | ⟨-, b2⟩
        · exact b1
        · omega
      rcases rr_opens (dp := dp) r1 ((am_put_i (by decide)).trans hB5) ⟨am_put_i (by decide), am_put_kr (by decide)⟩ tk h0 hM hd hdp.2 with ⟨g6, o1, o2⟩ | ⟨g6, o1, o2, o3⟩
      · have mO := (MR_opens mB hB5).1
        rw [o1] at mO
        rw [o1, o2, if_neg (show ¬ (1 : Int) = 0 by decide), if_neg (show ¬ (1 : Int) = 0 by decide)]
        dsimp only at mO ⊢
        have mX := MR_adv mO (show am_put (k_blanks c) 0 50 (dp + 1) 0 4 < am_put (k_blanks c) 0 50 (dp + 1) 0 2 from hsz)
        have hMX := MR_I hM mX (by decide) (by omega)
        have x49 : am_put (am_put (k_blanks c) 0 50 (dp + 1)) 0 4 (am_put (k_blanks c) 0 50 (dp + 1) 0 4 + 1) 0 49 = c 0 49 := ((am_put_i (by decide)).trans (am_put_i (by decide))).trans hB49
        have x50 : am_put (am_put (k_blanks c) 0 50 (dp + 1)) 0 4 (am_put (k_blanks c) 0 50 (dp + 1) 0 4 + 1) 0 50 = dp + 1 := (am_put_i (by decide)).trans am_put_s
        have xk : ∀ m, m ≠ 0 → am_put (am_put (k_blanks c) 0 50 (dp + 1)) 0 4 (am_put (k_blanks c) 0 50 (dp + 1) 0 4 + 1) m = c m := fun m hm => ((am_put_kr hm).trans (am_put_kr hm)).trans (hBx.1 m hm)
        have xR : RR e w.2 (am_put (am_put (k_blanks c) 0 50 (dp + 1)) 0 4 (am_put (k_blanks c) 0 50 (dp + 1) 0 4 + 1)) := rr_c r1 (by rw [am_put_kr (by decide), am_put_kr (by decide), am_put_kr (by decide)]) (fun j hj => by rcases hj with rfl | rfl | rfl | rfl <;> rfl)
        generalize am_put (am_put (k_blanks c) 0 50 (dp + 1)) 0 4 (am_put (k_blanks c) 0 50 (dp + 1) 0 4 + 1) = X at *
        have sX : SG e v c v w.2 X := SG_E hS xR xk x49 (fun _ => h0)
        obtain ⟨c1, c2, c3, c4⟩ := lv_call (hc g6) sX hMX (fun _ => x50)
        generalize fc v w.2 = U at *
        generalize mc X = Y at *
        have sx := k_sign_x (sg := 93) c3.1 (by decide)
        have s1 := SG_L c1 (rr_sign c1.1 t (show (0 : Int) ≤ 93 by decide)) sx.2 rr_sign5
        have z49 : k_sign Y 93 0 49 = Y 0 49 := sx.2.2 49 (by decide) (by decide) (by decide)
        refine ⟨SG_E s1 (rr_c s1.1 (am_put_kr (by decide)) (fun j hj => am_put_i (by omega))) (fun m hm => am_put_kr hm) (am_put_i (by decide)) (fun g => (am_put_i (by decide)).symm.trans g), fun g => ?_⟩
        have gY : Y 0 5 = 0 := rr_sign5 ((am_put_i (by decide)).symm.trans g)
        have q := (c4 gY).2.1
        rw [x49] at q
        rw [show am_put (k_sign Y 93) 0 50 (k_sign Y 93 0 50 - 1) 0 49 = Y 0 49 from (am_put_i (by decide)).trans z49]
        exact XX_c (fun i _ _ => by rw [am_put_kr (by omega), sx.2.1 _ (by omega)]) q
      · rw [o1, if_pos rfl, if_pos o2]
        exact ⟨⟨o3, hS.2.1, fun g => absurd g (k_wrong_5 (by decide))⟩, fun g => absurd g (k_wrong_5 (by decide))⟩
    · -- a relation
      rw [if_neg g91] at r1 r2
      dsimp only at r1 r2
      rw [if_neg g91]
      generalize c_takesSign e u.2 91 = w at *
      rw [if_pos r2]
      have sB : SG e v c v w.2 (k_blanks c) := SG_L hS r1 hBx (fun _ => h0)
      obtain ⟨c1, c2, c3, c4⟩ := lv_call hs sB hMB (fun _ => hB50)
      generalize fs v w.2 = U at *
      generalize ms (k_blanks c) = Y at *
      have mY : MR c Y 0 0 := MR_o (MR_le (MR_t mB c2) (by decide)) (by decide)
      obtain ⟨l1, l2, l3⟩ := rr_rel c1.1 t c3.1
      have mZ : MR c (k_rel Y).2 1 0 := MR_le (MR_E mY l2) (by decide)
      have hMZ : MI (k_rel Y).2 := MR_I hM mZ (by decide) (by omega)
      have sZ : SG e v c U.1 (c_readRelation e U.2).2 (k_rel Y).2 := SG_L c1 l1 l2.2.1 (fun g => (l2.2.2 g).1)
      have z50 : (k_rel Y).2 0 50 = dp := by have := mZ.2.2.2.1; omega
      have z49 : (k_rel Y).2 0 49 = Y 0 49 := l2.2.1.2 49 (by decide) (by decide) (by decide)
      have zk : ∀ m, m ≠ 0 → (k_rel Y).2 m = Y m := l2.2.1.1
      generalize k_rel Y = Z at *
      generalize c_readRelation e U.2 = P at *
      obtain ⟨e1, e2, e3, e4⟩ := lv_call hs sZ hMZ (fun _ => z50)
      generalize fs U.1 P.2 = W at *
      generalize ms Z.2 = V at *
      have mV : MR c V 1 0 := MR_o (MR_le (MR_t mZ e2) (by decide)) (by decide)
      obtain ⟨s2, s3⟩ := SG_put (o := P.1) (x := Z.1) (y := 0) e1 (fun g => ⟨MR_room hM mV g, by
        obtain ⟨x1, x2⟩ := l3 (e4 g).1
        exact Or.inr (Or.inr (Or.inl ⟨by omega, by omega, x2⟩))⟩)
      refine ⟨s2, fun g => ?_⟩
      obtain ⟨t1, t2, t3, t4⟩ := s3 g
      obtain ⟨y1, y2, y3⟩ := e4 t1
      have x1 := (l3 y1).1
      have yY := (l2.2.2 y1).1
      obtain ⟨w1, w2, w3⟩ := c4 yY
      have wl := XX_lt w2
      have yl := XX_lt y2
      rw [t2]
      rw [z49] at y2 y3 yl
      rw [hB49] at w2 wl
      refine XX_2 (a := Y 0 49) (m := M) (XX_n (show M ≤ N by omega) (XX_c (fun i i0 i1 => ?_) w2)) (XX_c (fun i i0 i1 => ?_) y2) hMN (Or.inr ⟨rfl, by rw [t3]; exact x1.1, by rw [t3]; exact x1.2⟩)
      · rw [t4 i (by omega) (by omega), y3 i (by omega) i1, zk _ (by omega)]
      · rw [t4 i (by omega) i1]
