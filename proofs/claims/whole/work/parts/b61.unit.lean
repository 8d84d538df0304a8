/-! THE TIE: a unit of a rule's text -/
theorem rr_signTok {e p c : am_F} (h : RR e p c) (t : TpI e) (h0 : c 0 5 = 0) {sg : Int} (hb : k_byteAt (k_blanks c) (k_blanks c 0 4) = sg) : (c_takesSign e p sg).2 0 3 = k_blanks c 0 4 ∧ (c_takesSign e p sg).1 = 1 := by
  obtain ⟨q1, q2⟩ := rr_peek h t h0
  have hp0 : p 0 4 = 0 := h.1.trans h0
  have hat := q1.2.2.1 (k_blanks_5.trans h0)
  unfold c_takesSign
  dsimp only
  rw [if_neg (by rw [c_fine_1 hp0]; decide), if_pos (q2.trans hb)]
  refine ⟨?_, rfl⟩
  dsimp only
  rw [am_put_i (by decide), am_put_s]
  exact hat
theorem k_tS {c : am_F} {sg : Int} (h0 : c 0 5 = 0) : k_takesSign c sg = if k_byteAt (k_blanks c) (k_blanks c 0 4) = sg then (1, am_put (k_blanks c) 0 4 (k_blanks c 0 4 + 1)) else (0, k_blanks c) := by
  unfold k_takesSign
  dsimp only
  rw [if_pos h0]
  by_cases g : k_byteAt (k_blanks c) (k_blanks c 0 4) = sg
  · rw [if_pos g, if_pos g, if_neg (by decide)]
  · rw [if_neg g, if_neg g, if_pos rfl]
theorem MR_bl {c : am_F} (hM : MI c) : MR c (k_blanks c) 0 0 := MR_o (MR_le (MR_E (MR_r hM) (Ea_blanks (Ea_r hM.1)).1) (by decide)) rfl
/-- room for one more code -/
theorem MR_room {c d : am_F} {o : Int} (hM : MI c) (h : MR c d 1 o) (g : d 0 5 = 0) : d 0 49 < 200 := by
  obtain ⟨h1, ⟨h2, -⟩, h3, -, h5⟩ := h
  obtain ⟨g1, g2⟩ := h5 g
  have := hM.2.2.2.2 g1
  have := hM.2.1
  have := h1.2.1
  omega
theorem ls_unit {e : am_F} {dp : Int} {N : Nat} {fs' : am_F → am_F → am_F × am_F} {fs : am_F → am_F} (t : TpI e) (hdp : 0 ≤ dp ∧ dp ≤ 6) (hL : dp < 6 → LV e false N (dp + 1) fs' fs) (hN : 1 ≤ N) : LvS e false N dp (fun v k => c_readUnit e v k dp fs') (fun c => k_oneHere c fs) := by
  intro v k c hM hS h0 hd
  have hR := hS.1
  have hV := hM.1
  have mB := MR_bl hM
  have hB5 : k_blanks c 0 5 = 0 := k_blanks_5.trans h0
  have hBx := (k_blanks_x hV).2
  have hbb := rr_bb2 hV
  have hB50 : k_blanks c 0 50 = dp := (hBx.2 50 (by decide) (by decide) (by decide)).trans hd
  have hB49 : k_blanks c 0 49 = c 0 49 := hBx.2 49 (by decide) (by decide) (by decide)
  obtain ⟨p1, p2⟩ := rr_takesSign hR t (sg := 40) (by decide)
  rw [k_tS h0] at p1 p2
  have h49 : 0 ≤ c 0 49 := hM.2.2.1.1
  dsimp only
  unfold c_readUnit k_oneHere
  dsimp only
  rw [if_pos h0]
  by_cases g40 : k_byteAt (k_blanks c) (k_blanks c 0 4) = 40
  · -- one more is opened
    obtain ⟨tk, -⟩ := rr_signTok hR t h0 g40
    rw [if_pos g40] at p1 p2
    dsimp only at p1 p2
    rw [if_pos g40]
    generalize c_takesSign e k 40 = u at *
    have un : ¬ u.1 = 0 := by rw [p2]; decide
    rw [if_neg un, if_neg un]
    have hu5 : u.2 0 4 = 0 := p1.1.trans ((am_put_i (by decide)).trans hB5)
    have hsz : k_blanks c 0 4 < k_blanks c 0 2 := by
      rcases k_byteAt_s (k_blanks c) (k_blanks c 0 4) with ⟨b1, -⟩ | ⟨-, b2⟩
      · exact b1
      · omega
    by_cases g6 : dp < 6
    · have eO : k_opens (k_blanks c) = (1, am_put (k_blanks c) 0 50 (k_blanks c 0 50 + 1)) := by
        unfold k_opens
        dsimp only
        rw [if_neg (show ¬ k_blanks c 0 50 = 6 by omega), if_pos (show am_put (k_blanks c) 0 50 (k_blanks c 0 50 + 1) 0 5 = 0 from (am_put_i (by decide)).trans hB5)]
      have eY : c_mayOpen u.2 dp = (1, u.2) := by
        unfold c_mayOpen
        dsimp only
        rw [if_pos g6, c_fine_1 hu5]
      have mO := (MR_opens mB hB5).1
      rw [eO] at mO
      rw [eO, eY]
      dsimp only at mO ⊢
      rw [if_neg (show ¬ (1 : Int) = 0 by decide), if_neg (show ¬ (1 : Int) = 0 by decide), if_neg (show ¬ (1 : Int) = 0 by decide)]
      have mX := MR_adv mO (show am_put (k_blanks c) 0 50 (k_blanks c 0 50 + 1) 0 4 < am_put (k_blanks c) 0 50 (k_blanks c 0 50 + 1) 0 2 from hsz)
      have hMX := MR_I hM mX (by decide) (by omega)
      have e4 : am_put (am_put (k_blanks c) 0 50 (k_blanks c 0 50 + 1)) 0 4 (am_put (k_blanks c) 0 50 (k_blanks c 0 50 + 1) 0 4 + 1) 0 4 = k_blanks c 0 4 + 1 := rfl
      have x49 : am_put (am_put (k_blanks c) 0 50 (k_blanks c 0 50 + 1)) 0 4 (am_put (k_blanks c) 0 50 (k_blanks c 0 50 + 1) 0 4 + 1) 0 49 = c 0 49 := ((am_put_i (by decide)).trans (am_put_i (by decide))).trans hB49
      have x50 : am_put (am_put (k_blanks c) 0 50 (k_blanks c 0 50 + 1)) 0 4 (am_put (k_blanks c) 0 50 (k_blanks c 0 50 + 1) 0 4 + 1) 0 50 = dp + 1 := ((am_put_i (by decide)).trans am_put_s).trans (by rw [hB50])
      have xk : ∀ m, m ≠ 0 → am_put (am_put (k_blanks c) 0 50 (k_blanks c 0 50 + 1)) 0 4 (am_put (k_blanks c) 0 50 (k_blanks c 0 50 + 1) 0 4 + 1) m = c m := fun m hm => ((am_put_kr hm).trans (am_put_kr hm)).trans (hBx.1 m hm)
      have xR : RR e u.2 (am_put (am_put (k_blanks c) 0 50 (k_blanks c 0 50 + 1)) 0 4 (am_put (k_blanks c) 0 50 (k_blanks c 0 50 + 1) 0 4 + 1)) := rr_c p1 (by rw [am_put_kr (by decide), am_put_kr (by decide), am_put_kr (by decide)]) (fun j hj => by rcases hj with rfl | rfl | rfl | rfl <;> rfl)
      generalize am_put (am_put (k_blanks c) 0 50 (k_blanks c 0 50 + 1)) 0 4 (am_put (k_blanks c) 0 50 (k_blanks c 0 50 + 1) 0 4 + 1) = X at *
      have sX : SG e v c v u.2 X := SG_E hS xR xk x49 (fun _ => h0)
      obtain ⟨c1, c2, c3, c4⟩ := lv_call (hL g6) sX hMX (fun _ => x50)
      generalize fs' v u.2 = U at *
      generalize fs X = Y at *
      have sx := k_sign_x (sg := 41) c3.1 (by decide)
      have s1 := SG_L c1 (rr_sign c1.1 t (show (0 : Int) ≤ 41 by decide)) sx.2 rr_sign5
      have z49 : k_sign Y 41 0 49 = Y 0 49 := sx.2.2 49 (by decide) (by decide) (by decide)
      refine ⟨SG_E s1 (rr_c s1.1 (am_put_kr (by decide)) (fun j hj => am_put_i (by omega))) (fun m hm => am_put_kr hm) (am_put_i (by decide)) (fun g => (am_put_i (by decide)).symm.trans g), fun g => ?_⟩
      have gY : Y 0 5 = 0 := rr_sign5 ((am_put_i (by decide)).symm.trans g)
      have q := (c4 gY).2.1
      rw [x49] at q
      rw [show am_put (k_sign Y 41) 0 50 (k_sign Y 41 0 50 - 1) 0 49 = Y 0 49 from (am_put_i (by decide)).trans z49]
      exact XX_c (fun i _ _ => by rw [am_put_kr (by omega), sx.2.1 _ (by omega)]) q
    · have e6 : dp = 6 := by omega
      have eO : k_opens (k_blanks c) = (0, k_wrong (k_blanks c) 3 (k_blanks c 0 4)) := by
        unfold k_opens
        dsimp only
        rw [if_pos (hB50.trans e6), if_neg (k_wrong_5 (by decide))]
      have eY : c_mayOpen u.2 dp = (0, c_wrong u.2 3 (u.2 0 3)) := by
        unfold c_mayOpen
        dsimp only
        rw [if_neg g6, c_fine_0 (wrong_k (by decide))]
      rw [eO, eY]
      dsimp only
      rw [if_pos rfl, if_pos rfl, if_pos rfl, tk]
      have hRR := rr_wrong2 (B := k_blanks c) (x := 3) (a := k_blanks c 0 4) p1 (by decide) ((am_put_i (by decide)).trans hB5) hB5 rfl (am_put_kr (by decide)).symm (k_blanks_x hV).1
      exact ⟨⟨hRR, hS.2.1, fun g => absurd g (k_wrong_5 (by decide))⟩, fun g => absurd g (k_wrong_5 (by decide))⟩
  · rw [if_neg g40] at p1 p2
    dsimp only at p1 p2
    rw [if_neg g40]
    generalize c_takesSign e k 40 = u at *
    rw [if_pos p2, if_pos p2]
    obtain ⟨w1, w2⟩ := rr_peek p1 t hB5
    rw [hbb] at w1 w2
    generalize hPk : c_peek e u.2 = w at *
    rw [w2, rr_dig]
    have sB : SG e v c v w.2 (k_blanks c) := SG_L hS w1 hBx (fun _ => h0)
    rcases k_isDigit_s (k_byteAt (k_blanks c) (k_blanks c 0 4)) with ⟨d1, -⟩ | ⟨d1, -⟩
    · have dn : ¬ k_isDigit (k_byteAt (k_blanks c) (k_blanks c 0 4)) = 0 := by rw [d1]; decide
      rw [if_neg dn, if_neg dn, if_neg dn]
      obtain ⟨n1, n2, n3⟩ := rr_nn (lo := 0) (hi := 999) w1 t
      have mN := MR_E mB (Ea_number (lo := 0) (hi := 999) (Ea_r mB.1))
      generalize c_number e w.2 0 999 = U at *
      generalize k_number (k_blanks c) 0 999 = Y at *
      have s1 := SG_L sB n1 n2 (fun g => (n3 g).1)
      obtain ⟨s2, s3⟩ := SG_put (o := U.1) (x := 0) (y := Y.1) s1 (fun g => ⟨MR_room hM (MR_le mN (by decide)) g, Or.inl ⟨rfl, (n3 g).2.1, (n3 g).2.2.1, by have := (n3 g).2.2.2; omega⟩⟩)
      have y49 : Y.2 0 49 = c 0 49 := (n2.2 49 (by decide) (by decide) (by decide)).trans hB49
      refine ⟨s2, fun g => ?_⟩
      obtain ⟨t1, t2, t3, -⟩ := s3 g
      rw [t2, y49]
      rw [y49] at t3
      exact XX_1 h49 (by rw [t3]; decide) hN
    · rw [if_pos d1, if_pos d1, if_pos d1]
      obtain ⟨wd, -, x3, x4, x5⟩ := rr_word w1 t hB5
      rw [hbb] at x3 x4 x5
      rw [rr_factC wd, rr_knownK hB5 hbb]
      dsimp only
      have hv0 : k_isSmall (k_byteAt (k_blanks c) (k_blanks c 0 4)) = 0 → (k_wordHere (k_blanks c)).1 = 0 := fun g => (x4 g).2.2
      generalize (k_wordHere (k_blanks c)).1 = V at *
      generalize c_word e w.2 = P at *
      rcases rF_rN V with ⟨r1, r2⟩ | ⟨r1, r2⟩
      · rw [r1, r2, if_pos rfl, if_pos rfl, if_pos rfl]
        have hRR : RR e (c_wrong P.2 1 (P.2 0 3)) (k_wrong (k_blanks c) 1 (k_blanks c 0 4)) := by
          rcases k_isSmall_s (k_byteAt (k_blanks c) (k_blanks c 0 4)) with ⟨b1, -⟩ | ⟨b1, -⟩
          · obtain ⟨y1, y2, y3, y4, y5⟩ := x5 b1
            rw [x3]
            exact rr_wrong2 y1 (by decide) y3 hB5 (y4 0 2 (by decide)).symm (by funext j; exact (y4 1 j (fun e => absurd e.1 (by decide))).symm) (k_blanks_x hV).1
          · obtain ⟨y1, -, -⟩ := x4 b1
            rw [wrong_s (by rw [y1.1]; exact k_wrong_5 (by decide))]
            exact y1
        have s1 : SG e v c v (c_wrong P.2 1 (P.2 0 3)) (k_wrong (k_blanks c) 1 (k_blanks c 0 4)) := ⟨hRR, hS.2.1, fun g => absurd g (k_wrong_5 (by decide))⟩
        obtain ⟨s2, s3⟩ := SG_put (o := 1000 + -1) (x := 1) (y := -1) s1 (fun g => absurd g (k_wrong_5 (by decide)))
        exact ⟨s2, fun g => absurd (s3 g).1 (k_wrong_5 (by decide))⟩
      · have rn : ¬ rN V = -1 := by omega
        have rf : ¬ rF V = -1 := by
          rw [r2]
          unfold ti_sw
          split <;> omega
        rw [if_neg rn, if_neg rn, if_neg rf]
        have hsm : k_isSmall (k_byteAt (k_blanks c) (k_blanks c 0 4)) = 1 := by
          rcases k_isSmall_s (k_byteAt (k_blanks c) (k_blanks c 0 4)) with ⟨b1, -⟩ | ⟨b1, -⟩
          · exact b1
          · exact absurd (by rw [hv0 b1]; exact rN_0) rn
        obtain ⟨y1, y2, y3, y4, y5⟩ := x5 hsm
        have mK := MR_E mB (Ea_skip (Ea_r mB.1) (by rw [hsm]; decide))
        have k49 : k_skipWord (k_blanks c) 0 49 = c 0 49 := (y4 0 49 (by decide)).trans hB49
        have s1 : SG e v c v P.2 (k_skipWord (k_blanks c)) := SG_E sB y1 (fun m hm => funext fun j => y4 m j (fun e => hm e.1)) (y4 0 49 (by decide)) (fun _ => hB5)
        generalize k_skipWord (k_blanks c) = Y at *
        obtain ⟨s2, s3⟩ := SG_put (o := 1000 + rF V) (x := 1) (y := rN V) s1 (fun g => ⟨MR_room hM (MR_le mK (by decide)) g, Or.inr (Or.inl ⟨rfl, by rw [r2], r1.1, r1.2⟩)⟩)
        refine ⟨s2, fun g => ?_⟩
        obtain ⟨t1, t2, t3, -⟩ := s3 g
        rw [t2, k49]
        rw [k49] at t3
        exact XX_1 h49 (by rw [t3]; decide) hN
