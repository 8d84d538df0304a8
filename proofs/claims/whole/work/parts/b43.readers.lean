/-! THE TIE: both readers of a text -/
theorem rr_wh {α β : Type} {R : α → β → Prop} {f : α → α ⊕ α} {g : β → β ⊕ β} (hs : ∀ x y, R x y → (∃ x' y', f x = .inl x' ∧ g y = .inl y' ∧ R x' y') ∨ (∃ x' y', f x = .inr x' ∧ g y = .inr y' ∧ R x' y')) : ∀ (n : Nat) (x : α) (y : β), R x y → R (am_wh f n x) (am_wh g n y) := by
  intro n
  induction n with
  | zero => intro x y h; exact h
  | succ n ih =>
    intro x y h
    rcases hs x y h with ⟨x', y', e1, e2, e3⟩ | ⟨x', y', e1, e2, e3⟩
    · rw [am_wh_l e1, am_wh_l e2]; exact ih _ _ e3
    · rw [am_wh_r e1, am_wh_r e2]; exact e3
def RR (e p c : am_F) : Prop := p 0 4 = c 0 5 ∧ p 0 5 = c 0 6 ∧ (c 0 5 = 0 → p 0 2 = c 0 4) ∧ p 0 1 = c 0 2 ∧ (∀ j : Nat, (j : Int) < c 0 2 → e 1 j = c 1 j) ∧ RdI p ∧ RdV c
theorem rr_byte {e p c : am_F} (h : RR e p c) {k : Int} (hk : 0 ≤ k) : c_byteAt e p k = k_byteAt c k := by
  obtain ⟨h1, h2, h3, h4, h5, h6, h7⟩ := h
  unfold c_byteAt k_byteAt
  rw [if_neg (by omega), h4]
  by_cases g : c 0 2 ≤ k
  · rw [if_pos g, if_neg (by omega)]
  · rw [if_neg g, if_pos (by omega)]
    exact h5 k.toNat (by omega)
theorem rr_dig (x : Int) : c_isDigit x = k_isDigit x := by
  rcases c_isDigit_x x with ⟨a, b⟩ | ⟨a, b⟩ <;> rcases k_isDigit_s x with ⟨u, v⟩ | ⟨u, v⟩ <;> first | (rw [a, u]; done) | (exact absurd v b) | (exact absurd b v)
theorem rr_let (x : Int) : c_isLetter x = k_isSmall x := by
  rcases c_isLetter_x x with ⟨a, b⟩ | ⟨a, b⟩ <;> rcases k_isSmall_s x with ⟨u, v⟩ | ⟨u, v⟩ <;> first | (rw [a, u]; done) | (exact absurd v b) | (exact absurd b v)
theorem rr_wrong {e p c : am_F} (h : RR e p c) {x a b : Int} (hx : x ≠ 0) (hab : c 0 5 = 0 → a = b) : RR e (c_wrong p x a) (k_wrong c x b) := by
  have hI := c_wrong_I h.2.2.2.2.2.1 x a
  have hV := (k_wrong_x (x := x) (y := b) h.2.2.2.2.2.2).1
  obtain ⟨h1, h2, h3, h4, h5, h6, h7⟩ := h
  revert hI hV
  unfold c_wrong k_wrong
  by_cases g : c 0 5 = 0
  · rw [if_pos (h1.trans g), if_pos g]
    intro hI hV
    exact ⟨rfl, hab g, fun e => absurd e hx, h4, h5, hI, hV⟩
  · rw [if_neg (by omega), if_neg g]
    intro hI hV
    exact ⟨h1, h2, h3, h4, h5, hI, hV⟩
theorem rr_tok {e p c : am_F} (h : RR e p c) : RR e (am_put p 0 3 (p 0 2)) c := ⟨h.1, h.2.1, h.2.2.1, h.2.2.2.1, h.2.2.2.2.1, RdI_3 h.2.2.2.2.2.1, h.2.2.2.2.2.2⟩
theorem rr_peek {e p c : am_F} (h : RR e p c) (t : TpI e) (h0 : c 0 5 = 0) : RR e (c_peek e p).2 (k_blanks c) ∧ (c_peek e p).1 = k_byteAt (k_blanks c) (k_blanks c 0 4) := by
  have hI := (c_peek_x h.2.2.2.2.2.1 t).1
  have hV := (k_blanks_x h.2.2.2.2.2.2).1
  obtain ⟨h1, h2, h3, h4, h5, h6, h7⟩ := id h
  have h9 := rr_wh (R := fun (x y : am_F) => (x 0 2 = y 0 4 ∧ 0 ≤ x 0 2) ∧ (∀ j, j ≠ 2 → x 0 j = p 0 j) ∧ (∀ j, j ≠ 4 → y 0 j = c 0 j) ∧ y 1 = c 1) (f := w_c_peek_0 e) (g := w_k_blanks_0) (fun x y hR => by
    obtain ⟨⟨r1, r2⟩, r3, r4, r5⟩ := hR
    have hx1 := r3 1 (by decide)
    have hy2 := r4 2 (by decide)
    unfold w_c_peek_0 w_k_blanks_0
    dsimp only
    rcases k_byteAt_s y (y 0 4) with ⟨b1, b2⟩ | ⟨b1, b2⟩
    · rw [b2]
      have e1 : e 1 (x 0 2).toNat = y 1 (y 0 4).toNat := by rw [r1, r5]; exact h5 _ (by omega)
      by_cases g : y 1 (y 0 4).toNat = 32
      · exact Or.inl ⟨_, _, (if_neg (by omega)).trans (if_pos (e1.trans g)), if_pos g, ⟨by rw [am_put_s, am_put_s, r1], by rw [am_put_s]; omega⟩, fun j hj => by rw [am_put_i hj]; exact r3 j hj, fun j hj => by rw [am_put_i hj]; exact r4 j hj, by rw [am_put_kr (by decide)]; exact r5⟩
      · exact Or.inr ⟨_, _, (if_neg (by omega)).trans (if_neg (by rw [e1]; exact g)), if_neg g, ⟨r1, r2⟩, r3, r4, r5⟩
    · rw [b2]
      exact Or.inr ⟨_, _, if_pos (by omega), if_neg (by decide), ⟨r1, r2⟩, r3, r4, r5⟩) 601 p c ⟨⟨h3 h0, h6.1.1⟩, fun _ _ => rfl, fun _ _ => rfl, rfl⟩
  obtain ⟨⟨r1, r2⟩, r3, r4, r5⟩ := h9
  have eP : (c_peek e p).2 = am_wh (w_c_peek_0 e) 601 p := rfl
  have eB : k_blanks c = am_wh w_k_blanks_0 601 c := rfl
  have hRR : RR e (c_peek e p).2 (k_blanks c) := by
    rw [← eP] at r1 r3
    rw [← eB] at r1 r4 r5
    exact ⟨by rw [r3 4 (by decide), r4 5 (by decide)]; exact h1, by rw [r3 5 (by decide), r4 6 (by decide)]; exact h2, fun _ => r1, by rw [r3 1 (by decide), r4 2 (by decide)]; exact h4, fun j hj => by rw [r4 2 (by decide)] at hj; rw [r5]; exact h5 j hj, hI, hV⟩
  refine ⟨hRR, ?_⟩
  have hb := rr_byte hRR (k := k_blanks c 0 4) hV.1
  rw [← hb]
  have e1 : (c_peek e p).1 = if (c_peek e p).2 0 1 ≤ (c_peek e p).2 0 2 then -1 else e 1 ((c_peek e p).2 0 2).toNat := rfl
  rw [e1]
  unfold c_byteAt
  have e2 := hRR.2.2.1 (k_blanks_5.trans h0)
  have := hV.1
  rw [if_neg (show ¬ k_blanks c 0 4 < 0 by omega), e2]
/-- behind blanks no blank stands -/
theorem rr_nob : ∀ (n : Nat) (c : am_F), RdV c → c 0 2 - c 0 4 < n → k_byteAt (am_wh w_k_blanks_0 n c) (am_wh w_k_blanks_0 n c 0 4) ≠ 32 := by
  intro n
  induction n with
  | zero => intro c h hn; have := h.2.1; omega
  | succ n ih =>
    intro c h hn
    have w : w_k_blanks_0 c = if k_byteAt c (c 0 4) = 32 then .inl (am_put c 0 4 (c 0 4 + 1)) else .inr c := rfl
    by_cases g : k_byteAt c (c 0 4) = 32
    · rw [if_pos g] at w
      rw [am_wh_l w]
      rcases k_byteAt_s c (c 0 4) with ⟨b1, b2⟩ | ⟨b1, b2⟩
      · refine ih _ (RdV_p4 h (by have := h.1; omega) (by omega)) ?_
        rw [am_put_s, am_put_i (by decide)]
        omega
      · omega
    · rw [if_neg g] at w
      rw [am_wh_r w]
      exact g
theorem rr_nob2 {c : am_F} (h : RdV c) : k_byteAt (k_blanks c) (k_blanks c 0 4) ≠ 32 := rr_nob 601 c h (by have := h.1; have := h.2.1; have := h.2.2; omega)
theorem rr_bb {c : am_F} (h : k_byteAt c (c 0 4) ≠ 32) : k_blanks c = c := by
  have w : w_k_blanks_0 c = .inr c := if_neg h
  unfold k_blanks
  rw [show (601 : Nat) = 600 + 1 from rfl, am_wh_r w]
theorem rr_bb2 {c : am_F} (h : RdV c) : k_blanks (k_blanks c) = k_blanks c := rr_bb (rr_nob2 h)
theorem rr_number {e p c : am_F} (h : RR e p c) (t : TpI e) (lo hi : Int) : RR e (c_number e p lo hi).2 (k_number c lo hi).2 ∧ ((k_number c lo hi).2 0 5 = 0 → (c_number e p lo hi).1 = (k_number c lo hi).1 ∧ (c_number e p lo hi).2 0 3 = k_blanks c 0 4) := by
  by_cases h0 : c 0 5 = 0
  · obtain ⟨q1, q2⟩ := rr_peek h t h0
    have b5 : k_blanks c 0 5 = 0 := k_blanks_5.trans h0
    have hp0 : p 0 4 = 0 := h.1.trans h0
    unfold c_number k_number
    dsimp only
    rw [if_pos h0, if_neg (by rw [c_fine_1 hp0]; decide), q2, rr_dig]
    have hat := q1.2.2.1 b5
    rcases k_isDigit_s (k_byteAt (k_blanks c) (k_blanks c 0 4)) with ⟨d1, d2⟩ | ⟨d1, d2⟩
    · have dn : ¬ k_isDigit (k_byteAt (k_blanks c) (k_blanks c 0 4)) = 0 := by rw [d1]; decide
      rw [if_neg dn, if_neg dn]
      have qt := rr_tok q1
      have ht3 : am_put (c_peek e p).2 0 3 ((c_peek e p).2 0 2) 0 3 = k_blanks c 0 4 := am_put_s.trans hat
      generalize am_put (c_peek e p).2 0 3 ((c_peek e p).2 0 2) = P at qt ht3
      have hC5 : k_blanks c 0 5 = 0 := b5
      have hBV := q1.2.2.2.2.2.2
      generalize k_blanks c = C at qt ht3 hC5 hBV hat d1 d2 q1 q2 ⊢
      clear q1 q2
      have h9 := rr_wh (R := fun (x y : Int × am_F) => x.1 = y.1 ∧ RR e x.2 y.2 ∧ y.2 0 5 = 0 ∧ x.2 0 3 = C 0 4) (f := w_c_number_43 e) (g := w_k_number_44) (fun x y hR => by
        obtain ⟨v, x⟩ := x
        obtain ⟨v', y⟩ := y
        obtain ⟨r1, r2, r3, r4⟩ := hR
        dsimp only at r1 r2 r3 r4
        subst r1
        have a1 := r2.2.2.1 r3
        have a2 := r2.2.2.2.1
        have a3 := r2.2.2.2.2.2.2
        have a4 := r2.2.2.2.2.2.1
        have hb := rr_byte r2 (k := x 0 2) a4.1.1
        unfold w_c_number_43 w_k_number_44
        dsimp only
        rw [hb, a1, rr_dig]
        rcases k_byteAt_s y (y 0 4) with ⟨b1, b2⟩ | ⟨b1, b2⟩
        · rcases k_isDigit_s (k_byteAt y (y 0 4)) with ⟨f1, f2⟩ | ⟨f1, f2⟩
          · have hR' : RR e (am_put x 0 2 (y 0 4 + 1)) (am_put y 0 4 (y 0 4 + 1)) := by
              refine ⟨r2.1, r2.2.1, fun _ => by rw [am_put_s, am_put_s], r2.2.2.2.1, r2.2.2.2.2.1, ?_, RdV_p4 a3 (by have := a3.1; omega) (by omega)⟩
              exact ⟨⟨by rw [am_put_s]; have := a3.1; omega, by rw [am_put_s, am_put_i (by decide)]; omega⟩, a4.2.1, a4.2.2⟩
            refine Or.inl ⟨_, _, (if_neg (by omega)).trans (if_neg (by rw [f1]; decide)), if_neg (by rw [f1]; decide), ?_, hR', r3, r4⟩
            dsimp only
            split <;> split <;> omega
          · exact Or.inr ⟨_, _, (if_neg (by omega)).trans (if_pos f1), if_pos f1, rfl, r2, r3, r4⟩
        · refine Or.inr ⟨_, _, if_pos (by omega), if_pos (by rw [b2]; decide), rfl, r2, r3, r4⟩) 601 (0, P) (0, C) ⟨rfl, qt, hC5, ht3⟩
      generalize am_wh (w_c_number_43 e) 601 (0, P) = X at h9
      generalize am_wh w_k_number_44 601 (0, C) = Y at h9
      obtain ⟨r1, r2, r3, r4⟩ := h9
      rw [r1, r4]
      have hw := rr_wrong r2 (x := 2) (a := C 0 4) (b := C 0 4) (by decide) (fun _ => rfl)
      have hw5 : k_wrong Y.2 2 (C 0 4) 0 5 ≠ 0 := k_wrong_5 (by decide)
      by_cases g1 : Y.1 < lo
      · have z : k_in Y.1 lo hi = 0 := if_pos g1
        rw [if_pos g1, if_pos z]
        exact ⟨hw, fun g => absurd g hw5⟩
      · by_cases g2 : Y.1 ≤ hi
        · have z : ¬ k_in Y.1 lo hi = 0 := by
            unfold k_in
            rw [if_neg g1, if_neg (by omega)]; decide
          rw [if_neg g1, if_pos g2, if_neg z, if_pos r3]
          exact ⟨r2, fun _ => ⟨rfl, r4⟩⟩
        · have z : k_in Y.1 lo hi = 0 := by
            unfold k_in
            rw [if_neg g1, if_pos (by omega)]
          rw [if_neg g1, if_neg g2, if_pos z]
          exact ⟨hw, fun g => absurd g hw5⟩
    · rw [if_pos d1, if_pos d1]
      have hw := rr_wrong (rr_tok q1) (x := 1) (a := (c_peek e p).2 0 2) (b := k_blanks c 0 4) (by decide) (fun _ => hat)
      have hw5 : k_wrong (k_blanks c) 1 (k_blanks c 0 4) 0 5 ≠ 0 := k_wrong_5 (by decide)
      have hby : k_byteAt (k_wrong (k_blanks c) 1 (k_blanks c 0 4)) (k_wrong (k_blanks c) 1 (k_blanks c 0 4) 0 4) = k_byteAt (k_blanks c) (k_blanks c 0 4) := by
        have hx := (k_wrong_x (x := 1) (y := k_blanks c 0 4) q1.2.2.2.2.2.2).2
        unfold k_byteAt
        rw [k_wrong_4, hx.1 1 (by decide), hx.2 2 (by decide) (by decide) (by decide)]
      generalize k_wrong (k_blanks c) 1 (k_blanks c 0 4) = W at hw hw5 hby
      have w : w_k_number_44 (0, W) = .inr (0, W) := if_pos (by dsimp only; rw [hby]; exact d1)
      rw [show (601 : Nat) = 600 + 1 from rfl, am_wh_r w]
      dsimp only
      have hk : ∀ z : Int, k_wrong W 2 z = W := fun z => if_neg hw5
      rw [hk]
      have : (if k_in 0 lo hi = 0 then W else W) = W := by split <;> rfl
      rw [this]
      exact ⟨hw, fun g => absurd g hw5⟩
  · have hp0 : p 0 4 ≠ 0 := by rw [h.1]; exact h0
    rw [number_s hp0]
    have e1 : k_number c lo hi = (0, c) := if_neg h0
    rw [e1]
    exact ⟨h, fun g => absurd g h0⟩
theorem rr_takesSign {e p c : am_F} (h : RR e p c) (t : TpI e) {sg : Int} (hs : 0 ≤ sg) : RR e (c_takesSign e p sg).2 (k_takesSign c sg).2 ∧ (c_takesSign e p sg).1 = (k_takesSign c sg).1 := by
  have hI := (Rd2.takesSign (Rd2.rf h.2.2.2.2.2.1) t hs).1
  have hV := (k_takesSign_x (sg := sg) h.2.2.2.2.2.2 hs).1
  by_cases h0 : c 0 5 = 0
  · obtain ⟨q1, q2⟩ := rr_peek h t h0
    have b5 : k_blanks c 0 5 = 0 := k_blanks_5.trans h0
    have hp0 : p 0 4 = 0 := h.1.trans h0
    have hat := q1.2.2.1 b5
    revert hI hV
    unfold c_takesSign k_takesSign
    dsimp only
    rw [if_pos h0, if_neg (by rw [c_fine_1 hp0]; decide), q2]
    by_cases g : k_byteAt (k_blanks c) (k_blanks c 0 4) = sg
    · rw [if_pos g, if_pos g, if_neg (by decide)]
      intro hI hV
      exact ⟨⟨q1.1, q1.2.1, fun _ => by dsimp only; rw [am_put_s, am_put_s, hat], q1.2.2.2.1, q1.2.2.2.2.1, hI, hV⟩, rfl⟩
    · rw [if_neg g, if_neg g, if_pos rfl]
      intro hI hV
      exact ⟨q1, rfl⟩
  · have hp0 : p 0 4 ≠ 0 := by rw [h.1]; exact h0
    have e1 : k_takesSign c sg = (0, c) := if_neg h0
    rw [takesSign_s hp0, e1]
    exact ⟨h, rfl⟩
theorem rr_sign {e p c : am_F} (h : RR e p c) (t : TpI e) {sg : Int} (hs : 0 ≤ sg) : RR e (c_needSign e p sg) (k_sign c sg) := by
  by_cases h0 : c 0 5 = 0
  · obtain ⟨q1, q2⟩ := rr_takesSign h t hs
    have hp0 : p 0 4 = 0 := h.1.trans h0
    have b5 : k_blanks c 0 5 = 0 := k_blanks_5.trans h0
    have e1 : k_takesSign c sg = (if k_byteAt (k_blanks c) (k_blanks c 0 4) = sg then 1 else 0, if (if k_byteAt (k_blanks c) (k_blanks c 0 4) = sg then (1 : Int) else 0) = 0 then k_blanks c else am_put (k_blanks c) 0 4 (k_blanks c 0 4 + 1)) := if_pos h0
    have e2 : k_sign c sg = if k_byteAt (k_blanks c) (k_blanks c 0 4) = sg then am_put (k_blanks c) 0 4 (k_blanks c 0 4 + 1) else k_wrong (k_blanks c) 1 (k_blanks c 0 4) := if_pos h0
    unfold c_needSign
    dsimp only
    rw [if_neg (by rw [c_fine_1 hp0]; decide), q2, e2]
    rw [e1] at q1 ⊢
    dsimp only at q1 ⊢
    by_cases g : k_byteAt (k_blanks c) (k_blanks c 0 4) = sg
    · rw [if_pos g, if_neg (by decide)] at q1
      rw [if_pos g, if_pos g, if_neg (by decide)]
      exact q1
    · rw [if_neg g, if_pos rfl] at q1
      rw [if_neg g, if_neg g, if_pos rfl]
      exact rr_wrong q1 (by decide) (fun g => q1.2.2.1 g)
  · have hp0 : p 0 4 ≠ 0 := by rw [h.1]; exact h0
    have e1 : k_sign c sg = c := if_neg h0
    rw [needSign_s hp0, e1]
    exact h
