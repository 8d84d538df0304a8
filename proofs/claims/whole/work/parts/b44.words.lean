/-! THE TIE: words -/
def rv (f : Nat → Int) : Nat → Int
  | 0 => 0
  | n + 1 => 27 * rv f n + f n
theorem rv_pos {f : Nat → Int} : ∀ n : Nat, (∀ i, i < n → 1 ≤ f i ∧ f i ≤ 26) → 0 ≤ rv f n ∧ (0 < n → 1 ≤ rv f n)
  | 0, _ => ⟨Int.le_refl _, fun h => absurd h (by decide)⟩
  | n + 1, h => by
    have h9 := rv_pos n (fun i hi => h i (by omega))
    have := h n (by omega)
    unfold rv
    exact ⟨by omega, fun _ => by omega⟩
theorem rv_inj : ∀ (n m : Nat) (f g : Nat → Int), (∀ i, i < n → 1 ≤ f i ∧ f i ≤ 26) → (∀ i, i < m → 1 ≤ g i ∧ g i ≤ 26) → rv f n = rv g m → n = m ∧ ∀ i, i < n → f i = g i := by
  intro n
  induction n with
  | zero =>
    intro m f g _ hg e
    cases m with
    | zero => exact ⟨rfl, fun i hi => by omega⟩
    | succ m =>
      have := (rv_pos (m + 1) hg).2 (by omega)
      have e0 : rv f 0 = 0 := rfl
      omega
  | succ n ih =>
    intro m f g hf hg e
    cases m with
    | zero =>
      have := (rv_pos (n + 1) hf).2 (by omega)
      have e0 : rv g 0 = 0 := rfl
      omega
    | succ m =>
      have a := hf n (by omega)
      have b := hg m (by omega)
      have e2 : 27 * rv f n + f n = 27 * rv g m + g m := e
      have h1 : f n = g m := by omega
      have h2 : rv f n = rv g m := by omega
      obtain ⟨h3, h4⟩ := ih m f g (fun i hi => hf i (by omega)) (fun i hi => hg i (by omega)) h2
      subst h3
      refine ⟨rfl, fun i hi => ?_⟩
      by_cases g0 : i = n
      · rw [g0]; exact h1
      · exact h4 i (by omega)
theorem rv_eq {f g : Nat → Int} : ∀ n : Nat, (∀ i, i < n → f i = g i) → rv f n = rv g n
  | 0, _ => rfl
  | n + 1, h => by
    unfold rv
    rw [rv_eq n (fun i hi => h i (by omega)), h n (by omega)]
def rS (j : Nat) : Int := rv (fun i => am_chr j i - 96) (am_ln j).toNat
def rW (j : Nat) : Prop := ((0 : Int) < am_ln j ∧ am_ln j ≤ 7) ∧ ∀ i, i < (am_ln j).toNat → 1 ≤ am_chr j i - 96 ∧ am_chr j i - 96 ≤ 26
/-- p stands behind a word, of the value v -/
def WdR (e p : am_F) (v : Int) : Prop := ∃ m : Nat, p 0 2 - p 0 3 = m ∧ v = (if m ≤ 7 then rv (fun i => c_byteAt e p (p 0 3 + i) - 96) m else -1) ∧ ∀ i : Nat, i < m → 97 ≤ c_byteAt e p (p 0 3 + i) ∧ c_byteAt e p (p 0 3 + i) ≤ 122
theorem rr_isW {e p : am_F} {v : Int} {j : Nat} (h : WdR e p v) (hj : rW j) : c_isWord e p j = if v = rS j then 1 else 0 := by
  obtain ⟨m, h1, h2, h3⟩ := h
  obtain ⟨⟨l1, l2⟩, l3⟩ := hj
  unfold c_isWord
  rw [h1]
  have pz := rv_pos _ l3
  have hS : rS j = rv (fun i => am_chr j i - 96) (am_ln j).toNat := rfl
  by_cases g : (m : Int) = am_ln j
  · rw [if_pos g, h2, if_pos (show m ≤ 7 by omega)]
    have hm : (am_ln j).toNat = m := by omega
    rw [hS, hm]
    rw [hm] at l3
    by_cases g2 : rv (fun i => c_byteAt e p (p 0 3 + i) - 96) m = rv (fun i => am_chr j i - 96) m
    · rw [if_pos g2]
      have g3 := (rv_inj m m _ _ (fun i hi => by have := h3 i hi; show 1 ≤ c_byteAt e p (p 0 3 + i) - 96 ∧ c_byteAt e p (p 0 3 + i) - 96 ≤ 26; omega) l3 g2).2
      have hn : am_find (p_c_isWord_20 e p j) 0 m = none := (ti_find_none m 0).2 fun i a1 a2 => by
        have := g3 i.toNat (by omega)
        rw [show ((i.toNat : Nat) : Int) = i by omega] at this
        exact if_pos (by omega)
      rw [hn]
      rfl
    · rw [if_neg g2]
      cases hf : am_find (p_c_isWord_20 e p j) 0 m with
      | none =>
        refine absurd (rv_eq m fun i hi => ?_) g2
        have h9 := (ti_find_none m 0).1 hf i (by omega) (by omega)
        have h8 : (if c_byteAt e p (p 0 3 + i) = am_chr j (i : Int).toNat then none else some (0 : Int)) = none := h9
        by_cases g4 : c_byteAt e p (p 0 3 + i) = am_chr j (i : Int).toNat
        · rw [g4]
          rfl
        · rw [if_neg g4] at h8; cases h8
      | some r =>
        obtain ⟨i, a1, a2, a3⟩ := am_find_spec _ _ hf
        have h8 : (if c_byteAt e p (p 0 3 + i) = am_chr j i.toNat then none else some (0 : Int)) = some r := a3
        by_cases g4 : c_byteAt e p (p 0 3 + i) = am_chr j i.toNat
        · rw [if_pos g4] at h8; cases h8
        · rw [if_neg g4] at h8
          injection h8 with h8
          exact h8.symm
  · rw [if_neg g, if_neg]
    intro e2
    rw [h2] at e2
    split at e2
    · exact g (by have := (rv_inj m _ _ _ (fun i hi => by have := h3 i hi; show 1 ≤ c_byteAt e p (p 0 3 + i) - 96 ∧ c_byteAt e p (p 0 3 + i) - 96 ≤ 26; omega) l3 e2).1; omega)
    · omega
/-- the word that stands next: on both sides -/
theorem rr_word {e p c : am_F} (h : RR e p c) (t : TpI e) (h0 : c 0 5 = 0) : WdR e (c_word e p).2 (k_wordHere c).1 ∧ (k_wordHere c).2 = k_blanks c ∧ (c_word e p).2 0 3 = k_blanks c 0 4 ∧ (k_isSmall (k_byteAt (k_blanks c) (k_blanks c 0 4)) = 0 → RR e (c_word e p).2 (k_wrong (k_blanks c) 1 (k_blanks c 0 4)) ∧ (c_word e p).1 = 0 ∧ (k_wordHere c).1 = 0) ∧ (k_isSmall (k_byteAt (k_blanks c) (k_blanks c 0 4)) = 1 → RR e (c_word e p).2 (k_skipWord (k_blanks c)) ∧ (c_word e p).1 = k_skipWord (k_blanks c) 0 4 - k_blanks c 0 4 ∧ k_skipWord (k_blanks c) 0 5 = 0 ∧ (∀ k j, ¬ (k = 0 ∧ j = 4) → k_skipWord (k_blanks c) k j = k_blanks c k j) ∧ 0 < (c_word e p).1) := by
  have hI := (Rd2.word (Rd2.rf h.2.2.2.2.2.1) t).1
  obtain ⟨q1, q2⟩ := rr_peek h t h0
  have b5 : k_blanks c 0 5 = 0 := k_blanks_5.trans h0
  have hp0 : p 0 4 = 0 := h.1.trans h0
  have hat := q1.2.2.1 b5
  have hV := q1.2.2.2.2.2.2
  have hSk := (k_skipWord_x hV).1
  have eW : k_wordHere c = (if (am_wh (w_k_wordHere_8 (k_blanks c)) 601 (0, 0)).2 ≤ 7 then (am_wh (w_k_wordHere_8 (k_blanks c)) 601 (0, 0)).1 else -1, k_blanks c) := rfl
  rw [eW]
  have eC : c_word e p = if k_isSmall (k_byteAt (k_blanks c) (k_blanks c 0 4)) = 0 then (0, c_wrong (am_put (c_peek e p).2 0 3 ((c_peek e p).2 0 2)) 1 ((c_peek e p).2 0 2)) else ((am_wh (w_c_word_40 e) 601 (am_put (c_peek e p).2 0 3 ((c_peek e p).2 0 2))) 0 2 - (am_wh (w_c_word_40 e) 601 (am_put (c_peek e p).2 0 3 ((c_peek e p).2 0 2))) 0 3, am_wh (w_c_word_40 e) 601 (am_put (c_peek e p).2 0 3 ((c_peek e p).2 0 2))) := by
    unfold c_word
    dsimp only
    rw [if_neg (by rw [c_fine_1 hp0]; decide), q2, rr_let]
  rw [eC] at hI ⊢
  have qt := rr_tok q1
  have ht3 : am_put (c_peek e p).2 0 3 ((c_peek e p).2 0 2) 0 3 = k_blanks c 0 4 := am_put_s.trans hat
  have ht2 : am_put (c_peek e p).2 0 3 ((c_peek e p).2 0 2) 0 2 = k_blanks c 0 4 := (am_put_i (by decide)).trans hat
  rw [show (c_peek e p).2 0 2 = k_blanks c 0 4 from hat] at hI qt ht3 ht2 ⊢
  generalize am_put (c_peek e p).2 0 3 (k_blanks c 0 4) = P at hI qt ht3 ht2 ⊢
  generalize k_blanks c = C at *
  clear q1 q2 eW eC h
  rcases k_isSmall_s (k_byteAt C (C 0 4)) with ⟨d1, d2⟩ | ⟨d1, d2⟩
  · rw [if_neg (by rw [d1]; decide)] at hI ⊢
    have h9 := rr_wh (R := fun (x : am_F) (y : Int × Int) => (x 0 2 = C 0 4 + y.2 ∧ 0 ≤ y.2 ∧ C 0 4 + y.2 ≤ C 0 2) ∧ (∀ k j, ¬ (k = 0 ∧ j = 2) → x k j = P k j) ∧ (∀ i : Nat, (i : Int) < y.2 → 97 ≤ c_byteAt e P (C 0 4 + i) ∧ c_byteAt e P (C 0 4 + i) ≤ 122) ∧ (y.2 ≤ 8 → y.1 = rv (fun i => c_byteAt e P (C 0 4 + i) - 96) y.2.toNat)) (f := w_c_word_40 e) (g := w_k_wordHere_8 C) (fun x y hR => by
      obtain ⟨v, m⟩ := y
      obtain ⟨⟨r1, r2, r3⟩, r4, r5, r6⟩ := hR
      dsimp only at r1 r2 r3 r5 r6
      have hx1 := r4 1 0
      have e1 : x 0 1 = C 0 2 := (r4 0 1 (by decide)).trans qt.2.2.2.1
      have hby : c_byteAt e x (x 0 2) = k_byteAt C (C 0 4 + m) := by
        have : c_byteAt e x (x 0 2) = c_byteAt e P (x 0 2) := by
          unfold c_byteAt
          rw [r4 0 1 (by decide)]
        rw [this, r1]
        exact rr_byte qt (by have := hV.1; omega)
      have hbP : c_byteAt e P (C 0 4 + m) = k_byteAt C (C 0 4 + m) := rr_byte qt (by have := hV.1; omega)
      unfold w_c_word_40 w_k_wordHere_8
      dsimp only
      rw [hby, rr_let]
      rcases k_byteAt_s C (C 0 4 + m) with ⟨b1, b2⟩ | ⟨b1, b2⟩
      · rcases k_isSmall_s (k_byteAt C (C 0 4 + m)) with ⟨f1, f2⟩ | ⟨f1, f2⟩
        · refine Or.inl ⟨_, _, (if_neg (by omega)).trans (if_neg (by rw [f1]; decide)), if_neg (by rw [f1]; decide), ⟨?_, by omega, by omega⟩, fun k j hkj => ?_, fun i hi => ?_, fun h8 => ?_⟩
          · rw [am_put_s, r1]; dsimp only; omega
          · by_cases g : k = 0
            · rw [g, am_put_i (fun e2 => hkj ⟨g, e2⟩), ← g]; exact r4 k j hkj
            · rw [am_put_k g]; exact r4 k j hkj
          · by_cases g : (i : Int) < m
            · exact r5 i g
            · rw [show (i : Int) = m by omega, hbP]; exact f2
          · dsimp only at h8 ⊢
            rw [if_neg (by omega), r6 (by omega), show (m + 1).toNat = m.toNat + 1 by omega]
            show 27 * rv _ m.toNat + k_byteAt C (C 0 4 + m) - 97 + 1 = 27 * rv _ m.toNat + (c_byteAt e P (C 0 4 + (m.toNat : Nat)) - 96)
            rw [show ((m.toNat : Nat) : Int) = m by omega, hbP]
            omega
        · exact Or.inr ⟨_, _, (if_neg (by omega)).trans (if_pos f1), if_pos f1, ⟨r1, r2, r3⟩, r4, r5, r6⟩
      · refine Or.inr ⟨_, _, if_pos (by omega), if_pos (by rw [b2]; decide), ⟨r1, r2, r3⟩, r4, r5, r6⟩) 601 P (0, 0) ⟨⟨by dsimp only; omega, by decide, by have := hV.2.1; dsimp only; omega⟩, fun _ _ _ => rfl, fun i hi => by dsimp only at hi; omega, fun _ => rfl⟩
    have h8 := rr_wh (R := fun (x y : am_F) => (x 0 2 = y 0 4 ∧ C 0 4 ≤ x 0 2) ∧ (∀ k j, ¬ (k = 0 ∧ j = 2) → x k j = P k j) ∧ ∀ k j, ¬ (k = 0 ∧ j = 4) → y k j = C k j) (f := w_c_word_40 e) (g := w_k_skipWord_0) (fun x y hR => by
      obtain ⟨⟨r1, r2⟩, r4, r5⟩ := hR
      have e1 : x 0 1 = C 0 2 := (r4 0 1 (by decide)).trans qt.2.2.2.1
      have hby : c_byteAt e x (x 0 2) = k_byteAt C (y 0 4) := by
        have : c_byteAt e x (x 0 2) = c_byteAt e P (x 0 2) := by
          unfold c_byteAt
          rw [r4 0 1 (by decide)]
        rw [this, r1]
        exact rr_byte qt (by have := hV.1; omega)
      have hby2 : k_byteAt y (y 0 4) = k_byteAt C (y 0 4) := by
        unfold k_byteAt
        rw [r5 0 2 (by decide), r5 1 _ (fun e => absurd e.1 (by decide))]
      unfold w_c_word_40 w_k_skipWord_0
      dsimp only
      rw [hby, rr_let, hby2]
      rcases k_byteAt_s C (y 0 4) with ⟨b1, b2⟩ | ⟨b1, b2⟩
      · rcases k_isSmall_s (k_byteAt C (y 0 4)) with ⟨f1, f2⟩ | ⟨f1, f2⟩
        · refine Or.inl ⟨_, _, (if_neg (by omega)).trans (if_neg (by rw [f1]; decide)), if_neg (by rw [f1]; decide), ⟨?_, ?_⟩, fun k j hkj => ?_, fun k j hkj => ?_⟩
          · rw [am_put_s, am_put_s, r1]
          · rw [am_put_s]; omega
          · by_cases g : k = 0
            · rw [g, am_put_i (fun e2 => hkj ⟨g, e2⟩), ← g]; exact r4 k j hkj
            · rw [am_put_k g]; exact r4 k j hkj
          · by_cases g : k = 0
            · rw [g, am_put_i (fun e2 => hkj ⟨g, e2⟩), ← g]; exact r5 k j hkj
            · rw [am_put_k g]; exact r5 k j hkj
        · exact Or.inr ⟨_, _, (if_neg (by omega)).trans (if_pos f1), if_pos f1, ⟨r1, r2⟩, r4, r5⟩
      · refine Or.inr ⟨_, _, if_pos (by omega), if_pos (by rw [b2]; decide), ⟨r1, r2⟩, r4, r5⟩) 601 P C ⟨⟨ht2, by omega⟩, fun _ _ _ => rfl, fun _ _ _ => rfl⟩
    have eS : am_wh w_k_skipWord_0 601 C = k_skipWord C := rfl
    rw [eS] at h8
    have hm0 : 0 < (am_wh (w_k_wordHere_8 C) 601 (0, 0)).2 := by
      have hinv : ∀ n x, 1 ≤ x.2 → 1 ≤ (am_wh (w_k_wordHere_8 C) n x).2 := fun n x hx => am_wh_inv (P := fun (x : Int × Int) => 1 ≤ x.2) (fun x y a1 a2 => by
        unfold w_k_wordHere_8 at a2
        dsimp only at a2
        split at a2
        · cases a2
        · injection a2 with a2
          rw [← a2]; dsimp only; omega) (fun x y a1 a2 => by
        unfold w_k_wordHere_8 at a2
        dsimp only at a2
        split at a2
        · injection a2 with a2
          rw [← a2]; exact a1
        · cases a2) n x hx
      have w : w_k_wordHere_8 C (0, 0) = .inl (27 * 0 + k_byteAt C (C 0 4 + 0) - 97 + 1, 0 + 1) := by
        unfold w_k_wordHere_8
        dsimp only
        rw [Int.add_zero, if_neg (by rw [d1]; decide), if_neg (by decide)]
      rw [show (601 : Nat) = 600 + 1 from rfl, am_wh_l w]
      exact hinv 600 _ (by show (1 : Int) ≤ 0 + 1; decide)
    generalize am_wh (w_c_word_40 e) 601 P = X at *
    generalize am_wh (w_k_wordHere_8 C) 601 (0, 0) = Y at *
    generalize k_skipWord C = Z at *
    obtain ⟨⟨r1, r2, r3⟩, r4, r5, r6⟩ := h9
    obtain ⟨⟨s1, s2⟩, s4, s5⟩ := h8
    have x3 : X 0 3 = C 0 4 := (r4 0 3 (by decide)).trans ht3
    have hbx : ∀ z, c_byteAt e X z = c_byteAt e P z := fun z => by
      unfold c_byteAt
      rw [r4 0 1 (by decide)]
    dsimp only
    refine ⟨⟨Y.2.toNat, by rw [r1, x3]; omega, ?_, fun i hi => ?_⟩, rfl, x3, fun g => absurd g (by rw [d1]; decide), fun _ => ⟨⟨?_, ?_, fun _ => s1, ?_, fun j hj => ?_, hI, hSk⟩, by rw [s1, x3], (s5 0 5 (by decide)).trans b5, s5, by rw [r1, x3]; omega⟩⟩
    · by_cases g : Y.2 ≤ 7
      · rw [if_pos g, if_pos (by omega), r6 (by omega), x3]
        exact rv_eq _ fun i hi => by rw [hbx]
      · rw [if_neg g, if_neg (by omega)]
    · rw [hbx, x3]; exact r5 i (by omega)
    · rw [r4 0 4 (by decide), s5 0 5 (by decide)]; exact qt.1
    · rw [r4 0 5 (by decide), s5 0 6 (by decide)]; exact qt.2.1
    · rw [r4 0 1 (by decide), s5 0 2 (by decide)]; exact qt.2.2.2.1
    · rw [s5 0 2 (by decide)] at hj
      rw [s5 1 j (fun e => absurd e.1 (by decide))]; exact qt.2.2.2.2.1 j hj
  · rw [if_pos d1] at hI ⊢
    have w : w_k_wordHere_8 C (0, 0) = .inr (0, 0) := if_pos (by rw [Int.add_zero]; exact d1)
    rw [show (601 : Nat) = 600 + 1 from rfl, am_wh_r w]
    dsimp only
    have e2 : c_wrong P 1 (C 0 4) 0 2 = P 0 2 := by
      unfold c_wrong
      split
      · rfl
      · rfl
    have e3 : c_wrong P 1 (C 0 4) 0 3 = P 0 3 := by
      unfold c_wrong
      split
      · rfl
      · rfl
    refine ⟨⟨0, by rw [e2, e3, ht2, ht3]; omega, rfl, fun i hi => by omega⟩, rfl, e3.trans ht3, fun _ => ⟨rr_wrong qt (by decide) (fun _ => rfl), rfl, rfl⟩, fun g => absurd g (by rw [d1]; decide)⟩
theorem rr_isK {c : am_F} (h0 : c 0 5 = 0) (la lb lc ld le lf lg : Int) : k_isWord c la lb lc ld le lf lg = (if (k_wordHere c).1 = k_seven la lb lc ld le lf lg then 1 else 0, k_blanks c) := by
  have e2 : (k_wordHere c).2 = k_blanks c := rfl
  unfold k_isWord
  dsimp only
  rw [if_pos h0, if_pos h0, e2]
  generalize (k_wordHere c).1 = v
  generalize k_seven la lb lc ld le lf lg = s
  by_cases g : v = s
  · subst g
    rw [if_neg (show ¬ v < v by omega), if_pos (show v = v from rfl), if_pos rfl, if_pos (show v = v from rfl)]
  · by_cases g2 : s < v
    · rw [if_pos g2, if_neg (show ¬ (1 : Int) = 0 by decide), if_neg g]
    · rw [if_neg g2, if_neg g, if_neg (show ¬ (-1 : Int) = 0 by decide), if_neg g]
theorem rr_isK2 {c : am_F} (hV : RdV c) (h0 : c 0 5 = 0) (la lb lc ld le lf lg : Int) : k_isWord (k_blanks c) la lb lc ld le lf lg = (if (k_wordHere c).1 = k_seven la lb lc ld le lf lg then 1 else 0, k_blanks c) := by
  rw [rr_isK (k_blanks_5.trans h0), rr_bb2 hV]
  have e1 : (k_wordHere (k_blanks c)).1 = (k_wordHere c).1 := by
    unfold k_wordHere
    dsimp only
    rw [rr_bb2 hV]
  rw [e1]
