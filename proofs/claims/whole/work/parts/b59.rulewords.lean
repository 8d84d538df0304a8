/-! THE TIE: the words of a rule -/
def rF (v : Int) : Int := (if v = 8863997 then 2 else (if v = 12253591 then 1 else (if v = 9173 then 0 else (if v = 388708 then 3 else (if v = 10790420 then 4 else (if v = 240023 then 5 else (if v = 3436200 then 6 else (if v = 212302449 then 7 else (if v = 46054 then 8 else -1)))))))))
theorem rr_factC {e p : am_F} {v : Int} (h : WdR e p v) : c_readFact e p = rF v := by
  unfold c_readFact rF
  simp only [rr_isW h rW_16, rS_16, rr_isW h rW_17, rS_17, rr_isW h rW_6, rS_6, rr_isW h rW_18, rS_18, rr_isW h rW_19, rS_19, rr_isW h rW_20, rS_20, rr_isW h rW_21, rS_21, rr_isW h rW_22, rS_22, rr_isW h rW_23, rS_23, rr_if]
def rP (v : Int) : Int := (if v = 776813 then 0 else (if v = 3379448 then 1 else (if v = 11716 then 2 else (if v = 267347 then 3 else -1))))
theorem rr_partC {e p : am_F} {v : Int} (h : WdR e p v) : c_partKind e p = rP v := by
  unfold c_partKind rP
  simp only [rr_isW h rW_11, rS_11, rr_isW h rW_12, rS_12, rr_isW h rW_13, rS_13, rr_isW h rW_14, rS_14, rr_if]
def rN (v : Int) : Int := (if v = 8863997 then 0 else (if v = 12253591 then 1 else (if v = 9173 then 2 else (if v = 388708 then 3 else (if v = 10790420 then 4 else (if v = 240023 then 5 else (if v = 3436200 then 6 else (if v = 212302449 then 7 else (if v = 46054 then 8 else -1)))))))))
theorem rr_takeK {c : am_F} (h0 : c 0 5 = 0) (la lb lc ld le lf lg : Int) : k_takes c la lb lc ld le lf lg = (if (k_wordHere c).1 = k_seven la lb lc ld le lf lg then 1 else 0, if (k_wordHere c).1 = k_seven la lb lc ld le lf lg then k_skipWord (k_blanks c) else k_blanks c) := by
  unfold k_takes
  rw [rr_isK h0]
  dsimp only
  by_cases g : (k_wordHere c).1 = k_seven la lb lc ld le lf lg
  · rw [if_pos g, if_pos g, if_neg (by decide)]
  · rw [if_neg g, if_neg g, if_pos rfl]
theorem rr_knownK {c : am_F} (h0 : c 0 5 = 0) (hb : k_blanks c = c) : k_knownHere c = (rN (k_wordHere c).1, if rN (k_wordHere c).1 = -1 then c else k_skipWord c) := by
  have s16 : k_seven 16 18 9 3 5 0 0 = 8863997 := by decide
  have s17 : k_seven 23 1 14 20 19 0 0 = 12253591 := by decide
  have s6 : k_seven 12 15 20 0 0 0 0 = 9173 := by decide
  have s18 : k_seven 19 20 5 16 0 0 0 = 388708 := by decide
  have s19 : k_seven 20 8 5 18 5 0 0 = 10790420 := by decide
  have s20 : k_seven 12 5 6 20 0 0 0 = 240023 := by decide
  have s21 : k_seven 6 12 15 15 18 0 0 = 3436200 := by decide
  have s22 : k_seven 14 21 13 2 5 18 0 = 212302449 := by decide
  have s23 : k_seven 2 9 4 19 0 0 0 = 46054 := by decide
  have tk := fun la lb lc ld le lf lg => rr_takeK (c := c) h0 la lb lc ld le lf lg
  rw [hb] at tk
  have ty : ∀ la lb lc ld le lf lg, (k_wordHere c).1 = k_seven la lb lc ld le lf lg → k_takes c la lb lc ld le lf lg = (1, k_skipWord c) := fun la lb lc ld le lf lg g => by rw [tk, if_pos g, if_pos g]
  have tn : ∀ la lb lc ld le lf lg, (k_wordHere c).1 ≠ k_seven la lb lc ld le lf lg → k_takes c la lb lc ld le lf lg = (0, c) := fun la lb lc ld le lf lg g => by rw [tk, if_neg g, if_neg g]
  unfold k_knownHere rN
  by_cases g16 : (k_wordHere c).1 = 8863997
  · rw [ty _ _ _ _ _ _ _ (g16.trans s16.symm)]
    simp only [g16, Int.reduceEq, Int.reduceNeg, reduceIte]
  rw [tn _ _ _ _ _ _ _ (fun h => g16 (h.trans s16))]
  simp only [g16, reduceIte]
  by_cases g17 : (k_wordHere c).1 = 12253591
  · rw [ty _ _ _ _ _ _ _ (g17.trans s17.symm)]
    simp only [g17, Int.reduceEq, Int.reduceNeg, reduceIte]
  rw [tn _ _ _ _ _ _ _ (fun h => g17 (h.trans s17))]
  simp only [g17, reduceIte]
  by_cases g6 : (k_wordHere c).1 = 9173
  · rw [ty _ _ _ _ _ _ _ (g6.trans s6.symm)]
    simp only [g6, Int.reduceEq, Int.reduceNeg, reduceIte]
  rw [tn _ _ _ _ _ _ _ (fun h => g6 (h.trans s6))]
  simp only [g6, reduceIte]
  by_cases g18 : (k_wordHere c).1 = 388708
  · rw [ty _ _ _ _ _ _ _ (g18.trans s18.symm)]
    simp only [g18, Int.reduceEq, Int.reduceNeg, reduceIte]
  rw [tn _ _ _ _ _ _ _ (fun h => g18 (h.trans s18))]
  simp only [g18, reduceIte]
  by_cases g19 : (k_wordHere c).1 = 10790420
  · rw [ty _ _ _ _ _ _ _ (g19.trans s19.symm)]
    simp only [g19, Int.reduceEq, Int.reduceNeg, reduceIte]
  rw [tn _ _ _ _ _ _ _ (fun h => g19 (h.trans s19))]
  simp only [g19, reduceIte]
  by_cases g20 : (k_wordHere c).1 = 240023
  · rw [ty _ _ _ _ _ _ _ (g20.trans s20.symm)]
    simp only [g20, Int.reduceEq, Int.reduceNeg, reduceIte]
  rw [tn _ _ _ _ _ _ _ (fun h => g20 (h.trans s20))]
  simp only [g20, reduceIte]
  by_cases g21 : (k_wordHere c).1 = 3436200
  · rw [ty _ _ _ _ _ _ _ (g21.trans s21.symm)]
    simp only [g21, Int.reduceEq, Int.reduceNeg, reduceIte]
  rw [tn _ _ _ _ _ _ _ (fun h => g21 (h.trans s21))]
  simp only [g21, reduceIte]
  by_cases g22 : (k_wordHere c).1 = 212302449
  · rw [ty _ _ _ _ _ _ _ (g22.trans s22.symm)]
    simp only [g22, Int.reduceEq, Int.reduceNeg, reduceIte]
  rw [tn _ _ _ _ _ _ _ (fun h => g22 (h.trans s22))]
  simp only [g22, reduceIte]
  by_cases g23 : (k_wordHere c).1 = 46054
  · rw [ty _ _ _ _ _ _ _ (g23.trans s23.symm)]
    simp only [g23, Int.reduceEq, Int.reduceNeg, reduceIte]
  rw [tn _ _ _ _ _ _ _ (fun h => g23 (h.trans s23))]
  simp only [g23, reduceIte]

theorem rF_rN (v : Int) : (rN v = -1 ∧ rF v = -1) ∨ ((0 ≤ rN v ∧ rN v ≤ 8) ∧ rF v = ti_sw (rN v)) := by
  unfold rN rF
  by_cases g16 : v = 8863997
  · simp only [g16, Int.reduceEq, Int.reduceNeg, reduceIte]
    decide
  by_cases g17 : v = 12253591
  · simp only [g17, Int.reduceEq, Int.reduceNeg, reduceIte]
    decide
  by_cases g6 : v = 9173
  · simp only [g6, Int.reduceEq, Int.reduceNeg, reduceIte]
    decide
  by_cases g18 : v = 388708
  · simp only [g18, Int.reduceEq, Int.reduceNeg, reduceIte]
    decide
  by_cases g19 : v = 10790420
  · simp only [g19, Int.reduceEq, Int.reduceNeg, reduceIte]
    decide
  by_cases g20 : v = 240023
  · simp only [g20, Int.reduceEq, Int.reduceNeg, reduceIte]
    decide
  by_cases g21 : v = 3436200
  · simp only [g21, Int.reduceEq, Int.reduceNeg, reduceIte]
    decide
  by_cases g22 : v = 212302449
  · simp only [g22, Int.reduceEq, Int.reduceNeg, reduceIte]
    decide
  by_cases g23 : v = 46054
  · simp only [g23, Int.reduceEq, Int.reduceNeg, reduceIte]
    decide
  simp only [g16, g17, g6, g18, g19, g20, g21, g22, g23, reduceIte]
  decide
theorem rN_0 : rN 0 = -1 := by decide
theorem rF_0 : rF 0 = -1 := by decide
theorem rP_0 : rP 0 = -1 := by decide
theorem rP_r (v : Int) : rP v = -1 ∨ (0 ≤ rP v ∧ rP v ≤ 3) := by
  unfold rP
  repeat' split
  all_goals first | exact Or.inl rfl | exact Or.inr ⟨by decide, by decide⟩
theorem rS_pos {j : Nat} (h : rW j) : 1 ≤ rS j := (rv_pos _ h.2).2 (by have := h.1.1; omega)
/-- a word taken, on both sides -/
theorem rr_takesW {e p c : am_F} {j : Nat} (h : RR e p c) (t : TpI e) (h0 : c 0 5 = 0) (hj : rW j) : (c_takesWord e p j).1 = (if (k_wordHere c).1 = rS j then 1 else 0) ∧ ((k_wordHere c).1 ≠ rS j → RR e (c_takesWord e p j).2 (k_blanks c)) ∧ ((k_wordHere c).1 = rS j → RR e (c_takesWord e p j).2 (k_skipWord (k_blanks c)) ∧ (c_takesWord e p j).2 0 3 = k_blanks c 0 4 ∧ k_skipWord (k_blanks c) 0 5 = 0 ∧ ∀ k j, ¬ (k = 0 ∧ j = 4) → k_skipWord (k_blanks c) k j = k_blanks c k j) := by
  have hI := (Rd2.takesWord (j := j) (Rd2.rf h.2.2.2.2.2.1) t).1
  obtain ⟨q1, q2⟩ := rr_peek h t h0
  have hp0 : p 0 4 = 0 := h.1.trans h0
  have b5 : k_blanks c 0 5 = 0 := k_blanks_5.trans h0
  have hbb := rr_bb2 h.2.2.2.2.2.2
  have hS := rS_pos hj
  have eW : (k_wordHere (k_blanks c)).1 = (k_wordHere c).1 := by
    unfold k_wordHere
    dsimp only
    rw [hbb]
  obtain ⟨wd, -, w3, w4, w5⟩ := rr_word q1 t b5
  rw [hbb] at w3 w4 w5
  rw [eW] at wd w4
  have eT : c_takesWord e p j = if k_isSmall (k_byteAt (k_blanks c) (k_blanks c 0 4)) = 0 then (0, (c_peek e p).2) else if c_isWord e (c_word e (c_peek e p).2).2 j = 0 then (0, am_put (c_word e (c_peek e p).2).2 0 2 ((c_word e (c_peek e p).2).2 0 3)) else (1, (c_word e (c_peek e p).2).2) := by
    unfold c_takesWord
    dsimp only
    rw [if_neg (by rw [c_fine_1 hp0]; decide), q2, rr_let]
  rw [eT] at hI ⊢
  rcases k_isSmall_s (k_byteAt (k_blanks c) (k_blanks c 0 4)) with ⟨d1, -⟩ | ⟨d1, -⟩
  · obtain ⟨x1, x2, x3, x4, x5⟩ := w5 d1
    have dn : ¬ k_isSmall (k_byteAt (k_blanks c) (k_blanks c 0 4)) = 0 := by rw [d1]; decide
    rw [if_neg dn, rr_isW wd hj] at hI ⊢
    by_cases g : (k_wordHere c).1 = rS j
    · rw [if_pos g, if_neg (show ¬ (1 : Int) = 0 by decide)]
      exact ⟨rfl, fun gn => absurd g gn, fun _ => ⟨x1, w3, x3, x4⟩⟩
    · rw [if_neg g, if_pos rfl] at hI ⊢
      refine ⟨rfl, fun _ => ?_, fun gn => absurd gn g⟩
      obtain ⟨i1, i2, i3, i4, i5, i6, i7⟩ := x1
      refine ⟨i1.trans (x4 0 5 (by decide)), i2.trans (x4 0 6 (by decide)), fun _ => ?_, i4.trans (x4 0 2 (by decide)), fun m hm => ?_, hI, q1.2.2.2.2.2.2⟩
      · dsimp only
        rw [am_put_s, w3]
      · rw [i5 m (by rw [x4 0 2 (by decide)]; exact hm), x4 1 m (fun e => absurd e.1 (by decide))]
  · obtain ⟨-, -, x3⟩ := w4 d1
    rw [if_pos d1]
    refine ⟨?_, fun _ => q1, fun g => by omega⟩
    rw [if_neg (by omega)]
theorem rr_takes {e p c : am_F} {j : Nat} {la lb lc ld le lf lg : Int} (h : RR e p c) (t : TpI e) (hj : rW j) (hs : k_seven la lb lc ld le lf lg = rS j) : RR e (c_takesWord e p j).2 (k_takes c la lb lc ld le lf lg).2 ∧ (c_takesWord e p j).1 = (k_takes c la lb lc ld le lf lg).1 := by
  by_cases h0 : c 0 5 = 0
  · obtain ⟨a1, a2, a3⟩ := rr_takesW h t h0 hj
    rw [rr_takeK h0, hs]
    by_cases g : (k_wordHere c).1 = rS j
    · rw [if_pos g] at a1
      rw [if_pos g, if_pos g]
      exact ⟨(a3 g).1, a1⟩
    · rw [if_neg g] at a1
      rw [if_neg g, if_neg g]
      exact ⟨a2 g, a1⟩
  · have e1 : k_takes c la lb lc ld le lf lg = (0, c) := by
      unfold k_takes k_isWord
      dsimp only
      rw [if_neg h0, if_neg h0, if_pos rfl]
    rw [e1, takesWord_s (by rw [h.1]; exact h0)]
    exact ⟨h, rfl⟩
