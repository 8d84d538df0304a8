/-! THE TIE: the words' values, a clause's kind -/
theorem rW_0 : rW 0 := by
  unfold rW
  decide
theorem rS_0 : rS 0 = 326369 := by decide
theorem rW_1 : rW 1 := by
  unfold rW
  decide
theorem rS_1 : rS 1 = 4786 := by decide
theorem rW_2 : rW 2 := by
  unfold rW
  decide
theorem rS_2 : rS 2 = 459652 := by decide
theorem rW_3 : rW 3 := by
  unfold rW
  decide
theorem rS_3 : rS 3 = 399749 := by decide
theorem rW_4 : rW 4 := by
  unfold rW
  decide
theorem rS_4 : rS 4 = 237292 := by decide
theorem rW_5 : rW 5 := by
  unfold rW
  decide
theorem rS_5 : rS 5 = 7650653949 := by decide
theorem rW_6 : rW 6 := by
  unfold rW
  decide
theorem rS_6 : rS 6 = 9173 := by decide
theorem rW_7 : rW 7 := by
  unfold rW
  decide
theorem rS_7 : rS 7 = 453773 := by decide
theorem rW_8 : rW 8 := by
  unfold rW
  decide
theorem rS_8 : rS 8 = 12257495 := by decide
theorem rW_9 : rW 9 := by
  unfold rW
  decide
theorem rS_9 : rS 9 = 10279865 := by decide
theorem rW_10 : rW 10 := by
  unfold rW
  decide
theorem rS_10 : rS 10 = 380068 := by decide
theorem rW_11 : rW 11 := by
  unfold rW
  decide
theorem rS_11 : rS 11 = 776813 := by decide
theorem rW_12 : rW 12 := by
  unfold rW
  decide
theorem rS_12 : rS 12 = 3379448 := by decide
theorem rW_13 : rW 13 := by
  unfold rW
  decide
theorem rS_13 : rS 13 = 11716 := by decide
theorem rW_14 : rW 14 := by
  unfold rW
  decide
theorem rS_14 : rS 14 = 267347 := by decide
theorem rW_15 : rW 15 := by
  unfold rW
  decide
theorem rS_15 : rS 15 = 10631 := by decide
theorem rW_16 : rW 16 := by
  unfold rW
  decide
theorem rS_16 : rS 16 = 8863997 := by decide
theorem rW_17 : rW 17 := by
  unfold rW
  decide
theorem rS_17 : rS 17 = 12253591 := by decide
theorem rW_18 : rW 18 := by
  unfold rW
  decide
theorem rS_18 : rS 18 = 388708 := by decide
theorem rW_19 : rW 19 := by
  unfold rW
  decide
theorem rS_19 : rS 19 = 10790420 := by decide
theorem rW_20 : rW 20 := by
  unfold rW
  decide
theorem rS_20 : rS 20 = 240023 := by decide
theorem rW_21 : rW 21 := by
  unfold rW
  decide
theorem rS_21 : rS 21 = 3436200 := by decide
theorem rW_22 : rW 22 := by
  unfold rW
  decide
theorem rS_22 : rS 22 = 212302449 := by decide
theorem rW_23 : rW 23 := by
  unfold rW
  decide
theorem rS_23 : rS 23 = 46054 := by decide
theorem rW_24 : rW 24 := by
  unfold rW
  decide
theorem rS_24 : rS 24 = 1111 := by decide
theorem rW_25 : rW 25 := by
  unfold rW
  decide
theorem rS_25 : rS 25 = 423 := by decide
theorem rr_if {α : Type} {P : Prop} [Decidable P] {X Y : α} : (if (if P then (1 : Int) else 0) = 0 then X else Y) = if P then Y else X := by
  by_cases g : P
  · rw [if_pos g, if_pos g, if_neg (by decide)]
  · rw [if_neg g, if_neg g, if_pos rfl]
/-- the class's number of a clause's word -/
def rK (v : Int) : Int := (if v = 326369 then 0 else (if v = 4786 then 1 else (if v = 459652 then 2 else (if v = 399749 then 3 else (if v = 237292 then 4 else (if v = 7650653949 then 5 else (if v = 9173 then 6 else (if v = 453773 then 7 else (if v = 12257495 then 8 else (if v = 10279865 then 9 else (if v = 380068 then 10 else -1)))))))))))
theorem rr_kindC {e p : am_F} {v : Int} (h : WdR e p v) : c_clauseKind e p = rK v := by
  unfold c_clauseKind rK
  simp only [rr_isW h rW_0, rS_0, rr_isW h rW_1, rS_1, rr_isW h rW_2, rS_2, rr_isW h rW_3, rS_3, rr_isW h rW_4, rS_4, rr_isW h rW_5, rS_5, rr_isW h rW_6, rS_6, rr_isW h rW_7, rS_7, rr_isW h rW_8, rS_8, rr_isW h rW_9, rS_9, rr_isW h rW_10, rS_10, rr_if]
/-- the model's number of the class's -/
def rM (k : Int) : Int := (if k = 0 then 0 else (if k = 1 then 11 else (if k = 2 then 8 else (if k = 3 then 9 else (if k = 4 then 2 else (if k = 5 then 10 else (if k = 6 then 3 else (if k = 7 then 4 else (if k = 8 then 5 else (if k = 9 then 7 else (if k = 10 then 6 else -1)))))))))))
theorem rr_kindK {c : am_F} (hV : RdV c) (h0 : c 0 5 = 0) : k_kindHere c = (rM (rK (k_wordHere c).1), k_blanks c) := by
  have s0 : k_seven 16 15 18 20 0 0 0 = 326369 := by decide
  have s1 : k_seven 12 1 13 16 0 0 0 = 237292 := by decide
  have s2 : k_seven 12 15 20 0 0 0 0 = 9173 := by decide
  have s3 : k_seven 23 1 12 11 0 0 0 = 453773 := by decide
  have s4 : k_seven 23 1 20 3 8 0 0 = 12257495 := by decide
  have s5 : k_seven 19 8 9 16 0 0 0 = 380068 := by decide
  have s6 : k_seven 19 9 7 8 20 0 0 = 10279865 := by decide
  have s7 : k_seven 23 9 14 4 0 0 0 = 459652 := by decide
  have s8 : k_seven 20 8 9 14 0 0 0 = 399749 := by decide
  have s9 : k_seven 19 20 5 1 13 5 18 = 7650653949 := by decide
  have s10 : k_seven 6 15 7 0 0 0 0 = 4786 := by decide
  unfold k_kindHere
  simp only [rr_isK h0, rr_isK2 hV h0, s0, s1, s2, s3, s4, s5, s6, s7, s8, s9, s10, rr_if]
  generalize (k_wordHere c).1 = v
  by_cases g0 : v = 326369
  · simp only [g0, rK, rM, Int.reduceEq, Int.reduceNeg, reduceIte]
  by_cases g1 : v = 4786
  · simp only [g1, rK, rM, Int.reduceEq, Int.reduceNeg, reduceIte]
  by_cases g2 : v = 459652
  · simp only [g2, rK, rM, Int.reduceEq, Int.reduceNeg, reduceIte]
  by_cases g3 : v = 399749
  · simp only [g3, rK, rM, Int.reduceEq, Int.reduceNeg, reduceIte]
  by_cases g4 : v = 237292
  · simp only [g4, rK, rM, Int.reduceEq, Int.reduceNeg, reduceIte]
  by_cases g5 : v = 7650653949
  · simp only [g5, rK, rM, Int.reduceEq, Int.reduceNeg, reduceIte]
  by_cases g6 : v = 9173
  · simp only [g6, rK, rM, Int.reduceEq, Int.reduceNeg, reduceIte]
  by_cases g7 : v = 453773
  · simp only [g7, rK, rM, Int.reduceEq, Int.reduceNeg, reduceIte]
  by_cases g8 : v = 12257495
  · simp only [g8, rK, rM, Int.reduceEq, Int.reduceNeg, reduceIte]
  by_cases g9 : v = 10279865
  · simp only [g9, rK, rM, Int.reduceEq, Int.reduceNeg, reduceIte]
  by_cases g10 : v = 380068
  · simp only [g10, rK, rM, Int.reduceEq, Int.reduceNeg, reduceIte]
  simp only [g0, g1, g2, g3, g4, g5, g6, g7, g8, g9, g10, rK, rM, Int.reduceEq, Int.reduceNeg, reduceIte]
/-- both at a fault of the same kind and place -/
theorem rr_wrong2 {e P c B : am_F} {x a : Int} (h : RR e P c) (hx : x ≠ 0) (h0 : c 0 5 = 0) (hB0 : B 0 5 = 0) (hB2 : B 0 2 = c 0 2) (hB1 : B 1 = c 1) (hV : RdV B) : RR e (c_wrong P x a) (k_wrong B x a) := by
  have hI := c_wrong_I h.2.2.2.2.2.1 x a
  have hV' := (k_wrong_x (x := x) (y := a) hV).1
  revert hI hV'
  unfold c_wrong k_wrong
  rw [if_pos (h.1.trans h0), if_pos hB0]
  intro hI hV'
  exact ⟨rfl, rfl, fun e => absurd e hx, h.2.2.2.1.trans hB2.symm, fun j hj => by
    have h9 := h.2.2.2.2.1 j (by rw [← hB2]; exact hj)
    rw [h9, ← hB1]; rfl, hI, hV'⟩
theorem rr_still {e p p' c : am_F} (h : RR e p c) (h5 : c 0 5 ≠ 0) (hI : RdI p') (h1 : p' 0 1 = p 0 1) (h4 : p' 0 4 = p 0 4) (hp : p' 0 5 = p 0 5) : RR e p' c := ⟨h4.trans h.1, hp.trans h.2.1, fun g => absurd g h5, h1.trans h.2.2.2.1, h.2.2.2.2.1, hI, h.2.2.2.2.2.2⟩
/-- other fields of the model than those of its reader don't matter -/
theorem rr_c {e p c c' : am_F} (h : RR e p c) (h1 : c' 1 = c 1) (h2 : ∀ j, j = 2 ∨ j = 4 ∨ j = 5 ∨ j = 6 → c' 0 j = c 0 j) : RR e p c' := by
  obtain ⟨a1, a2, a3, a4, a5, a6, a7⟩ := h
  have e2 := h2 2 (by decide)
  have e4 := h2 4 (by decide)
  have e5 := h2 5 (by decide)
  have e6 := h2 6 (by decide)
  refine ⟨by rw [e5]; exact a1, by rw [e6]; exact a2, fun g => by rw [e4]; rw [e5] at g; exact a3 g, by rw [e2]; exact a4, fun j hj => by rw [e2] at hj; rw [h1]; exact a5 j hj, a6, ?_⟩
  unfold RdV
  rw [e2, e4]
  exact a7
