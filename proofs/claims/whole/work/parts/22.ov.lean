/-! a region of the heap laid anew: cells b .. b + n - 1 are c's -/
def am_ov (w : AH) (b n : Nat) (c : Nat → AC) : AH := w.mapIdx (fun i x => if b ≤ i ∧ i < b + n then c (i - b) else x)
theorem am_ovl {w : AH} {b n : Nat} {c : Nat → AC} : (am_ov w b n c).length = w.length := by simp [am_ov]
theorem am_ovi {w : AH} {b n : Nat} {c : Nat → AC} (hl : b + n ≤ w.length) (k : Nat) (hk : k < n) : (am_ov w b n c)[b + k]? = some (c k) := by
  have h1 : b + k < w.length := by omega
  unfold am_ov
  rw [List.getElem?_mapIdx, List.getElem?_eq_getElem h1]
  simp only [Option.map_some]
  rw [if_pos (by omega), show b + k - b = k by omega]
theorem am_ovo {w : AH} {b n : Nat} {c : Nat → AC} (j : Nat) (hj : j < b ∨ b + n ≤ j) : (am_ov w b n c)[j]? = w[j]? := by
  unfold am_ov
  rw [List.getElem?_mapIdx]
  cases h : w[j]? with
  | none => rfl
  | some v => simp only [Option.map_some]; rw [if_neg (by omega)]
theorem am_ovext {w w' : AH} (h : ∀ j : Nat, w[j]? = w'[j]?) : w = w' := List.ext_getElem? h
theorem am_ovself {w : AH} {b n : Nat} {c : Nat → AC} (h : ∀ k, k < n → w[b + k]? = some (c k)) : am_ov w b n c = w := by
  refine am_ovext (fun j => ?_)
  unfold am_ov
  rw [List.getElem?_mapIdx]
  by_cases hj : b ≤ j ∧ j < b + n
  · have e := h (j - b) (by omega)
    rw [show b + (j - b) = j by omega] at e
    rw [e]
    simp only [Option.map_some]
    rw [if_pos hj]
  · cases h2 : w[j]? with
    | none => rfl
    | some v => simp only [Option.map_some]; rw [if_neg hj]
theorem am_ovset {w : AH} {b n : Nat} {c c' : Nat → AC} {x : AC} (k : Nat) (hk : k < n) (hc : ∀ j, j < n → (if j = k then x else c j) = c' j) : (am_ov w b n c).set (b + k) x = am_ov w b n c' := by
  refine am_ovext (fun j => ?_)
  by_cases hj : b ≤ j ∧ j < b + n
  · have e := hc (j - b) (by omega)
    rw [List.getElem?_set]
    unfold am_ov
    rw [List.getElem?_mapIdx, List.getElem?_mapIdx, List.length_mapIdx]
    cases h2 : w[j]? with
    | none =>
      have := List.getElem?_eq_none_iff.mp h2
      simp only [Option.map_none]
      split
      · rw [if_neg (by omega)]
      · rfl
    | some v =>
      have := (List.getElem?_eq_some_iff.mp h2).1
      simp only [Option.map_some]
      rw [if_pos hj, if_pos hj, ← e]
      by_cases q : b + k = j
      · rw [if_pos q, if_pos (by omega), if_pos (by omega)]
      · rw [if_neg q, if_neg (by omega)]
  · rw [am_ovo j (by omega), List.getElem?_set_ne (by omega), am_ovo j (by omega)]
theorem am_ovov {w : AH} {b n : Nat} {c c' : Nat → AC} : am_ov (am_ov w b n c) b n c' = am_ov w b n c' := by
  refine am_ovext (fun j => ?_)
  unfold am_ov
  rw [List.getElem?_mapIdx, List.getElem?_mapIdx, List.getElem?_mapIdx]
  cases h2 : w[j]? with
  | none => rfl
  | some v =>
    simp only [Option.map_some]
    split <;> rfl
/-! one number put anew -/
def am_put (r : am_F) (k : Nat) (i : Nat) (v : Int) : am_F := fun k' j => if k' = k then am_up (r k) i v j else r k' j
/-- row k laid anew -/
def am_row (r : am_F) (k : Nat) (f : Nat → Int) : am_F := fun k' j => if k' = k then f j else r k' j
def rnW (w : AH) (b hb : Nat) (r : am_F) : AH := am_ov w b 10 (rnC b hb r)
theorem rnW_Rn {w : AH} {b hb : Nat} {r : am_F} (hl : b + 10 ≤ w.length) : Rn (rnW w b hb r) b hb r := fun k hk => am_ovi hl k hk
theorem rnW_self {w : AH} {b hb : Nat} {r : am_F} (h : Rn w b hb r) : rnW w b hb r = w := am_ovself h
theorem rnW_W {w : AH} {b hb hb' : Nat} {r r' : am_F} : rnW (rnW w b hb r) b hb' r' = rnW w b hb' r' := am_ovov
theorem rnW_Hb {w : AH} {b hb c : Nat} {r h : am_F} (hd : c + 20 ≤ b ∨ b + 10 ≤ c) (hH : Hb w c h) : Hb (rnW w b hb r) c h := fun k hk => by
  unfold rnW
  rw [am_ovo (c + k) (by omega)]
  exact hH k hk
theorem rnW_R2 {w : AH} {b hb c hc : Nat} {r r' : am_F} (hd : c + 10 ≤ b ∨ b + 10 ≤ c) (hH : Rn w c hc r') : Rn (rnW w b hb r) c hc r' := fun k hk => by
  unfold rnW
  rw [am_ovo (c + k) (by omega)]
  exact hH k hk
theorem Rn_len {w : AH} {b hb : Nat} {r : am_F} (h : Rn w b hb r) : b + 10 ≤ w.length := (List.getElem?_eq_some_iff.mp (h 9 (by decide))).1
theorem rnW_p1 {w : AH} {b hb : Nat} {r : am_F} {i : Nat} {v : Int} : (rnW w b hb r).set (b + 1) (cP 0 3690 (am_up (r 1) i v)) = rnW w b hb (am_put r 1 i v) := am_ovset 1 (by decide) (fun j hj => match j, hj with | 0, _ => rfl | 1, _ => rfl | 2, _ => rfl | 3, _ => rfl | 4, _ => rfl | 5, _ => rfl | 6, _ => rfl | 7, _ => rfl | 8, _ => rfl | 9, _ => rfl | n + 10, h => absurd h (by omega))
theorem rnW_r1 {w : AH} {b hb : Nat} {r : am_F} {f : Nat → Int} : (rnW w b hb r).set (b + 1) (cP 0 3690 f) = rnW w b hb (am_row r 1 f) := am_ovset 1 (by decide) (fun j hj => match j, hj with | 0, _ => rfl | 1, _ => rfl | 2, _ => rfl | 3, _ => rfl | 4, _ => rfl | 5, _ => rfl | 6, _ => rfl | 7, _ => rfl | 8, _ => rfl | 9, _ => rfl | n + 10, h => absurd h (by omega))
theorem rnW_p2 {w : AH} {b hb : Nat} {r : am_F} {i : Nat} {v : Int} : (rnW w b hb r).set (b + 2) (cP 0 41 (am_up (r 2) i v)) = rnW w b hb (am_put r 2 i v) := am_ovset 2 (by decide) (fun j hj => match j, hj with | 0, _ => rfl | 1, _ => rfl | 2, _ => rfl | 3, _ => rfl | 4, _ => rfl | 5, _ => rfl | 6, _ => rfl | 7, _ => rfl | 8, _ => rfl | 9, _ => rfl | n + 10, h => absurd h (by omega))
theorem rnW_r2 {w : AH} {b hb : Nat} {r : am_F} {f : Nat → Int} : (rnW w b hb r).set (b + 2) (cP 0 41 f) = rnW w b hb (am_row r 2 f) := am_ovset 2 (by decide) (fun j hj => match j, hj with | 0, _ => rfl | 1, _ => rfl | 2, _ => rfl | 3, _ => rfl | 4, _ => rfl | 5, _ => rfl | 6, _ => rfl | 7, _ => rfl | 8, _ => rfl | 9, _ => rfl | n + 10, h => absurd h (by omega))
theorem rnW_p3 {w : AH} {b hb : Nat} {r : am_F} {i : Nat} {v : Int} : (rnW w b hb r).set (b + 3) (cP 0 41 (am_up (r 3) i v)) = rnW w b hb (am_put r 3 i v) := am_ovset 3 (by decide) (fun j hj => match j, hj with | 0, _ => rfl | 1, _ => rfl | 2, _ => rfl | 3, _ => rfl | 4, _ => rfl | 5, _ => rfl | 6, _ => rfl | 7, _ => rfl | 8, _ => rfl | 9, _ => rfl | n + 10, h => absurd h (by omega))
theorem rnW_r3 {w : AH} {b hb : Nat} {r : am_F} {f : Nat → Int} : (rnW w b hb r).set (b + 3) (cP 0 41 f) = rnW w b hb (am_row r 3 f) := am_ovset 3 (by decide) (fun j hj => match j, hj with | 0, _ => rfl | 1, _ => rfl | 2, _ => rfl | 3, _ => rfl | 4, _ => rfl | 5, _ => rfl | 6, _ => rfl | 7, _ => rfl | 8, _ => rfl | 9, _ => rfl | n + 10, h => absurd h (by omega))
theorem rnW_p4 {w : AH} {b hb : Nat} {r : am_F} {i : Nat} {v : Int} : (rnW w b hb r).set (b + 4) (cP 0 41 (am_up (r 4) i v)) = rnW w b hb (am_put r 4 i v) := am_ovset 4 (by decide) (fun j hj => match j, hj with | 0, _ => rfl | 1, _ => rfl | 2, _ => rfl | 3, _ => rfl | 4, _ => rfl | 5, _ => rfl | 6, _ => rfl | 7, _ => rfl | 8, _ => rfl | 9, _ => rfl | n + 10, h => absurd h (by omega))
theorem rnW_r4 {w : AH} {b hb : Nat} {r : am_F} {f : Nat → Int} : (rnW w b hb r).set (b + 4) (cP 0 41 f) = rnW w b hb (am_row r 4 f) := am_ovset 4 (by decide) (fun j hj => match j, hj with | 0, _ => rfl | 1, _ => rfl | 2, _ => rfl | 3, _ => rfl | 4, _ => rfl | 5, _ => rfl | 6, _ => rfl | 7, _ => rfl | 8, _ => rfl | 9, _ => rfl | n + 10, h => absurd h (by omega))
theorem rnW_p5 {w : AH} {b hb : Nat} {r : am_F} {i : Nat} {v : Int} : (rnW w b hb r).set (b + 5) (cP 0 41 (am_up (r 5) i v)) = rnW w b hb (am_put r 5 i v) := am_ovset 5 (by decide) (fun j hj => match j, hj with | 0, _ => rfl | 1, _ => rfl | 2, _ => rfl | 3, _ => rfl | 4, _ => rfl | 5, _ => rfl | 6, _ => rfl | 7, _ => rfl | 8, _ => rfl | 9, _ => rfl | n + 10, h => absurd h (by omega))
theorem rnW_r5 {w : AH} {b hb : Nat} {r : am_F} {f : Nat → Int} : (rnW w b hb r).set (b + 5) (cP 0 41 f) = rnW w b hb (am_row r 5 f) := am_ovset 5 (by decide) (fun j hj => match j, hj with | 0, _ => rfl | 1, _ => rfl | 2, _ => rfl | 3, _ => rfl | 4, _ => rfl | 5, _ => rfl | 6, _ => rfl | 7, _ => rfl | 8, _ => rfl | 9, _ => rfl | n + 10, h => absurd h (by omega))
theorem rnW_p6 {w : AH} {b hb : Nat} {r : am_F} {i : Nat} {v : Int} : (rnW w b hb r).set (b + 6) (cP 0 41 (am_up (r 6) i v)) = rnW w b hb (am_put r 6 i v) := am_ovset 6 (by decide) (fun j hj => match j, hj with | 0, _ => rfl | 1, _ => rfl | 2, _ => rfl | 3, _ => rfl | 4, _ => rfl | 5, _ => rfl | 6, _ => rfl | 7, _ => rfl | 8, _ => rfl | 9, _ => rfl | n + 10, h => absurd h (by omega))
theorem rnW_r6 {w : AH} {b hb : Nat} {r : am_F} {f : Nat → Int} : (rnW w b hb r).set (b + 6) (cP 0 41 f) = rnW w b hb (am_row r 6 f) := am_ovset 6 (by decide) (fun j hj => match j, hj with | 0, _ => rfl | 1, _ => rfl | 2, _ => rfl | 3, _ => rfl | 4, _ => rfl | 5, _ => rfl | 6, _ => rfl | 7, _ => rfl | 8, _ => rfl | 9, _ => rfl | n + 10, h => absurd h (by omega))
theorem rnW_p7 {w : AH} {b hb : Nat} {r : am_F} {i : Nat} {v : Int} : (rnW w b hb r).set (b + 7) (cP 0 287 (am_up (r 7) i v)) = rnW w b hb (am_put r 7 i v) := am_ovset 7 (by decide) (fun j hj => match j, hj with | 0, _ => rfl | 1, _ => rfl | 2, _ => rfl | 3, _ => rfl | 4, _ => rfl | 5, _ => rfl | 6, _ => rfl | 7, _ => rfl | 8, _ => rfl | 9, _ => rfl | n + 10, h => absurd h (by omega))
theorem rnW_r7 {w : AH} {b hb : Nat} {r : am_F} {f : Nat → Int} : (rnW w b hb r).set (b + 7) (cP 0 287 f) = rnW w b hb (am_row r 7 f) := am_ovset 7 (by decide) (fun j hj => match j, hj with | 0, _ => rfl | 1, _ => rfl | 2, _ => rfl | 3, _ => rfl | 4, _ => rfl | 5, _ => rfl | 6, _ => rfl | 7, _ => rfl | 8, _ => rfl | 9, _ => rfl | n + 10, h => absurd h (by omega))
theorem rnW_p8 {w : AH} {b hb : Nat} {r : am_F} {i : Nat} {v : Int} : (rnW w b hb r).set (b + 8) (cP 0 630 (am_up (r 8) i v)) = rnW w b hb (am_put r 8 i v) := am_ovset 8 (by decide) (fun j hj => match j, hj with | 0, _ => rfl | 1, _ => rfl | 2, _ => rfl | 3, _ => rfl | 4, _ => rfl | 5, _ => rfl | 6, _ => rfl | 7, _ => rfl | 8, _ => rfl | 9, _ => rfl | n + 10, h => absurd h (by omega))
theorem rnW_r8 {w : AH} {b hb : Nat} {r : am_F} {f : Nat → Int} : (rnW w b hb r).set (b + 8) (cP 0 630 f) = rnW w b hb (am_row r 8 f) := am_ovset 8 (by decide) (fun j hj => match j, hj with | 0, _ => rfl | 1, _ => rfl | 2, _ => rfl | 3, _ => rfl | 4, _ => rfl | 5, _ => rfl | 6, _ => rfl | 7, _ => rfl | 8, _ => rfl | 9, _ => rfl | n + 10, h => absurd h (by omega))
theorem rnW_p9 {w : AH} {b hb : Nat} {r : am_F} {i : Nat} {v : Int} : (rnW w b hb r).set (b + 9) (cP 0 36 (am_up (r 9) i v)) = rnW w b hb (am_put r 9 i v) := am_ovset 9 (by decide) (fun j hj => match j, hj with | 0, _ => rfl | 1, _ => rfl | 2, _ => rfl | 3, _ => rfl | 4, _ => rfl | 5, _ => rfl | 6, _ => rfl | 7, _ => rfl | 8, _ => rfl | 9, _ => rfl | n + 10, h => absurd h (by omega))
theorem rnW_r9 {w : AH} {b hb : Nat} {r : am_F} {f : Nat → Int} : (rnW w b hb r).set (b + 9) (cP 0 36 f) = rnW w b hb (am_row r 9 f) := am_ovset 9 (by decide) (fun j hj => match j, hj with | 0, _ => rfl | 1, _ => rfl | 2, _ => rfl | 3, _ => rfl | 4, _ => rfl | 5, _ => rfl | 6, _ => rfl | 7, _ => rfl | 8, _ => rfl | 9, _ => rfl | n + 10, h => absurd h (by omega))
theorem rnW_f1 {w : AH} {b hb : Nat} {r : am_F} {v : Int} : (rnW w b hb r).set b (cO 8 [aR hb, aI v, aI (r 0 2), aI (r 0 3), aI (r 0 4), aI (r 0 5), aR (b + 1), aR (b + 2), aR (b + 3), aR (b + 4), aR (b + 5), aR (b + 6), aR (b + 7), aR (b + 8), aR (b + 9)]) = rnW w b hb (am_put r 0 1 v) := am_ovset (b := b) 0 (by decide) (fun j hj => match j, hj with | 0, _ => rfl | 1, _ => rfl | 2, _ => rfl | 3, _ => rfl | 4, _ => rfl | 5, _ => rfl | 6, _ => rfl | 7, _ => rfl | 8, _ => rfl | 9, _ => rfl | n + 10, h => absurd h (by omega))
theorem rnW_f2 {w : AH} {b hb : Nat} {r : am_F} {v : Int} : (rnW w b hb r).set b (cO 8 [aR hb, aI (r 0 1), aI v, aI (r 0 3), aI (r 0 4), aI (r 0 5), aR (b + 1), aR (b + 2), aR (b + 3), aR (b + 4), aR (b + 5), aR (b + 6), aR (b + 7), aR (b + 8), aR (b + 9)]) = rnW w b hb (am_put r 0 2 v) := am_ovset (b := b) 0 (by decide) (fun j hj => match j, hj with | 0, _ => rfl | 1, _ => rfl | 2, _ => rfl | 3, _ => rfl | 4, _ => rfl | 5, _ => rfl | 6, _ => rfl | 7, _ => rfl | 8, _ => rfl | 9, _ => rfl | n + 10, h => absurd h (by omega))
theorem rnW_f3 {w : AH} {b hb : Nat} {r : am_F} {v : Int} : (rnW w b hb r).set b (cO 8 [aR hb, aI (r 0 1), aI (r 0 2), aI v, aI (r 0 4), aI (r 0 5), aR (b + 1), aR (b + 2), aR (b + 3), aR (b + 4), aR (b + 5), aR (b + 6), aR (b + 7), aR (b + 8), aR (b + 9)]) = rnW w b hb (am_put r 0 3 v) := am_ovset (b := b) 0 (by decide) (fun j hj => match j, hj with | 0, _ => rfl | 1, _ => rfl | 2, _ => rfl | 3, _ => rfl | 4, _ => rfl | 5, _ => rfl | 6, _ => rfl | 7, _ => rfl | 8, _ => rfl | 9, _ => rfl | n + 10, h => absurd h (by omega))
theorem rnW_f4 {w : AH} {b hb : Nat} {r : am_F} {v : Int} : (rnW w b hb r).set b (cO 8 [aR hb, aI (r 0 1), aI (r 0 2), aI (r 0 3), aI v, aI (r 0 5), aR (b + 1), aR (b + 2), aR (b + 3), aR (b + 4), aR (b + 5), aR (b + 6), aR (b + 7), aR (b + 8), aR (b + 9)]) = rnW w b hb (am_put r 0 4 v) := am_ovset (b := b) 0 (by decide) (fun j hj => match j, hj with | 0, _ => rfl | 1, _ => rfl | 2, _ => rfl | 3, _ => rfl | 4, _ => rfl | 5, _ => rfl | 6, _ => rfl | 7, _ => rfl | 8, _ => rfl | 9, _ => rfl | n + 10, h => absurd h (by omega))
theorem rnW_f5 {w : AH} {b hb : Nat} {r : am_F} {v : Int} : (rnW w b hb r).set b (cO 8 [aR hb, aI (r 0 1), aI (r 0 2), aI (r 0 3), aI (r 0 4), aI v, aR (b + 1), aR (b + 2), aR (b + 3), aR (b + 4), aR (b + 5), aR (b + 6), aR (b + 7), aR (b + 8), aR (b + 9)]) = rnW w b hb (am_put r 0 5 v) := am_ovset (b := b) 0 (by decide) (fun j hj => match j, hj with | 0, _ => rfl | 1, _ => rfl | 2, _ => rfl | 3, _ => rfl | 4, _ => rfl | 5, _ => rfl | 6, _ => rfl | 7, _ => rfl | 8, _ => rfl | 9, _ => rfl | n + 10, h => absurd h (by omega))
theorem rnW_h {w : AH} {b hb hb2 : Nat} {r : am_F} : (rnW w b hb r).set b (cO 8 [aR hb2, aI (r 0 1), aI (r 0 2), aI (r 0 3), aI (r 0 4), aI (r 0 5), aR (b + 1), aR (b + 2), aR (b + 3), aR (b + 4), aR (b + 5), aR (b + 6), aR (b + 7), aR (b + 8), aR (b + 9)]) = rnW w b hb2 r := am_ovset (b := b) 0 (by decide) (fun j hj => match j, hj with | 0, _ => rfl | 1, _ => rfl | 2, _ => rfl | 3, _ => rfl | 4, _ => rfl | 5, _ => rfl | 6, _ => rfl | 7, _ => rfl | 8, _ => rfl | 9, _ => rfl | n + 10, h => absurd h (by omega))
theorem am_upB {f : Nat → Int} {lo hi v : Int} {i : Nat} (h : ∀ j, lo ≤ f j ∧ f j ≤ hi) (hv : lo ≤ v ∧ v ≤ hi) : ∀ j, lo ≤ am_up f i v j ∧ am_up f i v j ≤ hi := fun j => by
  unfold am_up
  split
  · exact hv
  · exact h j
