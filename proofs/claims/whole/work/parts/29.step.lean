/-! what a STEP's parts keep, in numbers only -/
theorem f_carry1_at (r : am_F) (s cell yards : Int) (j : Nat) : f_carry1 r s cell yards 1 j = if j = ((s + 1) * 90 + cell).toNat then r 1 ((s + 1) * 90 + cell).toNat - yards else r 1 j := rfl
theorem f_carry2_at (r : am_F) (s cell yards t : Int) (j : Nat) : f_carry2 r s cell yards t 1 j = if j = ((s + 1) * 90 + t).toNat then f_carry1 r s cell yards 1 ((s + 1) * 90 + t).toNat + yards else f_carry1 r s cell yards 1 j := rfl
def FrR (s : Int) (r r' : am_F) : Prop := ∀ j : Nat, (j : Int) < (s + 1) * 90 ∨ (s + 2) * 90 ≤ (j : Int) → r' 1 j = r 1 j
theorem FrR.tr {s : Int} {r r' r'' : am_F} (h : FrR s r r') (h' : FrR s r' r'') : FrR s r r'' := fun j hj => (h' j hj).trans (h j hj)
theorem FrR.rf {s : Int} {r : am_F} : FrR s r r := fun _ _ => rfl
theorem FrR.up {s : Int} {r r' : am_F} {i : Nat} {v : Int} (h : FrR s r r') (hi : (s + 1) * 90 ≤ (i : Int) ∧ (i : Int) < (s + 2) * 90) : FrR s r (am_put r' 1 i v) := fun j hj => (show am_put r' 1 i v 1 j = r' 1 j from am_upN (by omega)).trans (h j hj)
def BlN (s y x : Int) (r0 r : am_F) : Prop := FrR s r0 r ∧ ∀ j : Nat, (s + 1) * 90 ≤ (j : Int) → (j : Int) < (s + 2) * 90 → 0 ≤ r 1 j ∧ (y < ((j : Int) - (s + 1) * 90) / 10 ∨ (((j : Int) - (s + 1) * 90) / 10 = y ∧ x ≤ ((j : Int) - (s + 1) * 90) % 10) → r0 1 (j - 90) ≤ r 1 j)
theorem g_blowxN {h r0 r : am_F} {s way parts y x : Int} (hV : HbV h) (hs : 0 ≤ s ∧ s < 40) (hp : 0 ≤ parts ∧ parts ≤ 8) (hy : 0 ≤ y ∧ y < h 0 1) (hx : 0 ≤ x ∧ x < h 0 0) (h0 : ∀ j : Nat, 0 ≤ r0 1 j ∧ r0 1 j ≤ 99) (hN : BlN s y x r0 r) : BlN s y (x + 1) r0 (g_blowx h s way parts y x r) := by
  obtain ⟨v1, v2, v3, v4, v5⟩ := hV
  obtain ⟨hF, hR⟩ := hN
  have e0 : r 1 (s * 90 + x + 10 * y).toNat = r0 1 (s * 90 + x + 10 * y).toNat := hF _ (by omega)
  have b0 := h0 (s * 90 + x + 10 * y).toNat
  obtain ⟨q1, q2, q3⟩ := am_part b0 hp
  rw [← e0] at q1 q2 q3
  have cc := hR ((s + 1) * 90 + (x + 10 * y)).toNat (by omega) (by omega)
  have c1 := cc.2 (by right; omega)
  rw [show ((s + 1) * 90 + (x + 10 * y)).toNat - 90 = (s * 90 + x + 10 * y).toNat by omega, ← e0] at c1
  unfold g_blowx
  split
  · next hn =>
    have A : ∀ j : Nat, (s + 1) * 90 ≤ (j : Int) → (j : Int) < (s + 2) * 90 → 0 ≤ f_carry1 r s (x + 10 * y) (r 1 (s * 90 + x + 10 * y).toNat * parts / 8) 1 j ∧ (y < ((j : Int) - (s + 1) * 90) / 10 ∨ (((j : Int) - (s + 1) * 90) / 10 = y ∧ x + 1 ≤ ((j : Int) - (s + 1) * 90) % 10) → r0 1 (j - 90) ≤ f_carry1 r s (x + 10 * y) (r 1 (s * 90 + x + 10 * y).toNat * parts / 8) 1 j) := fun j j1 j2 => by
      rw [f_carry1_at]
      by_cases hj : j = ((s + 1) * 90 + (x + 10 * y)).toNat
      · rw [if_pos hj]
        exact ⟨by omega, fun q => by omega⟩
      · rw [if_neg hj]
        have := hR j j1 j2
        exact ⟨this.1, fun q => this.2 (by omega)⟩
    have B : FrR s r0 (f_carry1 r s (x + 10 * y) (r 1 (s * 90 + x + 10 * y).toNat * parts / 8)) := FrR.up (r' := am_put r 6 (s + 1).toNat _) hF (by omega)
    rcases f_carry_fog (h := h) (r := r) (s := s) (cell := x + 10 * y) (way := way) (yards := r 1 (s * 90 + x + 10 * y).toNat * parts / 8) hs.1 (by omega) with e | ⟨t, t0, t1, e⟩
    · exact ⟨fun j hj => (e j).trans (B j hj), fun j j1 j2 => by rw [e]; exact A j j1 j2⟩
    · refine ⟨fun j hj => (e j).trans ((FrR.up B (by omega)) j hj), fun j j1 j2 => ?_⟩
      rw [e, f_carry2_at]
      by_cases hj : j = ((s + 1) * 90 + t).toNat
      · rw [if_pos hj]
        have a := A j j1 j2
        rw [← hj]
        exact ⟨by omega, fun q => by have := a.2 q; omega⟩
      · rw [if_neg hj]
        exact A j j1 j2
  · exact ⟨hF, fun j j1 j2 => ⟨(hR j j1 j2).1, fun q => (hR j j1 j2).2 (by omega)⟩⟩
theorem g_blowN {h r0 r : am_F} {s way parts y : Int} (hV : HbV h) (hs : 0 ≤ s ∧ s < 40) (hp : 0 ≤ parts ∧ parts ≤ 8) (hy : 0 ≤ y ∧ y < h 0 1) (h0 : ∀ j : Nat, 0 ≤ r0 1 j ∧ r0 1 j ≤ 99) (hN : BlN s y 0 r0 r) : BlN s (y + 1) 0 r0 (g_blow h s way parts y r) := by
  have v := hV
  obtain ⟨v1, v2, v3, v4, v5⟩ := v
  have q := am_fold_inv (P := fun x r => BlN s y x r0 r) (g := g_blowx h s way parts y) (h 0 0).toNat 0 r hN (fun x r' a b hp' => g_blowxN hV hs hp hy ⟨a, by omega⟩ h0 hp')
  exact ⟨q.1, fun j j1 j2 => ⟨(q.2 j j1 j2).1, fun c => (q.2 j j1 j2).2 (by omega)⟩⟩
theorem g_blowxI {h r : am_F} {s way parts y x : Int} (hV : HbV h) (hs : 0 ≤ s ∧ s < 40) (hp : 0 ≤ parts ∧ parts ≤ 8) (hy : 0 ≤ y ∧ y < h 0 1) (hx : 0 ≤ x ∧ x < h 0 0) (hI : BlI s (10 * y + x) r) : BlI s (10 * y + (x + 1)) (g_blowx h s way parts y x r) := by
  obtain ⟨v1, v2, v3, v4, v5⟩ := hV
  obtain ⟨q1, q2, q3⟩ := am_part (hI.l (s * 90 + x + 10 * y).toNat (by omega)) hp
  have b0 := hI.l (s * 90 + x + 10 * y).toNat (by omega)
  unfold g_blowx
  rw [show 10 * y + (x + 1) = 10 * y + x + 1 by omega]
  split
  · exact f_carryI hI hs (by omega) (by omega) (by omega)
  · exact hI.mono (by omega)
theorem g_blowI {h r : am_F} {s way parts y : Int} (hV : HbV h) (hs : 0 ≤ s ∧ s < 40) (hp : 0 ≤ parts ∧ parts ≤ 8) (hy : 0 ≤ y ∧ y < h 0 1) (hI : BlI s (10 * y) r) : BlI s (10 * (y + 1)) (g_blow h s way parts y r) := by
  have v := hV
  obtain ⟨v1, v2, v3, v4, v5⟩ := v
  have q := am_fold_inv (P := fun x r => BlI s (10 * y + x) r) (g := g_blowx h s way parts y) (h 0 0).toNat 0 r (hI.mono (by omega)) (fun x r' a b hp' => g_blowxI hV hs hp hy ⟨a, by omega⟩ hp')
  exact q.mono (by omega)
/-- behind the WIND -/
theorem f_blowsN {h r : am_F} {s turned : Int} (hV : HbV h) (hWd : WdB h) (hs : 0 ≤ s ∧ s < 40) (h0 : ∀ j : Nat, 0 ≤ r 1 j ∧ r 1 j ≤ 99) (hrow : ∀ c : Nat, c < 90 → r 1 ((s + 1) * 90 + c).toNat = r 1 (s * 90 + c).toNat) : FrR s r (f_blows h r s turned) ∧ FgB (f_blows h r s turned) 10000 := by
  have v := hV
  obtain ⟨v1, v2, v3, v4, v5⟩ := v
  have hp : 0 ≤ f_parts h s ∧ f_parts h s ≤ 8 := by
    unfold f_parts
    split
    · omega
    · exact (hWd _).2
  unfold f_blows
  split
  · exact ⟨FrR.rf, fun j => by have := h0 j; omega⟩
  · have q := am_fold_inv (P := fun y r' => BlN s y 0 r r') (g := g_blow h s (f_way h s turned) (f_parts h s)) (h 0 1).toNat 0 r
      ⟨FrR.rf, fun j j1 j2 => ⟨(h0 j).1, fun _ => by
        have e := hrow ((j : Int) - (s + 1) * 90).toNat (by omega)
        rw [show ((s + 1) * 90 + ((((j : Int) - (s + 1) * 90).toNat : Nat) : Int)).toNat = j by omega, show (s * 90 + ((((j : Int) - (s + 1) * 90).toNat : Nat) : Int)).toNat = j - 90 by omega] at e
        omega⟩⟩ (fun y r' a b hN => g_blowN hV hs hp ⟨a, by omega⟩ h0 hN)
    have q2 := am_fold_inv (P := fun y r' => BlI s (10 * y) r') (g := g_blow h s (f_way h s turned) (f_parts h s)) (h 0 1).toNat 0 r
      ⟨fun j => by have := h0 j; omega, fun j _ => h0 j⟩ (fun y r' a b hN => g_blowI hV hs hp ⟨a, by omega⟩ hN)
    refine ⟨q.1, fun j => ?_⟩
    have b1 := q2.f j
    unfold f_blow
    by_cases hj : (j : Int) < (s + 1) * 90 ∨ (s + 2) * 90 ≤ (j : Int)
    · rw [q.1 j hj]
      have := h0 j
      omega
    · have := (q.2 j (by omega) (by omega)).1
      omega
