/-! what the WIND's carrying keeps: the FOG in the STEP's row within k draughts; elsewhere as it was; and none below 0 while a CELL not yet gone through holds what it held -/
theorem am_upN {f : Nat → Int} {i j : Nat} {v : Int} (h : j ≠ i) : am_up f i v j = f j := if_neg h
theorem am_fold_inv {α : Type} {P : Int → α → Prop} {g : Int → α → α} : ∀ (n : Nat) (i : Int) (x : α), P i x → (∀ j y, i ≤ j → j < i + n → P j y → P (j + 1) (g j y)) → P (i + n) (am_fold g i n x) := by
  intro n
  induction n with
  | zero => intro i x h0 _; rw [show i + ((0 : Nat) : Int) = i by omega]; exact h0
  | succ n ih =>
    intro i x h0 hs
    rw [am_fold_s, show i + ((n + 1 : Nat) : Int) = i + 1 + (n : Int) by omega]
    exact ih (i + 1) _ (hs i x (by omega) (by omega) h0) (fun j y h1 h2 hp => hs j y (by omega) (by omega) hp)
def BlI (s k : Int) (r : am_F) : Prop := (∀ j, -(99 + 99 * k) ≤ r 1 j ∧ r 1 j ≤ 99 + 99 * k) ∧ (∀ j : Nat, (j : Int) < (s + 1) * 90 → 0 ≤ r 1 j ∧ r 1 j ≤ 99)
theorem BlI.f {s k : Int} {r : am_F} (h : BlI s k r) : ∀ j, -(99 + 99 * k) ≤ r 1 j ∧ r 1 j ≤ 99 + 99 * k := h.1
theorem BlI.l {s k : Int} {r : am_F} (h : BlI s k r) : ∀ j : Nat, (j : Int) < (s + 1) * 90 → 0 ≤ r 1 j ∧ r 1 j ≤ 99 := h.2
theorem BlI.mono {s k k' : Int} {r : am_F} (h : BlI s k r) (hk : k ≤ k') : BlI s k' r := ⟨fun j => by have := h.f j; omega, h.l⟩
/-- the FOG behind a carry: from cell to t, or off -/
theorem f_carry_fog {h r : am_F} {s cell way yards : Int} (hs : 0 ≤ s) (hc : 0 ≤ cell) : (∀ j, f_carry h r s cell way yards 1 j = f_carry1 r s cell yards 1 j) ∨ ∃ t : Int, 0 ≤ t ∧ t < h 0 0 + 10 * h 0 1 - 10 ∧ ∀ j, f_carry h r s cell way yards 1 j = f_carry2 r s cell yards t 1 j := by
  unfold f_carry
  split
  · left; intro j; rfl
  · next hh =>
    right
    refine ⟨(cell % 10 + way / 3 - 1) + 10 * (cell / 10 + way % 3 - 1), ?_, ?_, ?_⟩
    · unfold f_has at hh
      split at hh <;> omega
    · unfold f_has at hh
      split at hh <;> omega
    · split <;> (intro j; rfl)
theorem f_carryI {s k : Int} {h r : am_F} {cell way yards : Int} (hI : BlI s k r) (hs : 0 ≤ s ∧ s < 40) (hc : 0 ≤ cell ∧ cell ≤ 88) (hy : 0 ≤ yards ∧ yards ≤ 99) (hk : 0 ≤ k) : BlI s (k + 1) (f_carry h r s cell way yards) := by
  have f1 : ∀ j, -(99 + 99 * (k + 1)) ≤ f_carry1 r s cell yards 1 j ∧ f_carry1 r s cell yards 1 j ≤ 99 + 99 * k :=
    am_upB (f := r 1) (fun j => by have := hI.f j; omega) (by have := hI.f ((s + 1) * 90 + cell).toNat; omega)
  have l1 : ∀ j : Nat, (j : Int) < (s + 1) * 90 → 0 ≤ f_carry1 r s cell yards 1 j ∧ f_carry1 r s cell yards 1 j ≤ 99 := fun j hj => by
    have e : f_carry1 r s cell yards 1 j = r 1 j := am_upN (by omega)
    rw [e]
    exact hI.l j hj
  rcases f_carry_fog (h := h) (r := r) (way := way) (yards := yards) hs.1 hc.1 with e | ⟨t, ht, _, e⟩
  · exact ⟨fun j => by rw [e]; have := f1 j; omega, fun j hj => by rw [e]; exact l1 j hj⟩
  · refine ⟨fun j => ?_, fun j hj => ?_⟩
    · rw [e]
      exact am_upB (f := f_carry1 r s cell yards 1) (fun j => by have := f1 j; omega) (by have := f1 ((s + 1) * 90 + t).toNat; omega) j
    · rw [e, show f_carry2 r s cell yards t 1 j = f_carry1 r s cell yards 1 j from am_upN (by omega)]
      exact l1 j hj
theorem am_part {f p : Int} (hf : 0 ≤ f ∧ f ≤ 99) (hp : 0 ≤ p ∧ p ≤ 8) : 0 ≤ f * p ∧ f * p ≤ 792 ∧ f * p / 8 ≤ f := by
  have a1 : 0 ≤ f * p := Int.mul_nonneg hf.1 hp.1
  have a2 : f * p ≤ f * 8 := Int.mul_le_mul_of_nonneg_left hp.2 hf.1
  omega
