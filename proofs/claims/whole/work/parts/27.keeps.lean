/-! what the WIND's carrying keeps -/
theorem am_upN {f : Nat → Int} {i j : Nat} {v : Int} (h : j ≠ i) : am_up f i v j = f j := if_neg h
def BlI (s k G : Int) (r : am_F) : Prop :=
  (∀ j, -(99 + 99 * k) ≤ r 1 j ∧ r 1 j ≤ 99 + 99 * k) ∧ (∀ j : Nat, (j : Int) < (s + 1) * 90 → 0 ≤ r 1 j ∧ r 1 j ≤ 99) ∧ (0 ≤ r 6 (s + 1).toNat ∧ r 6 (s + 1).toNat ≤ 99 * k) ∧ (0 ≤ r 3 (s + 1).toNat ∧ r 3 (s + 1).toNat ≤ G + 99 * k)
theorem BlI.f {s k G : Int} {r : am_F} (h : BlI s k G r) : ∀ j, -(99 + 99 * k) ≤ r 1 j ∧ r 1 j ≤ 99 + 99 * k := h.1
theorem BlI.l {s k G : Int} {r : am_F} (h : BlI s k G r) : ∀ j : Nat, (j : Int) < (s + 1) * 90 → 0 ≤ r 1 j ∧ r 1 j ≤ 99 := h.2.1
theorem BlI.m {s k G : Int} {r : am_F} (h : BlI s k G r) : 0 ≤ r 6 (s + 1).toNat ∧ r 6 (s + 1).toNat ≤ 99 * k := h.2.2.1
theorem BlI.g {s k G : Int} {r : am_F} (h : BlI s k G r) : 0 ≤ r 3 (s + 1).toNat ∧ r 3 (s + 1).toNat ≤ G + 99 * k := h.2.2.2
theorem BlI.mono {s k k' G : Int} {r : am_F} (h : BlI s k G r) (hk : k ≤ k') : BlI s k' G r :=
  ⟨fun j => by have := h.f j; omega, h.l, by have := h.m; omega, by have := h.g; omega⟩
theorem f_carryI {s k G : Int} {h r : am_F} {cell way yards : Int} (hI : BlI s k G r) (hs : 0 ≤ s ∧ s < 40) (hc : 0 ≤ cell ∧ cell ≤ 88) (hy : 0 ≤ yards ∧ yards ≤ 99) (hk : 0 ≤ k) : BlI s (k + 1) G (f_carry h r s cell way yards) := by
  have m6 : 0 ≤ am_up (r 6) (s + 1).toNat (r 6 (s + 1).toNat + yards) (s + 1).toNat ∧ am_up (r 6) (s + 1).toNat (r 6 (s + 1).toNat + yards) (s + 1).toNat ≤ 99 * (k + 1) := by
    rw [am_up_s]
    have := hI.m
    omega
  have f1 : ∀ j, -(99 + 99 * (k + 1)) ≤ f_carry1 r s cell yards 1 j ∧ f_carry1 r s cell yards 1 j ≤ 99 + 99 * k :=
    am_upB (f := r 1) (fun j => by have := hI.f j; omega) (by have := hI.f ((s + 1) * 90 + cell).toNat; omega)
  have l1 : ∀ j : Nat, (j : Int) < (s + 1) * 90 → 0 ≤ f_carry1 r s cell yards 1 j ∧ f_carry1 r s cell yards 1 j ≤ 99 := fun j hj => by
    have e : f_carry1 r s cell yards 1 j = r 1 j := am_upN (by omega)
    rw [e]
    exact hI.l j hj
  have g0 := hI.g
  have two : ∀ t : Int, 0 ≤ t → (∀ j, -(99 + 99 * (k + 1)) ≤ f_carry2 r s cell yards t 1 j ∧ f_carry2 r s cell yards t 1 j ≤ 99 + 99 * (k + 1)) ∧ ∀ j : Nat, (j : Int) < (s + 1) * 90 → 0 ≤ f_carry2 r s cell yards t 1 j ∧ f_carry2 r s cell yards t 1 j ≤ 99 := fun t ht =>
    ⟨am_upB (f := f_carry1 r s cell yards 1) (fun j => by have := f1 j; omega) (by have := f1 ((s + 1) * 90 + t).toNat; omega), fun j hj => by
      have e : f_carry2 r s cell yards t 1 j = f_carry1 r s cell yards 1 j := am_upN (by omega)
      rw [e]
      exact l1 j hj⟩
  unfold f_carry
  split
  · refine ⟨fun j => ?_, l1, m6, ?_⟩
    · have := f1 j
      show -(99 + 99 * (k + 1)) ≤ f_carry1 r s cell yards 1 j ∧ f_carry1 r s cell yards 1 j ≤ 99 + 99 * (k + 1)
      omega
    · show 0 ≤ am_up (r 3) _ _ _ ∧ am_up (r 3) _ _ _ ≤ _
      rw [am_up_s]
      omega
  · next hh =>
    have ht : 0 ≤ (cell % 10 + way / 3 - 1) + 10 * (cell / 10 + way % 3 - 1) := by
      unfold f_has at hh
      split at hh
      · omega
      · omega
    have q := two _ ht
    have g3 : 0 ≤ r 3 (s + 1).toNat ∧ r 3 (s + 1).toNat ≤ G + 99 * (k + 1) := by omega
    split
    · exact ⟨q.1, q.2, m6, g3⟩
    · exact ⟨q.1, q.2, m6, g3⟩
theorem am_part {f p : Int} (hf : 0 ≤ f ∧ f ≤ 99) (hp : 0 ≤ p ∧ p ≤ 8) : 0 ≤ f * p ∧ f * p ≤ 792 ∧ f * p / 8 ≤ f := by
  have a1 : 0 ≤ f * p := Int.mul_nonneg hf.1 hp.1
  have a2 : f * p ≤ f * 8 := Int.mul_le_mul_of_nonneg_left hp.2 hf.1
  omega
