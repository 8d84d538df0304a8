/-! what mixing, spilling, burning and thinning keep -/
theorem FgB.put {r : am_F} {m v : Int} {i : Nat} (h : FgB r m) (hv : 0 ≤ v ∧ v ≤ m) : FgB (am_put r 1 i v) m := am_upB h hv
theorem FgB.le {r : am_F} {m m' : Int} (h : FgB r m) (hm : m ≤ m') : FgB r m' := fun j => by have := h j; omega
theorem f_mixrB {h r : am_F} {row cell m : Int} (hB : FgB r m) : (0 ≤ (f_mixr h r row cell).2 ∧ (f_mixr h r row cell).2 ≤ 9) ∧ 0 ≤ (f_mixr h r row cell).1 ∧ (f_mixr h r row cell).1 ≤ m * (f_mixr h r row cell).2 := by
  have q := am_fold_inv (P := fun i (x : Int × Int) => (0 ≤ x.2 ∧ x.2 ≤ i) ∧ 0 ≤ x.1 ∧ x.1 ≤ m * x.2) (g := g_mixr h r row cell) 9 0 (0, 0) ⟨⟨by decide, by decide⟩, by decide, by simp⟩ (fun i x a b hp => by
    obtain ⟨⟨p1, p2⟩, p3, p4⟩ := hp
    unfold g_mixr
    split
    · exact ⟨⟨p1, by omega⟩, p3, p4⟩
    · have := hB (row + f_near h cell i).toNat
      refine ⟨⟨by show 0 ≤ x.2 + 1; omega, by show x.2 + 1 ≤ i + 1; omega⟩, by show 0 ≤ x.1 + _; omega, ?_⟩
      show x.1 + r 1 (row + f_near h cell i).toNat ≤ m * (x.2 + 1)
      rw [Int.mul_add]
      omega)
  exact q
theorem f_mixwB {h r : am_F} {s cell share m : Int} (hV : HbV h) (hB : FgB r m) (hs : 0 ≤ share ∧ share ≤ m) (h0 : 0 ≤ s) : FgB (f_mixw h r ((s + 1) * 90) cell share) m ∧ FrR s r (f_mixw h r ((s + 1) * 90) cell share) := by
  have q := am_fold_inv (P := fun i r' => FgB r' m ∧ FrR s r r') (g := g_mixw h ((s + 1) * 90) cell share) 9 0 r ⟨hB, FrR.rf⟩ (fun i x a b hp => by
    obtain ⟨p1, p2⟩ := hp
    unfold g_mixw
    split
    · exact ⟨p1, p2⟩
    · have nb := f_near_b hV cell i
      exact ⟨p1.put hs, p2.up (by omega)⟩)
  exact q
theorem f_mixB {h r : am_F} {s cell m : Int} (hV : HbV h) (hB : FgB r m) (h0 : 0 ≤ s) (hc : 0 ≤ cell ∧ cell ≤ 88) : FgB (f_mix h r ((s + 1) * 90) cell) (m + 8) ∧ FrR s r (f_mix h r ((s + 1) * 90) cell) := by
  obtain ⟨⟨a1, a2⟩, a3, a4⟩ := f_mixrB (h := h) (row := (s + 1) * 90) (cell := cell) hB
  unfold f_mix
  split
  · exact ⟨hB.le (by omega), FrR.rf⟩
  · next hh =>
    have s1 : 0 ≤ (f_mixr h r ((s + 1) * 90) cell).1 / (f_mixr h r ((s + 1) * 90) cell).2 := Int.ediv_nonneg a3 a1
    have s2 : (f_mixr h r ((s + 1) * 90) cell).1 / (f_mixr h r ((s + 1) * 90) cell).2 ≤ m := Int.ediv_le_of_le_mul (by omega) a4
    have s3 : 0 ≤ (f_mixr h r ((s + 1) * 90) cell).1 % (f_mixr h r ((s + 1) * 90) cell).2 := Int.emod_nonneg _ (by omega)
    have s4 : (f_mixr h r ((s + 1) * 90) cell).1 % (f_mixr h r ((s + 1) * 90) cell).2 < (f_mixr h r ((s + 1) * 90) cell).2 := Int.emod_lt_of_pos _ (by omega)
    have s5 := Int.emod_add_mul_ediv (f_mixr h r ((s + 1) * 90) cell).1 (f_mixr h r ((s + 1) * 90) cell).2
    have s6 := Int.mul_comm (f_mixr h r ((s + 1) * 90) cell).2 ((f_mixr h r ((s + 1) * 90) cell).1 / (f_mixr h r ((s + 1) * 90) cell).2)
    have w := f_mixwB (h := h) (r := r) (s := s) (cell := cell) (m := m) hV hB ⟨s1, s2⟩ h0
    have w1 := w.1 ((s + 1) * 90 + cell).toNat
    exact ⟨(w.1.le (by omega)).put (by omega), w.2.up (by omega)⟩
theorem f_spillB {r0 r : am_F} {s : Int} (hB : FgB r 20000) (h0 : 0 ≤ s) (hF : FrR s r0 r) (hR : ∀ j, 0 ≤ r0 1 j ∧ r0 1 j ≤ 99) : FgB (f_spill r (s + 1)) 99 ∧ FrR s r (f_spill r (s + 1)) := by
  have q := am_fold_inv (P := fun i r' => (FgB r' 20000 ∧ FrR s r r') ∧ ∀ j : Nat, (s + 1) * 90 ≤ (j : Int) → (j : Int) < i → r' 1 j ≤ 99) (g := g_spill (s + 1)) 90 ((s + 1) * 90) r ⟨⟨hB, FrR.rf⟩, fun j a b => by omega⟩ (fun i x a b hp => by
    obtain ⟨⟨p1, p2⟩, p3⟩ := hp
    unfold g_spill
    split
    · refine ⟨⟨FgB.put (r := am_put x 3 (s + 1).toNat _) p1 (by omega), FrR.up (r' := am_put x 3 (s + 1).toNat _) p2 (by omega)⟩, fun j j1 j2 => ?_⟩
      show am_up (x 1) i.toNat 99 j ≤ 99
      by_cases hj : j = i.toNat
      · rw [hj, am_up_s]; omega
      · rw [am_upN hj]
        exact p3 j j1 (by omega)
    · next hh =>
      refine ⟨⟨p1, p2⟩, fun j j1 j2 => ?_⟩
      by_cases hj : j = i.toNat
      · rw [hj]; omega
      · exact p3 j j1 (by omega))
  refine ⟨fun j => ?_, q.1.2⟩
  have b := q.1.1 j
  by_cases hj : (j : Int) < (s + 1) * 90 ∨ (s + 2) * 90 ≤ (j : Int)
  · have e1 := q.1.2 j hj
    have e2 := hF j hj
    have := hR j
    unfold f_spill
    rw [e1, e2]
    omega
  · exact ⟨b.1, q.2 j (by omega) (by omega)⟩
theorem f_burnB {h r : am_F} {s lamp cell burns m : Int} (hV : HbV h) (hB : FgB r m) (h0 : 0 ≤ s) (hb : 0 ≤ burns) : FgB (f_burn h r (s + 1) lamp cell burns) m ∧ FrR s r (f_burn h r (s + 1) lamp cell burns) := by
  have q := am_fold_inv (P := fun i (x : Int × am_F) => FgB x.2 m ∧ FrR s r x.2) (g := g_burn h (s + 1) lamp cell burns) 9 0 (0, r) ⟨hB, FrR.rf⟩ (fun i x a b hp => by
    obtain ⟨p1, p2⟩ := hp
    unfold g_burn
    split
    · exact ⟨p1, p2⟩
    · have nb := f_near_b hV cell i
      have f := p1 ((s + 1) * 90 + f_near h cell i).toNat
      have t : 0 ≤ f_takes x.2 (s + 1) burns (f_near h cell i) ∧ f_takes x.2 (s + 1) burns (f_near h cell i) ≤ x.2 1 ((s + 1) * 90 + f_near h cell i).toNat := by
        unfold f_takes
        split <;> omega
      exact ⟨p1.put (by omega), p2.up (by omega)⟩)
  exact q
/-- a THIN loses -/
def f_lose (r : am_F) (loses i : Int) : Int := if r 1 i.toNat < loses then r 1 i.toNat else loses
def g_thin (s loses i : Int) (r : am_F) : am_F := am_put (am_put r 1 i.toNat (r 1 i.toNat - f_lose r loses i)) 5 (s + 1).toNat (am_w32 (r 5 (s + 1).toNat + f_lose r loses i))
def f_thins (h : am_F) (s : Int) : Int := f_latest (h 0 4) (h 2) s
def f_loses (h : am_F) (s : Int) : Int := if f_thins h s = -1 then 0 else f_at (h 0 4) (h 2) (f_thins h s) 1
def f_thin (h r : am_F) (s : Int) : am_F := if f_loses h s ≤ 0 then r else am_fold (g_thin s (f_loses h s)) ((s + 1) * 90) 90 r
theorem f_thinB {h r : am_F} {s m : Int} (hB : FgB r m) (h0 : 0 ≤ s) : FgB (f_thin h r s) m ∧ FrR s r (f_thin h r s) := by
  unfold f_thin
  split
  · exact ⟨hB, FrR.rf⟩
  · have q := am_fold_inv (P := fun i r' => FgB r' m ∧ FrR s r r') (g := g_thin s (f_loses h s)) 90 ((s + 1) * 90) r ⟨hB, FrR.rf⟩ (fun i x a b hp => by
      obtain ⟨p1, p2⟩ := hp
      have f := p1 i.toNat
      have t : 0 ≤ f_lose x (f_loses h s) i ∧ f_lose x (f_loses h s) i ≤ x 1 i.toNat := by
        unfold f_lose
        split <;> omega
      exact ⟨FgB.put (r := x) p1 (by omega), FrR.up (r' := x) p2 (by omega)⟩)
    exact q
