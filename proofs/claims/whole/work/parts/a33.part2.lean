/-! the model: a rule -/
def ph2 (c91 : am_F) (t15 : Int) : am_F := (if c91 0 5 = 0 then (let c133 : am_F := k_skipWord c91; (let c164 : am_F := (if t15 = 0 then mr_or (am_put (am_put c133 (278 + (c133 0 47).toNat) 0 t15) (278 + (c133 0 47).toNat) 1 (c133 0 49)) else mr_sum (am_put (am_put c133 (278 + (c133 0 47).toNat) 0 t15) (278 + (c133 0 47).toNat) 1 (c133 0 49))); k_sign (am_put (am_put c164 (278 + (c164 0 47).toNat) 2 (c164 0 49)) 0 47 ((c164 0 47) + 1)) 59)) else c91)
def ph1 (c15 : am_F) (t15 : Int) : am_F := ph2 (if t15 = (-1) then k_wrong c15 1 (c15 0 4) else (if c15 0 47 = 8 then k_wrong c15 3 (c15 0 4) else c15)) t15
theorem ph2_x {c c91 : am_F} {t15 : Int} (hM : MI c) (hp : 0 ≤ c 0 47 ∧ c 0 47 ≤ 8) (m6 : MR c c91 0 0) (q : c91 0 5 = 0 → k_isSmall (k_byteAt c91 (c91 0 4)) ≠ 0 ∧ c91 0 47 ≠ 8) : MI (ph2 c91 t15) ∧ (0 ≤ (ph2 c91 t15) 0 47 ∧ (ph2 c91 t15) 0 47 ≤ 8) ∧ (ph2 c91 t15) 0 2 = c 0 2 ∧ ((ph2 c91 t15) 0 5 = 0 → c 0 5 = 0 ∧ c 0 4 + 1 ≤ (ph2 c91 t15) 0 4) := by
  unfold ph2
  dsimp only
  have z15 := MR_47 m6
  have hop := hM.2.2.2.1
  by_cases e : c91 0 5 = 0
  · rw [if_pos e]
    obtain ⟨q1, q3⟩ := q e
    have m7 : MR c (k_skipWord c91) 1 0 := MR_le (MR_E m6 (Ea_skip (Ea_r m6.1) q1)) (by omega)
    generalize k_skipWord c91 = c133 at *
    have z7 := MR_47 m7
    have n0 : (278 + (c133 0 47).toNat) ≠ 0 := by omega
    have hMt : MI (am_put (am_put c133 (278 + (c133 0 47).toNat) 0 t15) (278 + (c133 0 47).toNat) 1 (c133 0 49)) := MI_row (MI_row (MR_I hM m7 (by omega) (by omega)) n0) n0
    have eT : (am_put (am_put c133 (278 + (c133 0 47).toNat) 0 t15) (278 + (c133 0 47).toNat) 1 (c133 0 49)) 0 = c133 0 := by rw [am_put_kr (Ne.symm n0), am_put_kr (Ne.symm n0)]
    generalize (am_put (am_put c133 (278 + (c133 0 47).toNat) 0 t15) (278 + (c133 0 47).toNat) 1 (c133 0 49)) = ct at *
    have m8 : MR ct (if t15 = 0 then mr_or ct else mr_sum ct) 0 0 := by
      by_cases g : t15 = 0
      · rw [if_pos g]; exact mr_or_I hMt
      · rw [if_neg g]; exact mr_sum_I hMt
    generalize (if t15 = 0 then mr_or ct else mr_sum ct) = c164 at *
    have z8 := MR_47 m8
    have hM8 := MR_I hMt m8 (by omega) (by have := hMt.2.2.2.1; omega)
    have p7 := MR_at m7
    have p8 := MR_at m8
    have s7 := m7.2.1.1
    have s8 := m8.2.1.1
    have f7 := m7.2.2.2.2
    have f8 := m8.2.2.2.2
    rw [eT] at z8 p8 s8 f8
    have hMr := MI_row (i := 2) (v := c164 0 49) hM8 (show (278 + (c164 0 47).toNat) ≠ 0 by omega)
    have eR : am_put c164 (278 + (c164 0 47).toNat) 2 (c164 0 49) 0 = c164 0 := am_put_kr (by omega)
    generalize am_put c164 (278 + (c164 0 47).toNat) 2 (c164 0 49) = c9 at *
    have R : ∀ j, j ≠ 47 → am_put c9 0 47 (c164 0 47 + 1) 0 j = c164 0 j := fun j hj => by rw [am_put_i hj, eR]
    have hMX : MI (am_put c9 0 47 (c164 0 47 + 1)) := by
      unfold MI RdV
      rw [R 4 (by decide), R 2 (by decide), R 49 (by decide), R 50 (by decide), R 5 (by decide)]
      exact hM8
    have x5 := R 5 (by decide)
    have x4 := R 4 (by decide)
    have x2 := R 2 (by decide)
    have x47 : am_put c9 0 47 (c164 0 47 + 1) 0 47 = c164 0 47 + 1 := am_put_s
    generalize am_put c9 0 47 (c164 0 47 + 1) = cx at *
    have m9 := MR_E (MR_r hMX) (Ea_sign (Ea_r hMX.1) (sg := 59) (by decide))
    generalize k_sign cx 59 = cd at *
    have z9 := MR_47 m9
    have p9 := MR_at m9
    have s9 := m9.2.1.1
    have f9 := m9.2.2.2.2
    refine ⟨MR_I hMX m9 (by omega) (by have := hMX.2.2.2.1; omega), by omega, by omega, fun e9 => ?_⟩
    have a1 := (f9 e9).1
    have a2 := p9 e9
    have a3 := (f8 (by omega)).1
    have a4 := p8 (by omega)
    have a5 := p7 a3
    exact ⟨(f7 a3).1, by omega⟩
  · rw [if_neg e]
    have z6 := MR_47 m6
    exact ⟨MR_I hM m6 (by omega) (by omega), by omega, m6.2.1.1, fun e9 => absurd e9 e⟩
theorem ph1_x {c c15 : am_F} {t15 : Int} (hM : MI c) (hp : 0 ≤ c 0 47 ∧ c 0 47 ≤ 8) (m5 : MR c c15 0 0) (q : t15 = -1 ∨ k_isSmall (k_byteAt c15 (c15 0 4)) ≠ 0) : MI (ph1 c15 t15) ∧ (0 ≤ (ph1 c15 t15) 0 47 ∧ (ph1 c15 t15) 0 47 ≤ 8) ∧ (ph1 c15 t15) 0 2 = c 0 2 ∧ ((ph1 c15 t15) 0 5 = 0 → c 0 5 = 0 ∧ c 0 4 + 1 ≤ (ph1 c15 t15) 0 4) := by
  unfold ph1
  have m6 : MR c (if t15 = -1 then k_wrong c15 1 (c15 0 4) else (if c15 0 47 = 8 then k_wrong c15 3 (c15 0 4) else c15)) 0 0 ∧ ((if t15 = -1 then k_wrong c15 1 (c15 0 4) else (if c15 0 47 = 8 then k_wrong c15 3 (c15 0 4) else c15)) 0 5 = 0 → (if t15 = -1 then k_wrong c15 1 (c15 0 4) else (if c15 0 47 = 8 then k_wrong c15 3 (c15 0 4) else c15)) = c15 ∧ t15 ≠ -1 ∧ c15 0 47 ≠ 8) := by
    by_cases g1 : t15 = -1
    · rw [if_pos g1]
      exact ⟨MR_le (MR_E m5 (Ea_wrong (j := 1000) (Ea_r m5.1) (by decide))) (by omega), fun e => absurd e (k_wrong_5 (by decide))⟩
    · rw [if_neg g1]
      by_cases g2 : c15 0 47 = 8
      · rw [if_pos g2]
        exact ⟨MR_le (MR_E m5 (Ea_wrong (j := 1000) (Ea_r m5.1) (by decide))) (by omega), fun e => absurd e (k_wrong_5 (by decide))⟩
      · rw [if_neg g2]
        exact ⟨m5, fun _ => ⟨rfl, g1, g2⟩⟩
  generalize (if t15 = -1 then k_wrong c15 1 (c15 0 4) else (if c15 0 47 = 8 then k_wrong c15 3 (c15 0 4) else c15)) = c91 at *
  exact ph2_x hM hp m6.1 (fun e => by
    obtain ⟨q1, q2, q3⟩ := m6.2 e
    rw [q1]
    exact ⟨q.resolve_left q2, q3⟩)
theorem k_partHere_x {c : am_F} (hM : MI c) (hp : 0 ≤ c 0 47 ∧ c 0 47 ≤ 8) : MI (k_partHere c) ∧ (0 ≤ (k_partHere c) 0 47 ∧ (k_partHere c) 0 47 ≤ 8) ∧ (k_partHere c) 0 2 = c 0 2 ∧ ((k_partHere c) 0 5 = 0 → c 0 5 = 0 ∧ c 0 4 + 1 ≤ (k_partHere c) 0 4) := by
  have h0 := MR_r hM
  have e0 : k_partHere c = ph1 (if (k_isWord c 1 12 12 15 23 0 0).1 = 0 then (if (k_isWord (k_isWord c 1 12 12 15 23 0 0).2 6 9 18 19 20 0 0).1 = 0 then (if (k_isWord (k_isWord (k_isWord c 1 12 12 15 23 0 0).2 6 9 18 19 20 0 0).2 16 1 25 0 0 0 0).1 = 0 then (k_isWord (k_isWord (k_isWord (k_isWord c 1 12 12 15 23 0 0).2 6 9 18 19 20 0 0).2 16 1 25 0 0 0 0).2 13 15 19 20 0 0 0).2 else (k_isWord (k_isWord (k_isWord c 1 12 12 15 23 0 0).2 6 9 18 19 20 0 0).2 16 1 25 0 0 0 0).2) else (k_isWord (k_isWord c 1 12 12 15 23 0 0).2 6 9 18 19 20 0 0).2) else (k_isWord c 1 12 12 15 23 0 0).2) (if (k_isWord c 1 12 12 15 23 0 0).1 = 0 then (if (k_isWord (k_isWord c 1 12 12 15 23 0 0).2 6 9 18 19 20 0 0).1 = 0 then (if (k_isWord (k_isWord (k_isWord c 1 12 12 15 23 0 0).2 6 9 18 19 20 0 0).2 16 1 25 0 0 0 0).1 = 0 then (if (k_isWord (k_isWord (k_isWord (k_isWord c 1 12 12 15 23 0 0).2 6 9 18 19 20 0 0).2 16 1 25 0 0 0 0).2 13 15 19 20 0 0 0).1 = 0 then (-1 : Int) else 3) else 2) else 1) else 0) := rfl
  rw [e0]
  have a1 := Ea_isWord (la := 1) (lb := 12) (lc := 12) (ld := 15) (le := 23) (lf := 0) (lg := 0) (Ea_r h0.1) (by decide)
  have m1 : MR c (k_isWord c 1 12 12 15 23 0 0).2 0 0 := MR_le (MR_E h0 a1.1) (by omega)
  have s1 := a1.2
  generalize k_isWord c 1 12 12 15 23 0 0 = u1 at *
  have a2 := Ea_isWord (la := 6) (lb := 9) (lc := 18) (ld := 19) (le := 20) (lf := 0) (lg := 0) (Ea_r m1.1) (by decide)
  have m2 : MR c (k_isWord u1.2 6 9 18 19 20 0 0).2 0 0 := MR_le (MR_E m1 a2.1) (by omega)
  have s2 := a2.2
  generalize k_isWord u1.2 6 9 18 19 20 0 0 = u2 at *
  have a3 := Ea_isWord (la := 16) (lb := 1) (lc := 25) (ld := 0) (le := 0) (lf := 0) (lg := 0) (Ea_r m2.1) (by decide)
  have m3 : MR c (k_isWord u2.2 16 1 25 0 0 0 0).2 0 0 := MR_le (MR_E m2 a3.1) (by omega)
  have s3 := a3.2
  generalize k_isWord u2.2 16 1 25 0 0 0 0 = u3 at *
  have a4 := Ea_isWord (la := 13) (lb := 15) (lc := 19) (ld := 20) (le := 0) (lf := 0) (lg := 0) (Ea_r m3.1) (by decide)
  have m4 : MR c (k_isWord u3.2 13 15 19 20 0 0 0).2 0 0 := MR_le (MR_E m3 a4.1) (by omega)
  have s4 := a4.2
  generalize k_isWord u3.2 13 15 19 20 0 0 0 = u4 at *
  have m5 : MR c (if u1.1 = 0 then (if u2.1 = 0 then (if u3.1 = 0 then u4.2 else u3.2) else u2.2) else u1.2) 0 0 ∧ ((if u1.1 = 0 then (if u2.1 = 0 then (if u3.1 = 0 then (if u4.1 = 0 then (-1 : Int) else 3) else 2) else 1) else 0) = -1 ∨ k_isSmall (k_byteAt (if u1.1 = 0 then (if u2.1 = 0 then (if u3.1 = 0 then u4.2 else u3.2) else u2.2) else u1.2) ((if u1.1 = 0 then (if u2.1 = 0 then (if u3.1 = 0 then u4.2 else u3.2) else u2.2) else u1.2) 0 4)) ≠ 0) := by
    by_cases g1 : u1.1 = 0
    · rw [if_pos g1, if_pos g1]
      by_cases g2 : u2.1 = 0
      · rw [if_pos g2, if_pos g2]
        by_cases g3 : u3.1 = 0
        · rw [if_pos g3, if_pos g3]
          refine ⟨m4, ?_⟩
          by_cases g4 : u4.1 = 0
          · rw [if_pos g4]; exact Or.inl rfl
          · exact Or.inr (s4.resolve_left g4)
        · rw [if_neg g3, if_neg g3]
          exact ⟨m3, Or.inr (s3.resolve_left g3)⟩
      · rw [if_neg g2, if_neg g2]
        exact ⟨m2, Or.inr (s2.resolve_left g2)⟩
    · rw [if_neg g1, if_neg g1]
      exact ⟨m1, Or.inr (s1.resolve_left g1)⟩
  exact ph1_x hM hp m5.1 m5.2
