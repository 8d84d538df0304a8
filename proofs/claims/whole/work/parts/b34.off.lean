/-! THE TIE: no fog is told of off the port -/
theorem FzI_set {e h c r dd : am_F} {x y yd : Int} (hC : HC h c) (hz : FzI h) : FzI (c_set e h r dd x y yd).2.2.2.1 := by
  obtain ⟨v1, v2, v3, v4, -⟩ := id hC.1.1.1
  have hH := hC.2.2.1.1
  unfold c_set
  rcases ti_cel hH x y with ⟨a0, b0, c0, d0⟩ | ⟨a0, b0⟩
  · rcases ti_rng yd 0 99 with ⟨a2, b2, c2⟩ | ⟨a2, b2, d2⟩
    · simp only [a0, a2, reduceIte, Int.reduceEq]
      intro x' y' h1 h2 h3 h4 h5
      have e0 : ∀ j, am_put h 11 (x + 10 * y).toNat yd 0 j = h 0 j := fun j => am_put_k (by decide)
      rw [e0, e0] at h5
      rw [am_put_i (by omega)]
      exact hz x' y' h1 h2 h3 h4 h5
    · simp only [a0, a2, reduceIte, Int.reduceEq]
      exact hz
  · simp only [a0, reduceIte, Int.reduceEq]
    exact hz
def ImZ (h im : am_F) (n : Int) : Prop := ∀ i : Nat, (i : Int) < n → ∀ x y : Int, 0 ≤ x → x < 10 → 0 ≤ y → y < 9 → (h 0 0 ≤ x ∨ h 0 1 ≤ y) → im (10 * i + 1) (x + 10 * y).toNat = 0
theorem ImZ_take {i : Nat} {h b g im : am_F} (hz : FzI h) (hI : ImZ h im i) : ImZ h (c_takeN i h b g im) ((i : Int) + 1) := fun k hk x y h1 h2 h3 h4 h5 => by
  obtain ⟨t1, t2, -⟩ := c_takeN_k (i := i) (h := h) (b := b) (g := g) (im := im)
  by_cases e : k = i
  · subst e
    rw [t2 _ (by omega)]
    exact hz x y h1 h2 h3 h4 h5
  · rw [t1 _ (by omega) (by omega) (by omega) (by omega)]
    exact hI k (by omega) x y h1 h2 h3 h4 h5
theorem ImZ_image {e h b g im : am_F} (hz : FzI h) (hI : ImZ h im (e 0 17)) : ImZ h (c_image e h b g im).2.2 ((c_image e h b g im).2.1 0 17) := by
  unfold c_image
  by_cases p1 : e 0 17 < 0
  · rw [if_pos p1]; exact hI
  rw [if_neg p1]
  by_cases p2 : e 0 17 < 3
  · rw [if_pos p2]
    by_cases q0 : e 0 17 = 0
    · rw [if_pos q0]
      have h9 := ImZ_take (i := 0) (b := b) (g := g) hz (by rw [q0] at hI; exact hI)
      show ImZ h (c_take0 h b g im) (am_put e 0 17 (e 0 17 + 1) 0 17)
      rw [am_put_s, q0, c_takeN_0]
      exact h9
    rw [if_neg q0]
    by_cases q1 : e 0 17 = 1
    · rw [if_pos q1]
      have h9 := ImZ_take (i := 1) (b := b) (g := g) hz (by rw [q1] at hI; exact hI)
      show ImZ h (c_take1 h b g im) (am_put e 0 17 (e 0 17 + 1) 0 17)
      rw [am_put_s, q1, c_takeN_1]
      exact h9
    · rw [if_neg q1]
      have q2 : e 0 17 = 2 := by omega
      have h9 := ImZ_take (i := 2) (b := b) (g := g) hz (by rw [q2] at hI; exact hI)
      show ImZ h (c_take2 h b g im) (am_put e 0 17 (e 0 17 + 1) 0 17)
      rw [am_put_s, q2, c_takeN_2]
      exact h9
  · rw [if_neg p2]; exact hI
theorem FzI_give {i : Nat} {h im : am_F} {n : Int} (hI : ImZ h im n) (hi : (i : Int) < n) : FzI (am_row h 11 (am_cpy (im (10 * i + 1)) (h 11) 0 0 90)) ∧ ∀ m : Int, m ≤ n → ImZ (am_row h 11 (am_cpy (im (10 * i + 1)) (h 11) 0 0 90)) im m := by
  have e0 : am_row h 11 (am_cpy (im (10 * i + 1)) (h 11) 0 0 90) 0 = h 0 := ti_row_k (by decide)
  refine ⟨fun x y h1 h2 h3 h4 h5 => ?_, fun m hm k hk x y h1 h2 h3 h4 h5 => ?_⟩
  · rw [e0] at h5
    rw [ti_row_s]
    unfold am_cpy
    rw [if_pos (by omega), show 0 + ((x + 10 * y).toNat - 0) = (x + 10 * y).toNat by omega]
    exact hI i hi x y h1 h2 h3 h4 h5
  · rw [e0] at h5
    exact hI k (by omega) x y h1 h2 h3 h4 h5
theorem FzI_restore {e h r dd b g im : am_F} (hz : FzI h) (hI : ImZ h im (e 0 17)) : FzI (c_restore e h r dd b g im).2.2.1 ∧ ImZ (c_restore e h r dd b g im).2.2.1 im ((c_restore e h r dd b g im).2.1 0 17) := by
  unfold c_restore
  by_cases p1 : e 0 17 < 1
  · rw [if_pos p1]; exact ⟨hz, hI⟩
  rw [if_neg p1]
  by_cases p2 : e 0 17 ≤ 3
  · rw [if_pos p2]
    by_cases q0 : e 0 17 - 1 = 0
    · rw [if_pos q0]
      obtain ⟨w1, w2⟩ := FzI_give (i := 0) hI (by omega)
      refine ⟨w1, ?_⟩
      show ImZ _ im (am_put e 0 17 (e 0 17 - 1) 0 17)
      rw [am_put_s]
      exact w2 _ (by omega)
    rw [if_neg q0]
    by_cases q1 : e 0 17 - 1 = 1
    · rw [if_pos q1]
      obtain ⟨w1, w2⟩ := FzI_give (i := 1) hI (by omega)
      refine ⟨w1, ?_⟩
      show ImZ _ im (am_put e 0 17 (e 0 17 - 1) 0 17)
      rw [am_put_s]
      exact w2 _ (by omega)
    · rw [if_neg q1]
      obtain ⟨w1, w2⟩ := FzI_give (i := 2) hI (by omega)
      refine ⟨w1, ?_⟩
      show ImZ _ im (am_put e 0 17 (e 0 17 - 1) 0 17)
      rw [am_put_s]
      exact w2 _ (by omega)
  · rw [if_neg p2]; exact ⟨hz, hI⟩
