/-! the model: what a rule's reading keeps -/
def MI (c : am_F) : Prop := RdV c ∧ c 0 2 ≤ 200 ∧ (0 ≤ c 0 49 ∧ c 0 49 ≤ 200) ∧ (0 ≤ c 0 50 ∧ c 0 50 ≤ 6) ∧ (c 0 5 = 0 → c 0 49 ≤ c 0 4)
def Fr (c d : am_F) : Prop := (∀ k, k ≠ 0 → k < 508 → d k = c k) ∧ (∀ j, j ≠ 4 → j ≠ 5 → j ≠ 6 → j ≠ 49 → j ≠ 50 → d 0 j = c 0 j)
theorem Fr_r {c : am_F} : Fr c c := ⟨fun _ _ _ => rfl, fun _ _ _ _ _ _ => rfl⟩
theorem Fr_t {a b c : am_F} (h : Fr a b) (g : Fr b c) : Fr a c := ⟨fun k h1 h2 => (g.1 k h1 h2).trans (h.1 k h1 h2), fun j h1 h2 h3 h4 h5 => (g.2 j h1 h2 h3 h4 h5).trans (h.2 j h1 h2 h3 h4 h5)⟩
theorem Fr_x {c d : am_F} (h : Lx c d) : Fr c d := ⟨fun k h1 _ => h.1 k h1, fun j h1 h2 h3 _ _ => h.2 j h1 h2 h3⟩
theorem Fr_p {c : am_F} {v : Int} : Fr c (am_put c 0 50 v) := ⟨fun k h1 _ => am_put_kr h1, fun j _ _ _ _ h5 => am_put_i h5⟩
def MR (c d : am_F) (k o : Int) : Prop := RdV d ∧ (d 0 2 = c 0 2 ∧ Fr c d) ∧ (c 0 49 ≤ d 0 49 ∧ d 0 49 ≤ 200) ∧ d 0 50 = c 0 50 + o ∧ (d 0 5 = 0 → c 0 5 = 0 ∧ d 0 49 + c 0 4 + k ≤ d 0 4 + c 0 49)
theorem MR_r {c : am_F} (h : MI c) : MR c c 0 0 := ⟨h.1, ⟨rfl, Fr_r⟩, ⟨by omega, h.2.2.1.2⟩, by omega, fun e => ⟨e, by omega⟩⟩
theorem MR_I {c d : am_F} {k o : Int} (h : MI c) (g : MR c d k o) (hk : 0 ≤ k) (ho : 0 ≤ c 0 50 + o ∧ c 0 50 + o ≤ 6) : MI d := by
  obtain ⟨g1, ⟨g2, gf⟩, g3, g4, g5⟩ := g
  refine ⟨g1, by have := h.2.1; omega, ⟨by have := h.2.2.1; omega, g3.2⟩, by omega, fun e => ?_⟩
  obtain ⟨e1, e2⟩ := g5 e
  have := h.2.2.2.2 e1
  omega
theorem MR_E {c t d : am_F} {k o j : Int} (h : MR c t k o) (g : Ea t d j) : MR c d (k + j) o := by
  obtain ⟨h1, ⟨h2, hf⟩, h3, h4, h5⟩ := h
  obtain ⟨g1, g2, g3⟩ := g
  have e2 := g2.2 2 (by decide) (by decide) (by decide)
  have e49 := g2.2 49 (by decide) (by decide) (by decide)
  have e50 := g2.2 50 (by decide) (by decide) (by decide)
  refine ⟨g1, ⟨by omega, Fr_t hf (Fr_x g2)⟩, by omega, by omega, fun e => ?_⟩
  obtain ⟨a1, a2⟩ := g3 e
  obtain ⟨b1, b2⟩ := h5 a1
  exact ⟨b1, by omega⟩
theorem MR_le {c d : am_F} {k o j : Int} (h : MR c d k o) (g : j ≤ k) : MR c d j o := ⟨h.1, h.2.1, h.2.2.1, h.2.2.2.1, fun e => by
  obtain ⟨a1, a2⟩ := h.2.2.2.2 e
  exact ⟨a1, by omega⟩⟩
theorem MR_o {c d : am_F} {k o p : Int} (h : MR c d k o) (g : o = p) : MR c d k p := g ▸ h
theorem MR_t {c t d : am_F} {k o j p : Int} (h : MR c t k o) (g : MR t d j p) : MR c d (k + j) (o + p) := by
  obtain ⟨h1, ⟨h2, hf⟩, h3, h4, h5⟩ := h
  obtain ⟨g1, ⟨g2, gf⟩, g3, g4, g5⟩ := g
  refine ⟨g1, ⟨by omega, Fr_t hf gf⟩, ⟨by omega, g3.2⟩, by omega, fun e => ?_⟩
  obtain ⟨a1, a2⟩ := g5 e
  obtain ⟨b1, b2⟩ := h5 a1
  exact ⟨b1, by omega⟩
theorem MR_adv {c t : am_F} {k o : Int} (h : MR c t k o) (g : t 0 4 < t 0 2) : MR c (am_put t 0 4 (t 0 4 + 1)) (k + 1) o := MR_E h (Ea_le (Ea_adv (Ea_r h.1) g) (by omega))
theorem MR_close {c t : am_F} {k o : Int} (h : MR c t k o) : MR c (am_put t 0 50 (t 0 50 - 1)) k (o - 1) := by
  obtain ⟨h1, h2, h3, h4, h5⟩ := h
  refine ⟨⟨?_, ?_, ?_⟩, ?_, ?_, ?_, ?_⟩
  · rw [am_put_i (by decide)]; exact h1.1
  · rw [am_put_i (by decide), am_put_i (by decide)]; exact h1.2.1
  · rw [am_put_i (by decide)]; exact h1.2.2
  · exact ⟨(am_put_i (by decide)).trans h2.1, Fr_t h2.2 Fr_p⟩
  · rw [am_put_i (by decide)]; exact h3
  · rw [am_put_s]; omega
  · rw [am_put_i (by decide), am_put_i (by decide), am_put_i (by decide)]; exact h5
theorem MR_says {c t : am_F} {k o x y : Int} (hc : MI c) (h : MR c t k o) (hk : 1 ≤ k) : MR c (k_says t x y) (k - 1) o := by
  obtain ⟨h1, h2, h3, h4, h5⟩ := h
  obtain ⟨c1, c2, c3, c4, c5⟩ := hc
  unfold k_says
  split
  · rename_i e
    obtain ⟨a1, a2⟩ := h5 e
    have a3 := c5 a1
    have a4 := h1.2.1
    have n0 : (508 + (t 0 49).toNat) ≠ 0 := by omega
    have R : ∀ j, j ≠ 49 → am_put (am_put (am_put t (508 + (t 0 49).toNat) 0 x) (508 + (t 0 49).toNat) 1 y) 0 49 (t 0 49 + 1) 0 j = t 0 j := fun j hj => by
      rw [am_put_i hj, am_put_kr (Ne.symm n0), am_put_kr (Ne.symm n0)]
    refine ⟨⟨?_, ?_, ?_⟩, ?_, ?_, ?_, ?_⟩
    · rw [R 4 (by decide)]; exact h1.1
    · rw [R 4 (by decide), R 2 (by decide)]; exact h1.2.1
    · rw [R 2 (by decide)]; exact h1.2.2
    · exact ⟨(R 2 (by decide)).trans h2.1, Fr_t h2.2 ⟨fun k k0 k5 => by rw [am_put_kr k0, am_put_kr (by omega), am_put_kr (by omega)], fun j _ _ _ j49 _ => R j j49⟩⟩
    · rw [am_put_s]; omega
    · rw [R 50 (by decide)]; exact h4
    · rw [R 5 (by decide), R 4 (by decide), am_put_s]
      exact fun _ => ⟨a1, by omega⟩
  · rename_i e
    exact ⟨h1, h2, h3, h4, fun e2 => absurd e2 e⟩
theorem MR_opens {c t : am_F} {k o : Int} (h : MR c t k o) (hf : t 0 5 = 0) : MR c (k_opens t).2 k (o + (k_opens t).1) ∧ ((k_opens t).1 = 0 ∨ c 0 50 + o < 6 ∨ 6 < c 0 50 + o) := by
  obtain ⟨h1, h2, h3, h4, h5⟩ := h
  unfold k_opens
  dsimp only
  by_cases e : t 0 50 = 6
  · rw [if_pos e]
    have w5 : ¬ k_wrong t 3 (t 0 4) 0 5 = 0 := k_wrong_5 (by decide)
    rw [if_neg w5]
    have z := MR_E (j := 0) ⟨h1, h2, h3, h4, h5⟩ (Ea_wrong (j := 0) (Ea_r h1) (x := 3) (y := t 0 4) (by decide))
    exact ⟨MR_o (MR_le z (by omega)) (by omega), Or.inl rfl⟩
  · rw [if_neg e]
    have w5 : am_put t 0 50 (t 0 50 + 1) 0 5 = 0 := (am_put_i (by decide)).trans hf
    rw [if_pos w5]
    refine ⟨⟨⟨?_, ?_, ?_⟩, ?_, ?_, ?_, ?_⟩, by omega⟩
    · rw [am_put_i (by decide)]; exact h1.1
    · rw [am_put_i (by decide), am_put_i (by decide)]; exact h1.2.1
    · rw [am_put_i (by decide)]; exact h1.2.2
    · exact ⟨(am_put_i (by decide)).trans h2.1, Fr_t h2.2 Fr_p⟩
    · rw [am_put_i (by decide)]; exact h3
    · rw [am_put_s]; omega
    · rw [am_put_i (by decide), am_put_i (by decide), am_put_i (by decide)]; exact h5
theorem k_says_4 (t : am_F) (x y : Int) : k_says t x y 0 4 = t 0 4 ∧ k_says t x y 0 5 = t 0 5 := by
  unfold k_says
  split
  · by_cases n0 : (508 + (t 0 49).toNat) = 0
    · omega
    · rw [am_put_i (by decide), am_put_i (by decide), am_put_kr (Ne.symm n0), am_put_kr (Ne.symm n0)]
      exact ⟨rfl, rfl⟩
  · exact ⟨rfl, rfl⟩
theorem MR_at {c d : am_F} {k o : Int} (h : MR c d k o) : d 0 5 = 0 → c 0 4 + k ≤ d 0 4 := fun e => by
  obtain ⟨h1, h2, h3, h4, h5⟩ := h
  obtain ⟨a1, a2⟩ := h5 e
  omega
theorem k_opens_4 (t : am_F) : (k_opens t).2 0 4 = t 0 4 ∧ (k_opens t).2 0 2 = t 0 2 := by
  unfold k_opens
  dsimp only
  split
  · unfold k_wrong
    split
    · exact ⟨(am_put_i (by decide)).trans (am_put_i (by decide)), (am_put_i (by decide)).trans (am_put_i (by decide))⟩
    · exact ⟨rfl, rfl⟩
  · exact ⟨am_put_i (by decide), am_put_i (by decide)⟩
theorem k_isWord_5 (b : am_F) (la lb lc ld le lf lg : Int) : (k_isWord b la lb lc ld le lf lg).2 0 5 = b 0 5 := by
  unfold k_isWord
  dsimp only
  split
  · exact k_blanks_5
  · rfl
