/-! THE TIE: what is read of a port -/
/-- two tables by steps: the last told of a step counts -/
def LtR (n m : Int) (a b : Int → Int) (V : Int → Int → Prop) : Prop := (∀ k k', 0 ≤ k → k < k' → k' < m → b k ≠ b k') ∧ (∀ i, 0 ≤ i → i < n → ∃ k, (0 ≤ k ∧ k < m) ∧ b k = a i ∧ ((∀ i', i < i' → i' < n → a i' ≠ a i) → V i k)) ∧ ∀ k, 0 ≤ k → k < m → ∃ i, (0 ≤ i ∧ i < n) ∧ a i = b k
theorem LtR_add {n m k0 s m' : Int} {a b a' b' : Int → Int} {V V' : Int → Int → Prop} (h : LtR n m a b V) (hn : 0 ≤ n) (ha : ∀ i, 0 ≤ i → i < n → a' i = a i) (hs : a' n = s) (hk : 0 ≤ k0 ∧ k0 ≤ m) (h1 : k0 < m → b k0 = s) (h2 : ∀ k, 0 ≤ k → k < k0 → b k ≠ s) (hm : m' = if k0 = m then m + 1 else m) (hb : ∀ k, 0 ≤ k → k < m → k ≠ k0 → b' k = b k) (hb0 : b' k0 = s) (hV : ∀ i k, 0 ≤ i → i < n → 0 ≤ k → k < m → k ≠ k0 → V i k → V' i k) (hV0 : V' n k0) : LtR (n + 1) m' a' b' V' := by
  obtain ⟨d1, d2, d3⟩ := h
  have hm' : m' = m ∧ k0 < m ∨ m' = m + 1 ∧ k0 = m := by
    by_cases g : k0 = m
    · rw [if_pos g] at hm; exact Or.inr ⟨hm, g⟩
    · rw [if_neg g] at hm; exact Or.inl ⟨hm, by omega⟩
  have hs0 : ∀ k, 0 ≤ k → k < m → k ≠ k0 → b k ≠ s := fun k a1 a2 a3 e => by
    by_cases g : k < k0
    · exact h2 k a1 g e
    · exact d1 k0 k hk.1 (by omega) a2 ((h1 (by omega)).trans e.symm)
  refine ⟨fun k k' a1 a2 a3 e => ?_, fun i a1 a2 => ?_, fun k a1 a2 => ?_⟩
  · by_cases g : k = k0
    · rw [g, hb0, hb k' (by omega) (by omega) (by omega)] at e
      exact hs0 k' (by omega) (by omega) (by omega) e.symm
    · by_cases g' : k' = k0
      · rw [g', hb0, hb k a1 (by omega) g] at e
        exact hs0 k a1 (by omega) g e
      · rw [hb k a1 (by omega) g, hb k' (by omega) (by omega) g'] at e
        exact d1 k k' a1 a2 (by omega) e
  · by_cases g : i = n
    · subst g
      exact ⟨k0, ⟨hk.1, by omega⟩, hb0.trans hs.symm, fun _ => hV0⟩
    · obtain ⟨k, c1, c2, c3⟩ := d2 i a1 (by omega)
      have e1 := ha i a1 (by omega)
      by_cases g2 : k = k0
      · refine ⟨k, ⟨c1.1, by omega⟩, ?_, fun hl => ?_⟩
        · rw [g2, hb0, e1, ← c2, g2]
          exact (h1 (by omega)).symm
        · exact absurd (by rw [hs, e1, ← c2, g2]; exact (h1 (by omega)).symm) (hl n (by omega) (by omega))
      · refine ⟨k, ⟨c1.1, by omega⟩, ?_, fun hl => hV i k a1 (by omega) c1.1 c1.2 g2 (c3 fun i' b1 b2 b3 => ?_)⟩
        · rw [hb k c1.1 c1.2 g2, e1]; exact c2
        · exact hl i' b1 (by omega) (by rw [ha i' (by omega) b2, e1]; exact b3)
  · by_cases g : k = k0
    · exact ⟨n, ⟨hn, by omega⟩, by rw [hs, g, hb0]⟩
    · obtain ⟨i, c1, c2⟩ := d3 k a1 (by omega)
      exact ⟨i, ⟨c1.1, by omega⟩, by rw [ha i c1.1 c1.2, hb k a1 (by omega) g]; exact c2⟩
theorem LtR_0 {a b : Int → Int} {V : Int → Int → Prop} : LtR 0 0 a b V := ⟨fun k k' a1 a2 a3 => by omega, fun i a1 a2 => by omega, fun k a1 a2 => by omega⟩
theorem LtR_eq {n m : Int} {a b a' b' : Int → Int} {V V' : Int → Int → Prop} (h : LtR n m a b V) (ha : ∀ i, 0 ≤ i → i < n → a' i = a i) (hb : ∀ k, 0 ≤ k → k < m → b' k = b k) (hV : ∀ i k, 0 ≤ i → i < n → 0 ≤ k → k < m → V i k → V' i k) : LtR n m a' b' V' := by
  obtain ⟨d1, d2, d3⟩ := h
  refine ⟨fun k k' a1 a2 a3 => by rw [hb k a1 (by omega), hb k' (by omega) a3]; exact d1 k k' a1 a2 a3, fun i a1 a2 => ?_, fun k a1 a2 => ?_⟩
  · obtain ⟨k, c1, c2, c3⟩ := d2 i a1 a2
    exact ⟨k, c1, by rw [hb k c1.1 c1.2, ha i a1 a2]; exact c2, fun hl => hV i k a1 a2 c1.1 c1.2 (c3 fun i' b1 b2 b3 => hl i' b1 b2 (by rw [ha i' (by omega) b2, ha i a1 a2]; exact b3))⟩
  · obtain ⟨i, c1, c2⟩ := d3 k a1 a2
    exact ⟨i, c1, by rw [ha i c1.1 c1.2, hb k a1 a2]; exact c2⟩
/-- the class's choice of a row, the model's -/
theorem rr_latest {n : Int} {f : Nat → Int} {t : Int} (hn : 0 ≤ n) : (f_latest n f t = -1 ∧ ∀ i, 0 ≤ i → i < n → t < f_at n f i 0) ∨ ((0 ≤ f_latest n f t ∧ f_latest n f t < n) ∧ f_at n f (f_latest n f t) 0 ≤ t ∧ ∀ i, 0 ≤ i → i < n → f_at n f i 0 ≤ t → f_at n f i 0 ≤ f_at n f (f_latest n f t) 0 ∧ (f_at n f i 0 = f_at n f (f_latest n f t) 0 → i ≤ f_latest n f t)) := by
  have h9 := am_fold_inv (P := fun i (x : Int) => (x = -1 ∧ ∀ j, 0 ≤ j → j < i → t < f_at n f j 0) ∨ ((0 ≤ x ∧ x < i) ∧ f_at n f x 0 ≤ t ∧ ∀ j, 0 ≤ j → j < i → f_at n f j 0 ≤ t → f_at n f j 0 ≤ f_at n f x 0 ∧ (f_at n f j 0 = f_at n f x 0 → j ≤ x))) (g := g_latest n f t) n.toNat 0 (-1) (Or.inl ⟨rfl, fun j a1 a2 => by omega⟩) (fun i x a1 a2 hP => by
    unfold g_latest
    rcases hP with ⟨p1, p2⟩ | ⟨p1, p2, p3⟩
    · by_cases g : f_at n f i 0 ≤ t
      · rw [if_pos ⟨g, Or.inl p1⟩]
        refine Or.inr ⟨⟨a1, by omega⟩, g, fun j b1 b2 b3 => ?_⟩
        by_cases g2 : j = i
        · rw [g2]; exact ⟨Int.le_refl _, fun _ => Int.le_refl _⟩
        · have := p2 j b1 (by omega); omega
      · rw [if_neg (fun h => g h.1)]
        refine Or.inl ⟨p1, fun j b1 b2 => ?_⟩
        by_cases g2 : j = i
        · rw [g2]; omega
        · exact p2 j b1 (by omega)
    · by_cases g : f_at n f i 0 ≤ t ∧ f_at n f x 0 ≤ f_at n f i 0
      · rw [if_pos ⟨g.1, Or.inr g.2⟩]
        refine Or.inr ⟨⟨a1, by omega⟩, g.1, fun j b1 b2 b3 => ?_⟩
        by_cases g2 : j = i
        · rw [g2]; exact ⟨Int.le_refl _, fun _ => Int.le_refl _⟩
        · have := p3 j b1 (by omega) b3
          exact ⟨by omega, fun _ => by omega⟩
      · rw [if_neg (fun h => g ⟨h.1, h.2.resolve_left (by omega)⟩)]
        refine Or.inr ⟨⟨p1.1, by omega⟩, p2, fun j b1 b2 b3 => ?_⟩
        by_cases g2 : j = i
        · rw [g2] at b3 ⊢
          exact ⟨by omega, fun e => by omega⟩
        · exact p3 j b1 (by omega) b3)
  unfold f_latest
  rw [show (0 : Int) + ((n.toNat : Nat) : Int) = n by omega] at h9
  exact h9
def gw (b : Int → Int) (t k best : Int) : Int := if t < b k then best else (if best = -1 then k else (if b k ≤ b best then best else k))
theorem rr_windAt {m : Int} {b : Int → Int} {t : Int} (hm : 0 ≤ m) : (am_fold (gw b t) 0 m.toNat (-1) = -1 ∧ ∀ i, 0 ≤ i → i < m → t < b i) ∨ ((0 ≤ am_fold (gw b t) 0 m.toNat (-1) ∧ am_fold (gw b t) 0 m.toNat (-1) < m) ∧ b (am_fold (gw b t) 0 m.toNat (-1)) ≤ t ∧ ∀ i, 0 ≤ i → i < m → b i ≤ t → b i ≤ b (am_fold (gw b t) 0 m.toNat (-1))) := by
  have h9 := am_fold_inv (P := fun i (x : Int) => (x = -1 ∧ ∀ j, 0 ≤ j → j < i → t < b j) ∨ ((0 ≤ x ∧ x < i) ∧ b x ≤ t ∧ ∀ j, 0 ≤ j → j < i → b j ≤ t → b j ≤ b x)) (g := gw b t) m.toNat 0 (-1) (Or.inl ⟨rfl, fun j a1 a2 => by omega⟩) (fun i x a1 a2 hP => by
    unfold gw
    rcases hP with ⟨p1, p2⟩ | ⟨p1, p2, p3⟩
    · by_cases g : t < b i
      · rw [if_pos g]
        refine Or.inl ⟨p1, fun j b1 b2 => ?_⟩
        by_cases g2 : j = i
        · rw [g2]; exact g
        · exact p2 j b1 (by omega)
      · rw [if_neg g, if_pos p1]
        refine Or.inr ⟨⟨a1, by omega⟩, by omega, fun j b1 b2 b3 => ?_⟩
        by_cases g2 : j = i
        · rw [g2]; exact Int.le_refl _
        · have := p2 j b1 (by omega); omega
    · by_cases g : t < b i
      · rw [if_pos g]
        refine Or.inr ⟨⟨p1.1, by omega⟩, p2, fun j b1 b2 b3 => ?_⟩
        by_cases g2 : j = i
        · rw [g2] at b3; omega
        · exact p3 j b1 (by omega) b3
      · rw [if_neg g, if_neg (by omega)]
        by_cases g3 : b i ≤ b x
        · rw [if_pos g3]
          refine Or.inr ⟨⟨p1.1, by omega⟩, p2, fun j b1 b2 b3 => ?_⟩
          by_cases g2 : j = i
          · rw [g2]; exact g3
          · exact p3 j b1 (by omega) b3
        · rw [if_neg g3]
          refine Or.inr ⟨⟨a1, by omega⟩, by omega, fun j b1 b2 b3 => ?_⟩
          by_cases g2 : j = i
          · rw [g2]; exact Int.le_refl _
          · have := p3 j b1 (by omega) b3; omega)
  rw [show (0 : Int) + ((m.toNat : Nat) : Int) = m by omega] at h9
  exact h9
theorem LtR_at {n m t : Int} {f : Nat → Int} {b : Int → Int} {V : Int → Int → Prop} (h : LtR n m (fun i => f_at n f i 0) b V) (hn : 0 ≤ n) (hm : 0 ≤ m) : (f_latest n f t = -1 ∧ am_fold (gw b t) 0 m.toNat (-1) = -1) ∨ ((0 ≤ f_latest n f t ∧ f_latest n f t < n) ∧ (0 ≤ am_fold (gw b t) 0 m.toNat (-1) ∧ am_fold (gw b t) 0 m.toNat (-1) < m) ∧ V (f_latest n f t) (am_fold (gw b t) 0 m.toNat (-1))) := by
  obtain ⟨d1, d2, d3⟩ := h
  have hc := rr_latest (f := f) (t := t) hn
  have hk := rr_windAt (b := b) (t := t) hm
  generalize f_latest n f t = x at *
  generalize am_fold (gw b t) 0 m.toNat (-1) = y at *
  rcases hc with ⟨c1, c2⟩ | ⟨c1, c2, c3⟩ <;> rcases hk with ⟨k1, k2⟩ | ⟨k1, k2, k3⟩
  · exact Or.inl ⟨c1, k1⟩
  · obtain ⟨i, e1, e2⟩ := d3 y k1.1 k1.2
    have := c2 i e1.1 e1.2
    dsimp only at e2
    omega
  · obtain ⟨k, e1, e2, -⟩ := d2 x c1.1 c1.2
    have := k2 k e1.1 e1.2
    dsimp only at e2
    omega
  · refine Or.inr ⟨c1, k1, ?_⟩
    obtain ⟨k, e1, e2, e3⟩ := d2 x c1.1 c1.2
    obtain ⟨i, u1, u2⟩ := d3 y k1.1 k1.2
    dsimp only at e2 e3 u2
    have q1 := k3 k e1.1 e1.2 (by omega)
    have q2 := (c3 i u1.1 u1.2 (by omega)).1
    have hky : k = y := by
      by_cases g : k = y
      · exact g
      · rcases Int.lt_or_gt_of_ne g with g | g
        · exact absurd (by omega) (d1 k y e1.1 g k1.2)
        · exact absurd (by omega) (d1 y k k1.1 g e1.2)
    rw [hky] at e3
    refine e3 fun i' b1 b2 b3 => ?_
    have := (c3 i' (by omega) b2 (by omega)).2 b3
    omega
/-- a row put behind a table -/
theorem rr_addR {ss : am_F} {r fi : Nat} {n na nb nc nd v : Int} (hr : r ≠ 0) (hn : 0 ≤ n) (hv : v = n + 1) : (∀ i j : Int, 0 ≤ i → i < n → 0 ≤ j → j < 4 → f_at (n + 1) (am_put (am_put (am_put (am_put (am_put ss r (n * 4).toNat na) r (n * 4 + 1).toNat nb) r (n * 4 + 2).toNat nc) r (n * 4 + 3).toNat nd) 0 fi v r) i j = f_at n (ss r) i j) ∧ (f_at (n + 1) (am_put (am_put (am_put (am_put (am_put ss r (n * 4).toNat na) r (n * 4 + 1).toNat nb) r (n * 4 + 2).toNat nc) r (n * 4 + 3).toNat nd) 0 fi v r) n 0 = na ∧ f_at (n + 1) (am_put (am_put (am_put (am_put (am_put ss r (n * 4).toNat na) r (n * 4 + 1).toNat nb) r (n * 4 + 2).toNat nc) r (n * 4 + 3).toNat nd) 0 fi v r) n 1 = nb ∧ f_at (n + 1) (am_put (am_put (am_put (am_put (am_put ss r (n * 4).toNat na) r (n * 4 + 1).toNat nb) r (n * 4 + 2).toNat nc) r (n * 4 + 3).toNat nd) 0 fi v r) n 2 = nc) ∧ am_put (am_put (am_put (am_put (am_put ss r (n * 4).toNat na) r (n * 4 + 1).toNat nb) r (n * 4 + 2).toNat nc) r (n * 4 + 3).toNat nd) 0 fi v 0 fi = n + 1 ∧ (∀ k, k ≠ 0 → k ≠ r → am_put (am_put (am_put (am_put (am_put ss r (n * 4).toNat na) r (n * 4 + 1).toNat nb) r (n * 4 + 2).toNat nc) r (n * 4 + 3).toNat nd) 0 fi v k = ss k) ∧ ∀ j, j ≠ fi → am_put (am_put (am_put (am_put (am_put ss r (n * 4).toNat na) r (n * 4 + 1).toNat nb) r (n * 4 + 2).toNat nc) r (n * 4 + 3).toNat nd) 0 fi v 0 j = ss 0 j := by
  have e0 : ∀ (y : am_F) (i : Int), am_put y 0 fi v r i.toNat = y r i.toNat := fun y i => am_put_k hr
  refine ⟨fun i j a1 a2 a3 a4 => ?_, ⟨?_, ?_, ?_⟩, by rw [am_put_s, hv], fun k k0 kr => ?_, fun j hj => ?_⟩
  · unfold f_at
    rw [if_pos (by omega), if_pos (by omega), e0, am_put_i (by omega), am_put_i (by omega), am_put_i (by omega), am_put_i (by omega)]
  · unfold f_at
    rw [if_pos (by omega), e0, Int.add_zero, am_put_i (by omega), am_put_i (by omega), am_put_i (by omega), am_put_s]
  · unfold f_at
    rw [if_pos (by omega), e0, am_put_i (by omega), am_put_i (by omega), am_put_s]
  · unfold f_at
    rw [if_pos (by omega), e0, am_put_i (by omega), am_put_s]
  · rw [am_put_kr k0, am_put_kr kr, am_put_kr kr, am_put_kr kr, am_put_kr kr]
  · rw [am_put_i hj, am_put_k (fun e => hr e.symm), am_put_k (fun e => hr e.symm), am_put_k (fun e => hr e.symm), am_put_k (fun e => hr e.symm)]
/-! the parts of a port -/
def PD (s c : am_F) : Prop := (s 0 0 = c 3 0 ∧ s 0 1 = c 3 1) ∧ ((2 ≤ c 3 0 ∧ c 3 0 ≤ 9) ∧ 2 ≤ c 3 1 ∧ c 3 1 ≤ 9) ∧ s 0 2 = c 3 7 ∧ 1 ≤ c 3 7 ∧ c 3 7 ≤ 99
def PWv (s c : am_F) (i k : Int) : Prop := f_at (s 0 3) (s 1) i 1 = 3 * c (8 + k.toNat) 1 + c (8 + k.toNat) 2 ∧ f_at (s 0 3) (s 1) i 2 = c (8 + k.toNat) 3
def PW (s c : am_F) : Prop := (s 0 3 = c 0 56 ∧ 0 ≤ c 0 56 ∧ c 0 56 ≤ 12 ∧ 0 ≤ c 3 8 ∧ c 3 8 ≤ c 0 56) ∧ LtR (s 0 3) (c 3 8) (fun i => f_at (s 0 3) (s 1) i 0) (fun k => c (8 + k.toNat) 0) (PWv s c) ∧ ∀ k : Int, 0 ≤ k → k < c 3 8 → (0 ≤ c (8 + k.toNat) 0 ∧ c (8 + k.toNat) 0 ≤ 39) ∧ (0 ≤ c (8 + k.toNat) 1 ∧ c (8 + k.toNat) 1 ≤ 2) ∧ (0 ≤ c (8 + k.toNat) 2 ∧ c (8 + k.toNat) 2 ≤ 2) ∧ 0 ≤ c (8 + k.toNat) 3 ∧ c (8 + k.toNat) 3 ≤ 8
def PTv (s c : am_F) (i k : Int) : Prop := f_at (s 0 4) (s 2) i 1 = c (34 + k.toNat) 1
def PT (s c : am_F) : Prop := (s 0 4 = c 0 57 ∧ 0 ≤ c 0 57 ∧ c 0 57 ≤ 12 ∧ 0 ≤ c 3 9 ∧ c 3 9 ≤ c 0 57) ∧ LtR (s 0 4) (c 3 9) (fun i => f_at (s 0 4) (s 2) i 0) (fun k => c (34 + k.toNat) 0) (PTv s c) ∧ ∀ k : Int, 0 ≤ k → k < c 3 9 → (0 ≤ c (34 + k.toNat) 0 ∧ c (34 + k.toNat) 0 ≤ 39) ∧ 0 ≤ c (34 + k.toNat) 1 ∧ c (34 + k.toNat) 1 ≤ 9
def PL (s c : am_F) : Prop := (s 0 5 = c 3 2 ∧ 0 ≤ c 3 2 ∧ c 3 2 ≤ 6) ∧ ∀ i : Int, 0 ≤ i → i < c 3 2 → f_at (s 0 5) (s 3) i 0 = c (60 + i.toNat) 0 + 10 * c (60 + i.toNat) 1 ∧ f_at (s 0 5) (s 3) i 1 = c (60 + i.toNat) 2 ∧ (0 ≤ c (60 + i.toNat) 0 ∧ c (60 + i.toNat) 0 < c 3 0) ∧ (0 ≤ c (60 + i.toNat) 1 ∧ c (60 + i.toNat) 1 < c 3 1) ∧ 1 ≤ c (60 + i.toNat) 2 ∧ c (60 + i.toNat) 2 ≤ 20
def PS (s c : am_F) : Prop := (s 0 6 = c 3 10 ∧ 0 ≤ c 3 10 ∧ c 3 10 ≤ 6) ∧ ∀ i : Int, 0 ≤ i → i < c 3 10 → f_at (s 0 6) (s 4) i 0 = c (75 + i.toNat) 0 ∧ f_at (s 0 6) (s 4) i 1 = c (75 + i.toNat) 1 + 10 * c (75 + i.toNat) 2 ∧ (0 ≤ c (75 + i.toNat) 1 ∧ c (75 + i.toNat) 1 < c 3 0) ∧ 0 ≤ c (75 + i.toNat) 2 ∧ c (75 + i.toNat) 2 < c 3 1
/-- the place lies in a block -/
def inB (c : am_F) (r : Nat) (x y : Int) : Prop := (c r 0 ≤ x ∧ x ≤ c r 2) ∧ c r 1 ≤ y ∧ y ≤ c r 3
def PO (s c : am_F) : Prop := (s 0 7 = c 3 3 ∧ 0 ≤ c 3 3 ∧ c 3 3 ≤ 6) ∧ (∀ k : Int, 0 ≤ k → k < c 3 3 → ((0 ≤ c (89 + k.toNat) 0 ∧ c (89 + k.toNat) 0 ≤ c (89 + k.toNat) 2 ∧ c (89 + k.toNat) 2 < c 3 0) ∧ (0 ≤ c (89 + k.toNat) 1 ∧ c (89 + k.toNat) 1 ≤ c (89 + k.toNat) 3 ∧ c (89 + k.toNat) 3 < c 3 1) ∧ (0 ≤ c (89 + k.toNat) 4 ∧ c (89 + k.toNat) 4 ≤ 9) ∧ 0 ≤ c (89 + k.toNat) 5 ∧ c (89 + k.toNat) 5 ≤ 9) ∧ f_at (s 0 7) (s 5) k 0 = c (89 + k.toNat) 4 ∧ f_at (s 0 7) (s 5) k 1 = c (89 + k.toNat) 5 ∧ f_at (s 0 7) (s 5) k 2 = (c (89 + k.toNat) 2 - c (89 + k.toNat) 0 + 1) * (c (89 + k.toNat) 3 - c (89 + k.toNat) 1 + 1)) ∧ (∀ k x y : Int, 0 ≤ k → k < c 3 3 → inB c (89 + k.toNat) x y → f_lotOn s (x + 10 * y) = k) ∧ ∀ x y : Int, 0 ≤ x → x < c 3 0 → 0 ≤ y → y < c 3 1 → f_lotOn s (x + 10 * y) = -1 ∨ ((0 ≤ f_lotOn s (x + 10 * y) ∧ f_lotOn s (x + 10 * y) < c 3 3) ∧ inB c (89 + (f_lotOn s (x + 10 * y)).toNat) x y)
/-- where a walker stands -/
def gp (ρ : Nat → Int) (i : Int) (x9 : Int × Int) : Int × Int := (x9.1 + k_goesBy (ρ (4 + i).toNat) 1, x9.2 + k_goesBy (ρ (4 + i).toNat) 0)
def PKp (s c : am_F) (ρ : Nat → Int) (w : Int) : Prop := ∀ m : Nat, (m : Int) ≤ ρ 3 → f_pathAt s w m = (am_fold (gp ρ) 0 m (ρ 0, ρ 1)).1 + 10 * (am_fold (gp ρ) 0 m (ρ 0, ρ 1)).2 ∧ (0 ≤ (am_fold (gp ρ) 0 m (ρ 0, ρ 1)).1 ∧ (am_fold (gp ρ) 0 m (ρ 0, ρ 1)).1 < c 3 0) ∧ 0 ≤ (am_fold (gp ρ) 0 m (ρ 0, ρ 1)).2 ∧ (am_fold (gp ρ) 0 m (ρ 0, ρ 1)).2 < c 3 1
def PK (s c : am_F) : Prop := (s 0 8 = c 3 4 ∧ 0 ≤ c 3 4 ∧ c 3 4 ≤ 4) ∧ ∀ w : Int, 0 ≤ w → w < c 3 4 → (f_at (s 0 8) (s 6) w 0 = c (103 + w.toNat) 2 ∧ f_at (s 0 8) (s 6) w 1 = c (103 + w.toNat) 3 ∧ (0 ≤ c (103 + w.toNat) 2 ∧ c (103 + w.toNat) 2 ≤ 39) ∧ 0 ≤ c (103 + w.toNat) 3 ∧ c (103 + w.toNat) 3 ≤ 12) ∧ PKp s c (c (103 + w.toNat)) w
def PX (s c : am_F) : Prop := (s 0 9 = c 3 5 ∧ 0 ≤ c 3 5 ∧ c 3 5 ≤ 4) ∧ ∀ i : Int, 0 ≤ i → i < c 3 5 → f_at (s 0 9) (s 7) i 0 = c (113 + i.toNat) 0 + 10 * c (113 + i.toNat) 1 ∧ (0 ≤ c (113 + i.toNat) 0 ∧ c (113 + i.toNat) 0 < c 3 0) ∧ 0 ≤ c (113 + i.toNat) 1 ∧ c (113 + i.toNat) 1 < c 3 1
def PH (s c : am_F) : Prop := (s 0 10 = c 3 6 ∧ 0 ≤ c 3 6 ∧ c 3 6 ≤ 4) ∧ ∀ i : Int, 0 ≤ i → i < c 3 6 → f_at (s 0 10) (s 8) i 0 = c (123 + i.toNat) 0 ∧ f_at (s 0 10) (s 8) i 1 = c (123 + i.toNat) 1 ∧ (0 ≤ c (123 + i.toNat) 0 ∧ c (123 + i.toNat) 0 < c 3 0)
def PF (s c : am_F) : Prop := (∀ x y : Int, 0 ≤ x → x < 9 → 0 ≤ y → y < 9 → s 11 (x + 10 * y).toNat = c 5 (x + 9 * y).toNat) ∧ (∀ y : Int, 0 ≤ y → y < 9 → s 11 (9 + 10 * y).toNat = 0) ∧ ∀ x y : Int, 0 ≤ x → x < 10 → 0 ≤ y → y < 9 → (s 0 0 ≤ x ∨ s 0 1 ≤ y) → s 11 (x + 10 * y).toNat = 0
def HR (s c : am_F) : Prop := PD s c ∧ PW s c ∧ PT s c ∧ PL s c ∧ PS s c ∧ PO s c ∧ PK s c ∧ PX s c ∧ PH s c ∧ PF s c
theorem PD_f {s s' c c' : am_F} (h : PD s c) (f0 : s' 0 0 = s 0 0) (f1 : s' 0 1 = s 0 1) (f2 : s' 0 2 = s 0 2) (t0 : c' 3 0 = c 3 0) (t1 : c' 3 1 = c 3 1) (t7 : c' 3 7 = c 3 7) : PD s' c' := by
  unfold PD
  rw [f0, f1, f2, t0, t1, t7]
  exact h
theorem PW_f {s s' c c' : am_F} (h : PW s c) (r1 : s' 1 = s 1) (f3 : s' 0 3 = s 0 3) (hc : ∀ k : Nat, 8 ≤ k → k ≤ 19 → c' k = c k) (t8 : c' 3 8 = c 3 8) (z56 : c' 0 56 = c 0 56) : PW s' c' := by
  obtain ⟨h1, h2, h3⟩ := h
  have e : ∀ k : Int, 0 ≤ k → k < c 3 8 → c' (8 + k.toNat) = c (8 + k.toNat) := fun k a1 a2 => hc _ (by omega) (by omega)
  refine ⟨by rw [f3, z56, t8]; exact h1, ?_, fun k a1 a2 => ?_⟩
  · rw [f3, t8]
    refine LtR_eq h2 (fun i a1 a2 => by rw [r1]) (fun k a1 a2 => by rw [e k a1 a2]) (fun i k a1 a2 a3 a4 hv => ?_)
    unfold PWv at hv ⊢
    rw [f3, r1, e k a3 a4]
    exact hv
  · rw [t8] at a2
    rw [e k a1 a2]
    exact h3 k a1 a2
theorem PT_f {s s' c c' : am_F} (h : PT s c) (r2 : s' 2 = s 2) (f4 : s' 0 4 = s 0 4) (hc : ∀ k : Nat, 34 ≤ k → k ≤ 45 → c' k = c k) (t9 : c' 3 9 = c 3 9) (z57 : c' 0 57 = c 0 57) : PT s' c' := by
  obtain ⟨h1, h2, h3⟩ := h
  have e : ∀ k : Int, 0 ≤ k → k < c 3 9 → c' (34 + k.toNat) = c (34 + k.toNat) := fun k a1 a2 => hc _ (by omega) (by omega)
  refine ⟨by rw [f4, z57, t9]; exact h1, ?_, fun k a1 a2 => ?_⟩
  · rw [f4, t9]
    refine LtR_eq h2 (fun i a1 a2 => by rw [r2]) (fun k a1 a2 => by rw [e k a1 a2]) (fun i k a1 a2 a3 a4 hv => ?_)
    unfold PTv at hv ⊢
    rw [f4, r2, e k a3 a4]
    exact hv
  · rw [t9] at a2
    rw [e k a1 a2]
    exact h3 k a1 a2
theorem PL_f {s s' c c' : am_F} (h : PL s c) (r3 : s' 3 = s 3) (f5 : s' 0 5 = s 0 5) (hc : ∀ k : Nat, 60 ≤ k → k ≤ 65 → c' k = c k) (t0 : c' 3 0 = c 3 0) (t1 : c' 3 1 = c 3 1) (t2 : c' 3 2 = c 3 2) : PL s' c' := by
  obtain ⟨h1, h2⟩ := h
  refine ⟨by rw [f5, t2]; exact h1, fun i a1 a2 => ?_⟩
  rw [t2] at a2
  rw [f5, r3, t0, t1, hc (60 + i.toNat) (by omega) (by omega)]
  exact h2 i a1 a2
theorem PS_f {s s' c c' : am_F} (h : PS s c) (r4 : s' 4 = s 4) (f6 : s' 0 6 = s 0 6) (hc : ∀ k : Nat, 75 ≤ k → k ≤ 80 → c' k = c k) (t0 : c' 3 0 = c 3 0) (t1 : c' 3 1 = c 3 1) (t10 : c' 3 10 = c 3 10) : PS s' c' := by
  obtain ⟨h1, h2⟩ := h
  refine ⟨by rw [f6, t10]; exact h1, fun i a1 a2 => ?_⟩
  rw [t10] at a2
  rw [f6, r4, t0, t1, hc (75 + i.toNat) (by omega) (by omega)]
  exact h2 i a1 a2
theorem PO_f {s s' c c' : am_F} (h : PO s c) (r5 : s' 5 = s 5) (r10 : s' 10 = s 10) (f7 : s' 0 7 = s 0 7) (hc : ∀ k : Nat, 89 ≤ k → k ≤ 94 → c' k = c k) (t0 : c' 3 0 = c 3 0) (t1 : c' 3 1 = c 3 1) (t3 : c' 3 3 = c 3 3) : PO s' c' := by
  obtain ⟨h1, h2, h3, h4⟩ := h
  have e : ∀ k : Int, 0 ≤ k → k < c 3 3 → c' (89 + k.toNat) = c (89 + k.toNat) := fun k a1 a2 => hc _ (by omega) (by omega)
  have eL : ∀ z, f_lotOn s' z = f_lotOn s z := fun z => by
    unfold f_lotOn
    rw [r10]
  refine ⟨by rw [f7, t3]; exact h1, fun k a1 a2 => ?_, fun k x y a1 a2 a3 => ?_, fun x y a1 a2 a3 a4 => ?_⟩
  · rw [t3] at a2
    rw [f7, r5, t0, t1, e k a1 a2]
    exact h2 k a1 a2
  · rw [t3] at a2
    unfold inB at a3
    rw [e k a1 a2] at a3
    rw [eL]
    exact h3 k x y a1 a2 a3
  · rw [t0] at a2
    rw [t1] at a4
    rw [eL, t3]
    rcases h4 x y a1 a2 a3 a4 with g | ⟨g1, g2⟩
    · exact Or.inl g
    · refine Or.inr ⟨g1, ?_⟩
      unfold inB
      rw [e _ g1.1 g1.2]
      exact g2
theorem PK_f {s s' c c' : am_F} (h : PK s c) (r6 : s' 6 = s 6) (r9 : s' 9 = s 9) (f8 : s' 0 8 = s 0 8) (hc : ∀ k : Nat, 103 ≤ k → k ≤ 106 → c' k = c k) (t0 : c' 3 0 = c 3 0) (t1 : c' 3 1 = c 3 1) (t4 : c' 3 4 = c 3 4) : PK s' c' := by
  obtain ⟨h1, h2⟩ := h
  have e : ∀ k : Int, 0 ≤ k → k < c 3 4 → c' (103 + k.toNat) = c (103 + k.toNat) := fun k a1 a2 => hc _ (by omega) (by omega)
  refine ⟨by rw [f8, t4]; exact h1, fun w a1 a2 => ?_⟩
  rw [t4] at a2
  obtain ⟨g1, g2⟩ := h2 w a1 a2
  refine ⟨by rw [f8, r6, e w a1 a2]; exact g1, fun m hm => ?_⟩
  rw [e w a1 a2] at hm ⊢
  have := g2 m hm
  unfold f_pathAt at this ⊢
  rw [r9, t0, t1]
  exact this
theorem PX_f {s s' c c' : am_F} (h : PX s c) (r7 : s' 7 = s 7) (f9 : s' 0 9 = s 0 9) (hc : ∀ k : Nat, 113 ≤ k → k ≤ 116 → c' k = c k) (t0 : c' 3 0 = c 3 0) (t1 : c' 3 1 = c 3 1) (t5 : c' 3 5 = c 3 5) : PX s' c' := by
  obtain ⟨h1, h2⟩ := h
  refine ⟨by rw [f9, t5]; exact h1, fun i a1 a2 => ?_⟩
  rw [t5] at a2
  rw [f9, r7, t0, t1, hc (113 + i.toNat) (by omega) (by omega)]
  exact h2 i a1 a2
theorem PH_f {s s' c c' : am_F} (h : PH s c) (r8 : s' 8 = s 8) (f10 : s' 0 10 = s 0 10) (hc : ∀ k : Nat, 123 ≤ k → k ≤ 126 → c' k = c k) (t0 : c' 3 0 = c 3 0) (t1 : c' 3 1 = c 3 1) (t6 : c' 3 6 = c 3 6) : PH s' c' := by
  obtain ⟨h1, h2⟩ := h
  refine ⟨by rw [f10, t6]; exact h1, fun i a1 a2 => ?_⟩
  rw [t6] at a2
  rw [f10, r8, t0, hc (123 + i.toNat) (by omega) (by omega)]
  exact h2 i a1 a2
theorem PF_f {s s' c c' : am_F} (h : PF s c) (r11 : s' 11 = s 11) (f0 : s' 0 0 = s 0 0) (f1 : s' 0 1 = s 0 1) (hc : c' 5 = c 5) : PF s' c' := by
  unfold PF
  rw [r11, f0, f1, hc]
  exact h
theorem HR_PW {s s' c c' : am_F} (h : HR s c) (hs : ∀ r : Nat, r ≠ 0 → r ≠ 1 → s' r = s r) (hf : ∀ j : Nat, j ≤ 10 → j ≠ 3 → s' 0 j = s 0 j) (hc : ∀ k : Nat, k ≠ 0 → k ≠ 3 → ¬ (8 ≤ k ∧ k ≤ 19) → c' k = c k) (h3 : ∀ j : Nat, j ≤ 10 → j ≠ 8 → c' 3 j = c 3 j) (h0 : ∀ j : Nat, j = 56 ∨ j = 57 → j ≠ 56 → c' 0 j = c 0 j) (hb : PW s' c') : HR s' c' := ⟨PD_f h.1 (hf 0 (by decide) (by decide)) (hf 1 (by decide) (by decide)) (hf 2 (by decide) (by decide)) (h3 0 (by decide) (by decide)) (h3 1 (by decide) (by decide)) (h3 7 (by decide) (by decide)), hb, PT_f h.2.2.1 (hs 2 (by decide) (by decide)) (hf 4 (by decide) (by decide)) (fun k a1 a2 => hc k (by omega) (by omega) (by omega)) (h3 9 (by decide) (by decide)) (h0 57 (by decide) (by decide)), PL_f h.2.2.2.1 (hs 3 (by decide) (by decide)) (hf 5 (by decide) (by decide)) (fun k a1 a2 => hc k (by omega) (by omega) (by omega)) (h3 0 (by decide) (by decide)) (h3 1 (by decide) (by decide)) (h3 2 (by decide) (by decide)), PS_f h.2.2.2.2.1 (hs 4 (by decide) (by decide)) (hf 6 (by decide) (by decide)) (fun k a1 a2 => hc k (by omega) (by omega) (by omega)) (h3 0 (by decide) (by decide)) (h3 1 (by decide) (by decide)) (h3 10 (by decide) (by decide)), PO_f h.2.2.2.2.2.1 (hs 5 (by decide) (by decide)) (hs 10 (by decide) (by decide)) (hf 7 (by decide) (by decide)) (fun k a1 a2 => hc k (by omega) (by omega) (by omega)) (h3 0 (by decide) (by decide)) (h3 1 (by decide) (by decide)) (h3 3 (by decide) (by decide)), PK_f h.2.2.2.2.2.2.1 (hs 6 (by decide) (by decide)) (hs 9 (by decide) (by decide)) (hf 8 (by decide) (by decide)) (fun k a1 a2 => hc k (by omega) (by omega) (by omega)) (h3 0 (by decide) (by decide)) (h3 1 (by decide) (by decide)) (h3 4 (by decide) (by decide)), PX_f h.2.2.2.2.2.2.2.1 (hs 7 (by decide) (by decide)) (hf 9 (by decide) (by decide)) (fun k a1 a2 => hc k (by omega) (by omega) (by omega)) (h3 0 (by decide) (by decide)) (h3 1 (by decide) (by decide)) (h3 5 (by decide) (by decide)), PH_f h.2.2.2.2.2.2.2.2.1 (hs 8 (by decide) (by decide)) (hf 10 (by decide) (by decide)) (fun k a1 a2 => hc k (by omega) (by omega) (by omega)) (h3 0 (by decide) (by decide)) (h3 1 (by decide) (by decide)) (h3 6 (by decide) (by decide)), PF_f h.2.2.2.2.2.2.2.2.2 (hs 11 (by decide) (by decide)) (hf 0 (by decide) (by decide)) (hf 1 (by decide) (by decide)) (hc 5 (by decide) (by decide) (by decide))⟩
theorem HR_PT {s s' c c' : am_F} (h : HR s c) (hs : ∀ r : Nat, r ≠ 0 → r ≠ 2 → s' r = s r) (hf : ∀ j : Nat, j ≤ 10 → j ≠ 4 → s' 0 j = s 0 j) (hc : ∀ k : Nat, k ≠ 0 → k ≠ 3 → ¬ (34 ≤ k ∧ k ≤ 45) → c' k = c k) (h3 : ∀ j : Nat, j ≤ 10 → j ≠ 9 → c' 3 j = c 3 j) (h0 : ∀ j : Nat, j = 56 ∨ j = 57 → j ≠ 57 → c' 0 j = c 0 j) (hb : PT s' c') : HR s' c' := ⟨PD_f h.1 (hf 0 (by decide) (by decide)) (hf 1 (by decide) (by decide)) (hf 2 (by decide) (by decide)) (h3 0 (by decide) (by decide)) (h3 1 (by decide) (by decide)) (h3 7 (by decide) (by decide)), PW_f h.2.1 (hs 1 (by decide) (by decide)) (hf 3 (by decide) (by decide)) (fun k a1 a2 => hc k (by omega) (by omega) (by omega)) (h3 8 (by decide) (by decide)) (h0 56 (by decide) (by decide)), hb, PL_f h.2.2.2.1 (hs 3 (by decide) (by decide)) (hf 5 (by decide) (by decide)) (fun k a1 a2 => hc k (by omega) (by omega) (by omega)) (h3 0 (by decide) (by decide)) (h3 1 (by decide) (by decide)) (h3 2 (by decide) (by decide)), PS_f h.2.2.2.2.1 (hs 4 (by decide) (by decide)) (hf 6 (by decide) (by decide)) (fun k a1 a2 => hc k (by omega) (by omega) (by omega)) (h3 0 (by decide) (by decide)) (h3 1 (by decide) (by decide)) (h3 10 (by decide) (by decide)), PO_f h.2.2.2.2.2.1 (hs 5 (by decide) (by decide)) (hs 10 (by decide) (by decide)) (hf 7 (by decide) (by decide)) (fun k a1 a2 => hc k (by omega) (by omega) (by omega)) (h3 0 (by decide) (by decide)) (h3 1 (by decide) (by decide)) (h3 3 (by decide) (by decide)), PK_f h.2.2.2.2.2.2.1 (hs 6 (by decide) (by decide)) (hs 9 (by decide) (by decide)) (hf 8 (by decide) (by decide)) (fun k a1 a2 => hc k (by omega) (by omega) (by omega)) (h3 0 (by decide) (by decide)) (h3 1 (by decide) (by decide)) (h3 4 (by decide) (by decide)), PX_f h.2.2.2.2.2.2.2.1 (hs 7 (by decide) (by decide)) (hf 9 (by decide) (by decide)) (fun k a1 a2 => hc k (by omega) (by omega) (by omega)) (h3 0 (by decide) (by decide)) (h3 1 (by decide) (by decide)) (h3 5 (by decide) (by decide)), PH_f h.2.2.2.2.2.2.2.2.1 (hs 8 (by decide) (by decide)) (hf 10 (by decide) (by decide)) (fun k a1 a2 => hc k (by omega) (by omega) (by omega)) (h3 0 (by decide) (by decide)) (h3 1 (by decide) (by decide)) (h3 6 (by decide) (by decide)), PF_f h.2.2.2.2.2.2.2.2.2 (hs 11 (by decide) (by decide)) (hf 0 (by decide) (by decide)) (hf 1 (by decide) (by decide)) (hc 5 (by decide) (by decide) (by decide))⟩
theorem HR_PL {s s' c c' : am_F} (h : HR s c) (hs : ∀ r : Nat, r ≠ 0 → r ≠ 3 → s' r = s r) (hf : ∀ j : Nat, j ≤ 10 → j ≠ 5 → s' 0 j = s 0 j) (hc : ∀ k : Nat, k ≠ 0 → k ≠ 3 → ¬ (60 ≤ k ∧ k ≤ 65) → c' k = c k) (h3 : ∀ j : Nat, j ≤ 10 → j ≠ 2 → c' 3 j = c 3 j) (h0 : ∀ j : Nat, j = 56 ∨ j = 57 → c' 0 j = c 0 j) (hb : PL s' c') : HR s' c' := ⟨PD_f h.1 (hf 0 (by decide) (by decide)) (hf 1 (by decide) (by decide)) (hf 2 (by decide) (by decide)) (h3 0 (by decide) (by decide)) (h3 1 (by decide) (by decide)) (h3 7 (by decide) (by decide)), PW_f h.2.1 (hs 1 (by decide) (by decide)) (hf 3 (by decide) (by decide)) (fun k a1 a2 => hc k (by omega) (by omega) (by omega)) (h3 8 (by decide) (by decide)) (h0 56 (by decide)), PT_f h.2.2.1 (hs 2 (by decide) (by decide)) (hf 4 (by decide) (by decide)) (fun k a1 a2 => hc k (by omega) (by omega) (by omega)) (h3 9 (by decide) (by decide)) (h0 57 (by decide)), hb, PS_f h.2.2.2.2.1 (hs 4 (by decide) (by decide)) (hf 6 (by decide) (by decide)) (fun k a1 a2 => hc k (by omega) (by omega) (by omega)) (h3 0 (by decide) (by decide)) (h3 1 (by decide) (by decide)) (h3 10 (by decide) (by decide)), PO_f h.2.2.2.2.2.1 (hs 5 (by decide) (by decide)) (hs 10 (by decide) (by decide)) (hf 7 (by decide) (by decide)) (fun k a1 a2 => hc k (by omega) (by omega) (by omega)) (h3 0 (by decide) (by decide)) (h3 1 (by decide) (by decide)) (h3 3 (by decide) (by decide)), PK_f h.2.2.2.2.2.2.1 (hs 6 (by decide) (by decide)) (hs 9 (by decide) (by decide)) (hf 8 (by decide) (by decide)) (fun k a1 a2 => hc k (by omega) (by omega) (by omega)) (h3 0 (by decide) (by decide)) (h3 1 (by decide) (by decide)) (h3 4 (by decide) (by decide)), PX_f h.2.2.2.2.2.2.2.1 (hs 7 (by decide) (by decide)) (hf 9 (by decide) (by decide)) (fun k a1 a2 => hc k (by omega) (by omega) (by omega)) (h3 0 (by decide) (by decide)) (h3 1 (by decide) (by decide)) (h3 5 (by decide) (by decide)), PH_f h.2.2.2.2.2.2.2.2.1 (hs 8 (by decide) (by decide)) (hf 10 (by decide) (by decide)) (fun k a1 a2 => hc k (by omega) (by omega) (by omega)) (h3 0 (by decide) (by decide)) (h3 1 (by decide) (by decide)) (h3 6 (by decide) (by decide)), PF_f h.2.2.2.2.2.2.2.2.2 (hs 11 (by decide) (by decide)) (hf 0 (by decide) (by decide)) (hf 1 (by decide) (by decide)) (hc 5 (by decide) (by decide) (by decide))⟩
theorem HR_PS {s s' c c' : am_F} (h : HR s c) (hs : ∀ r : Nat, r ≠ 0 → r ≠ 4 → s' r = s r) (hf : ∀ j : Nat, j ≤ 10 → j ≠ 6 → s' 0 j = s 0 j) (hc : ∀ k : Nat, k ≠ 0 → k ≠ 3 → ¬ (75 ≤ k ∧ k ≤ 80) → c' k = c k) (h3 : ∀ j : Nat, j ≤ 10 → j ≠ 10 → c' 3 j = c 3 j) (h0 : ∀ j : Nat, j = 56 ∨ j = 57 → c' 0 j = c 0 j) (hb : PS s' c') : HR s' c' := ⟨PD_f h.1 (hf 0 (by decide) (by decide)) (hf 1 (by decide) (by decide)) (hf 2 (by decide) (by decide)) (h3 0 (by decide) (by decide)) (h3 1 (by decide) (by decide)) (h3 7 (by decide) (by decide)), PW_f h.2.1 (hs 1 (by decide) (by decide)) (hf 3 (by decide) (by decide)) (fun k a1 a2 => hc k (by omega) (by omega) (by omega)) (h3 8 (by decide) (by decide)) (h0 56 (by decide)), PT_f h.2.2.1 (hs 2 (by decide) (by decide)) (hf 4 (by decide) (by decide)) (fun k a1 a2 => hc k (by omega) (by omega) (by omega)) (h3 9 (by decide) (by decide)) (h0 57 (by decide)), PL_f h.2.2.2.1 (hs 3 (by decide) (by decide)) (hf 5 (by decide) (by decide)) (fun k a1 a2 => hc k (by omega) (by omega) (by omega)) (h3 0 (by decide) (by decide)) (h3 1 (by decide) (by decide)) (h3 2 (by decide) (by decide)), hb, PO_f h.2.2.2.2.2.1 (hs 5 (by decide) (by decide)) (hs 10 (by decide) (by decide)) (hf 7 (by decide) (by decide)) (fun k a1 a2 => hc k (by omega) (by omega) (by omega)) (h3 0 (by decide) (by decide)) (h3 1 (by decide) (by decide)) (h3 3 (by decide) (by decide)), PK_f h.2.2.2.2.2.2.1 (hs 6 (by decide) (by decide)) (hs 9 (by decide) (by decide)) (hf 8 (by decide) (by decide)) (fun k a1 a2 => hc k (by omega) (by omega) (by omega)) (h3 0 (by decide) (by decide)) (h3 1 (by decide) (by decide)) (h3 4 (by decide) (by decide)), PX_f h.2.2.2.2.2.2.2.1 (hs 7 (by decide) (by decide)) (hf 9 (by decide) (by decide)) (fun k a1 a2 => hc k (by omega) (by omega) (by omega)) (h3 0 (by decide) (by decide)) (h3 1 (by decide) (by decide)) (h3 5 (by decide) (by decide)), PH_f h.2.2.2.2.2.2.2.2.1 (hs 8 (by decide) (by decide)) (hf 10 (by decide) (by decide)) (fun k a1 a2 => hc k (by omega) (by omega) (by omega)) (h3 0 (by decide) (by decide)) (h3 1 (by decide) (by decide)) (h3 6 (by decide) (by decide)), PF_f h.2.2.2.2.2.2.2.2.2 (hs 11 (by decide) (by decide)) (hf 0 (by decide) (by decide)) (hf 1 (by decide) (by decide)) (hc 5 (by decide) (by decide) (by decide))⟩
theorem HR_PO {s s' c c' : am_F} (h : HR s c) (hs : ∀ r : Nat, r ≠ 0 → r ≠ 5 → r ≠ 10 → s' r = s r) (hf : ∀ j : Nat, j ≤ 10 → j ≠ 7 → s' 0 j = s 0 j) (hc : ∀ k : Nat, k ≠ 0 → k ≠ 3 → ¬ (89 ≤ k ∧ k ≤ 94) → c' k = c k) (h3 : ∀ j : Nat, j ≤ 10 → j ≠ 3 → c' 3 j = c 3 j) (h0 : ∀ j : Nat, j = 56 ∨ j = 57 → c' 0 j = c 0 j) (hb : PO s' c') : HR s' c' := ⟨PD_f h.1 (hf 0 (by decide) (by decide)) (hf 1 (by decide) (by decide)) (hf 2 (by decide) (by decide)) (h3 0 (by decide) (by decide)) (h3 1 (by decide) (by decide)) (h3 7 (by decide) (by decide)), PW_f h.2.1 (hs 1 (by decide) (by decide) (by decide)) (hf 3 (by decide) (by decide)) (fun k a1 a2 => hc k (by omega) (by omega) (by omega)) (h3 8 (by decide) (by decide)) (h0 56 (by decide)), PT_f h.2.2.1 (hs 2 (by decide) (by decide) (by decide)) (hf 4 (by decide) (by decide)) (fun k a1 a2 => hc k (by omega) (by omega) (by omega)) (h3 9 (by decide) (by decide)) (h0 57 (by decide)), PL_f h.2.2.2.1 (hs 3 (by decide) (by decide) (by decide)) (hf 5 (by decide) (by decide)) (fun k a1 a2 => hc k (by omega) (by omega) (by omega)) (h3 0 (by decide) (by decide)) (h3 1 (by decide) (by decide)) (h3 2 (by decide) (by decide)), PS_f h.2.2.2.2.1 (hs 4 (by decide) (by decide) (by decide)) (hf 6 (by decide) (by decide)) (fun k a1 a2 => hc k (by omega) (by omega) (by omega)) (h3 0 (by decide) (by decide)) (h3 1 (by decide) (by decide)) (h3 10 (by decide) (by decide)), hb, PK_f h.2.2.2.2.2.2.1 (hs 6 (by decide) (by decide) (by decide)) (hs 9 (by decide) (by decide) (by decide)) (hf 8 (by decide) (by decide)) (fun k a1 a2 => hc k (by omega) (by omega) (by omega)) (h3 0 (by decide) (by decide)) (h3 1 (by decide) (by decide)) (h3 4 (by decide) (by decide)), PX_f h.2.2.2.2.2.2.2.1 (hs 7 (by decide) (by decide) (by decide)) (hf 9 (by decide) (by decide)) (fun k a1 a2 => hc k (by omega) (by omega) (by omega)) (h3 0 (by decide) (by decide)) (h3 1 (by decide) (by decide)) (h3 5 (by decide) (by decide)), PH_f h.2.2.2.2.2.2.2.2.1 (hs 8 (by decide) (by decide) (by decide)) (hf 10 (by decide) (by decide)) (fun k a1 a2 => hc k (by omega) (by omega) (by omega)) (h3 0 (by decide) (by decide)) (h3 1 (by decide) (by decide)) (h3 6 (by decide) (by decide)), PF_f h.2.2.2.2.2.2.2.2.2 (hs 11 (by decide) (by decide) (by decide)) (hf 0 (by decide) (by decide)) (hf 1 (by decide) (by decide)) (hc 5 (by decide) (by decide) (by decide))⟩
theorem HR_PK {s s' c c' : am_F} (h : HR s c) (hs : ∀ r : Nat, r ≠ 0 → r ≠ 6 → r ≠ 9 → s' r = s r) (hf : ∀ j : Nat, j ≤ 10 → j ≠ 8 → s' 0 j = s 0 j) (hc : ∀ k : Nat, k ≠ 0 → k ≠ 3 → ¬ (103 ≤ k ∧ k ≤ 106) → c' k = c k) (h3 : ∀ j : Nat, j ≤ 10 → j ≠ 4 → c' 3 j = c 3 j) (h0 : ∀ j : Nat, j = 56 ∨ j = 57 → c' 0 j = c 0 j) (hb : PK s' c') : HR s' c' := ⟨PD_f h.1 (hf 0 (by decide) (by decide)) (hf 1 (by decide) (by decide)) (hf 2 (by decide) (by decide)) (h3 0 (by decide) (by decide)) (h3 1 (by decide) (by decide)) (h3 7 (by decide) (by decide)), PW_f h.2.1 (hs 1 (by decide) (by decide) (by decide)) (hf 3 (by decide) (by decide)) (fun k a1 a2 => hc k (by omega) (by omega) (by omega)) (h3 8 (by decide) (by decide)) (h0 56 (by decide)), PT_f h.2.2.1 (hs 2 (by decide) (by decide) (by decide)) (hf 4 (by decide) (by decide)) (fun k a1 a2 => hc k (by omega) (by omega) (by omega)) (h3 9 (by decide) (by decide)) (h0 57 (by decide)), PL_f h.2.2.2.1 (hs 3 (by decide) (by decide) (by decide)) (hf 5 (by decide) (by decide)) (fun k a1 a2 => hc k (by omega) (by omega) (by omega)) (h3 0 (by decide) (by decide)) (h3 1 (by decide) (by decide)) (h3 2 (by decide) (by decide)), PS_f h.2.2.2.2.1 (hs 4 (by decide) (by decide) (by decide)) (hf 6 (by decide) (by decide)) (fun k a1 a2 => hc k (by omega) (by omega) (by omega)) (h3 0 (by decide) (by decide)) (h3 1 (by decide) (by decide)) (h3 10 (by decide) (by decide)), PO_f h.2.2.2.2.2.1 (hs 5 (by decide) (by decide) (by decide)) (hs 10 (by decide) (by decide) (by decide)) (hf 7 (by decide) (by decide)) (fun k a1 a2 => hc k (by omega) (by omega) (by omega)) (h3 0 (by decide) (by decide)) (h3 1 (by decide) (by decide)) (h3 3 (by decide) (by decide)), hb, PX_f h.2.2.2.2.2.2.2.1 (hs 7 (by decide) (by decide) (by decide)) (hf 9 (by decide) (by decide)) (fun k a1 a2 => hc k (by omega) (by omega) (by omega)) (h3 0 (by decide) (by decide)) (h3 1 (by decide) (by decide)) (h3 5 (by decide) (by decide)), PH_f h.2.2.2.2.2.2.2.2.1 (hs 8 (by decide) (by decide) (by decide)) (hf 10 (by decide) (by decide)) (fun k a1 a2 => hc k (by omega) (by omega) (by omega)) (h3 0 (by decide) (by decide)) (h3 1 (by decide) (by decide)) (h3 6 (by decide) (by decide)), PF_f h.2.2.2.2.2.2.2.2.2 (hs 11 (by decide) (by decide) (by decide)) (hf 0 (by decide) (by decide)) (hf 1 (by decide) (by decide)) (hc 5 (by decide) (by decide) (by decide))⟩
theorem HR_PX {s s' c c' : am_F} (h : HR s c) (hs : ∀ r : Nat, r ≠ 0 → r ≠ 7 → s' r = s r) (hf : ∀ j : Nat, j ≤ 10 → j ≠ 9 → s' 0 j = s 0 j) (hc : ∀ k : Nat, k ≠ 0 → k ≠ 3 → ¬ (113 ≤ k ∧ k ≤ 116) → c' k = c k) (h3 : ∀ j : Nat, j ≤ 10 → j ≠ 5 → c' 3 j = c 3 j) (h0 : ∀ j : Nat, j = 56 ∨ j = 57 → c' 0 j = c 0 j) (hb : PX s' c') : HR s' c' := ⟨PD_f h.1 (hf 0 (by decide) (by decide)) (hf 1 (by decide) (by decide)) (hf 2 (by decide) (by decide)) (h3 0 (by decide) (by decide)) (h3 1 (by decide) (by decide)) (h3 7 (by decide) (by decide)), PW_f h.2.1 (hs 1 (by decide) (by decide)) (hf 3 (by decide) (by decide)) (fun k a1 a2 => hc k (by omega) (by omega) (by omega)) (h3 8 (by decide) (by decide)) (h0 56 (by decide)), PT_f h.2.2.1 (hs 2 (by decide) (by decide)) (hf 4 (by decide) (by decide)) (fun k a1 a2 => hc k (by omega) (by omega) (by omega)) (h3 9 (by decide) (by decide)) (h0 57 (by decide)), PL_f h.2.2.2.1 (hs 3 (by decide) (by decide)) (hf 5 (by decide) (by decide)) (fun k a1 a2 => hc k (by omega) (by omega) (by omega)) (h3 0 (by decide) (by decide)) (h3 1 (by decide) (by decide)) (h3 2 (by decide) (by decide)), PS_f h.2.2.2.2.1 (hs 4 (by decide) (by decide)) (hf 6 (by decide) (by decide)) (fun k a1 a2 => hc k (by omega) (by omega) (by omega)) (h3 0 (by decide) (by decide)) (h3 1 (by decide) (by decide)) (h3 10 (by decide) (by decide)), PO_f h.2.2.2.2.2.1 (hs 5 (by decide) (by decide)) (hs 10 (by decide) (by decide)) (hf 7 (by decide) (by decide)) (fun k a1 a2 => hc k (by omega) (by omega) (by omega)) (h3 0 (by decide) (by decide)) (h3 1 (by decide) (by decide)) (h3 3 (by decide) (by decide)), PK_f h.2.2.2.2.2.2.1 (hs 6 (by decide) (by decide)) (hs 9 (by decide) (by decide)) (hf 8 (by decide) (by decide)) (fun k a1 a2 => hc k (by omega) (by omega) (by omega)) (h3 0 (by decide) (by decide)) (h3 1 (by decide) (by decide)) (h3 4 (by decide) (by decide)), hb, PH_f h.2.2.2.2.2.2.2.2.1 (hs 8 (by decide) (by decide)) (hf 10 (by decide) (by decide)) (fun k a1 a2 => hc k (by omega) (by omega) (by omega)) (h3 0 (by decide) (by decide)) (h3 1 (by decide) (by decide)) (h3 6 (by decide) (by decide)), PF_f h.2.2.2.2.2.2.2.2.2 (hs 11 (by decide) (by decide)) (hf 0 (by decide) (by decide)) (hf 1 (by decide) (by decide)) (hc 5 (by decide) (by decide) (by decide))⟩
theorem HR_PH {s s' c c' : am_F} (h : HR s c) (hs : ∀ r : Nat, r ≠ 0 → r ≠ 8 → s' r = s r) (hf : ∀ j : Nat, j ≤ 10 → j ≠ 10 → s' 0 j = s 0 j) (hc : ∀ k : Nat, k ≠ 0 → k ≠ 3 → ¬ (123 ≤ k ∧ k ≤ 126) → c' k = c k) (h3 : ∀ j : Nat, j ≤ 10 → j ≠ 6 → c' 3 j = c 3 j) (h0 : ∀ j : Nat, j = 56 ∨ j = 57 → c' 0 j = c 0 j) (hb : PH s' c') : HR s' c' := ⟨PD_f h.1 (hf 0 (by decide) (by decide)) (hf 1 (by decide) (by decide)) (hf 2 (by decide) (by decide)) (h3 0 (by decide) (by decide)) (h3 1 (by decide) (by decide)) (h3 7 (by decide) (by decide)), PW_f h.2.1 (hs 1 (by decide) (by decide)) (hf 3 (by decide) (by decide)) (fun k a1 a2 => hc k (by omega) (by omega) (by omega)) (h3 8 (by decide) (by decide)) (h0 56 (by decide)), PT_f h.2.2.1 (hs 2 (by decide) (by decide)) (hf 4 (by decide) (by decide)) (fun k a1 a2 => hc k (by omega) (by omega) (by omega)) (h3 9 (by decide) (by decide)) (h0 57 (by decide)), PL_f h.2.2.2.1 (hs 3 (by decide) (by decide)) (hf 5 (by decide) (by decide)) (fun k a1 a2 => hc k (by omega) (by omega) (by omega)) (h3 0 (by decide) (by decide)) (h3 1 (by decide) (by decide)) (h3 2 (by decide) (by decide)), PS_f h.2.2.2.2.1 (hs 4 (by decide) (by decide)) (hf 6 (by decide) (by decide)) (fun k a1 a2 => hc k (by omega) (by omega) (by omega)) (h3 0 (by decide) (by decide)) (h3 1 (by decide) (by decide)) (h3 10 (by decide) (by decide)), PO_f h.2.2.2.2.2.1 (hs 5 (by decide) (by decide)) (hs 10 (by decide) (by decide)) (hf 7 (by decide) (by decide)) (fun k a1 a2 => hc k (by omega) (by omega) (by omega)) (h3 0 (by decide) (by decide)) (h3 1 (by decide) (by decide)) (h3 3 (by decide) (by decide)), PK_f h.2.2.2.2.2.2.1 (hs 6 (by decide) (by decide)) (hs 9 (by decide) (by decide)) (hf 8 (by decide) (by decide)) (fun k a1 a2 => hc k (by omega) (by omega) (by omega)) (h3 0 (by decide) (by decide)) (h3 1 (by decide) (by decide)) (h3 4 (by decide) (by decide)), PX_f h.2.2.2.2.2.2.2.1 (hs 7 (by decide) (by decide)) (hf 9 (by decide) (by decide)) (fun k a1 a2 => hc k (by omega) (by omega) (by omega)) (h3 0 (by decide) (by decide)) (h3 1 (by decide) (by decide)) (h3 5 (by decide) (by decide)), hb, PF_f h.2.2.2.2.2.2.2.2.2 (hs 11 (by decide) (by decide)) (hf 0 (by decide) (by decide)) (hf 1 (by decide) (by decide)) (hc 5 (by decide) (by decide) (by decide))⟩
theorem HR_PF {s s' c c' : am_F} (h : HR s c) (hs : ∀ r : Nat, r ≠ 0 → r ≠ 11 → s' r = s r) (hf : ∀ j : Nat, j ≤ 10 → s' 0 j = s 0 j) (hc : ∀ k : Nat, k ≠ 0 → k ≠ 5 → c' k = c k) (h0 : ∀ j : Nat, j = 56 ∨ j = 57 → c' 0 j = c 0 j) (hb : PF s' c') : HR s' c' := ⟨PD_f h.1 (hf 0 (by decide)) (hf 1 (by decide)) (hf 2 (by decide)) (congrFun (hc 3 (by decide) (by decide)) 0) (congrFun (hc 3 (by decide) (by decide)) 1) (congrFun (hc 3 (by decide) (by decide)) 7), PW_f h.2.1 (hs 1 (by decide) (by decide)) (hf 3 (by decide)) (fun k a1 a2 => hc k (by omega) (by omega)) (congrFun (hc 3 (by decide) (by decide)) 8) (h0 56 (by decide)), PT_f h.2.2.1 (hs 2 (by decide) (by decide)) (hf 4 (by decide)) (fun k a1 a2 => hc k (by omega) (by omega)) (congrFun (hc 3 (by decide) (by decide)) 9) (h0 57 (by decide)), PL_f h.2.2.2.1 (hs 3 (by decide) (by decide)) (hf 5 (by decide)) (fun k a1 a2 => hc k (by omega) (by omega)) (congrFun (hc 3 (by decide) (by decide)) 0) (congrFun (hc 3 (by decide) (by decide)) 1) (congrFun (hc 3 (by decide) (by decide)) 2), PS_f h.2.2.2.2.1 (hs 4 (by decide) (by decide)) (hf 6 (by decide)) (fun k a1 a2 => hc k (by omega) (by omega)) (congrFun (hc 3 (by decide) (by decide)) 0) (congrFun (hc 3 (by decide) (by decide)) 1) (congrFun (hc 3 (by decide) (by decide)) 10), PO_f h.2.2.2.2.2.1 (hs 5 (by decide) (by decide)) (hs 10 (by decide) (by decide)) (hf 7 (by decide)) (fun k a1 a2 => hc k (by omega) (by omega)) (congrFun (hc 3 (by decide) (by decide)) 0) (congrFun (hc 3 (by decide) (by decide)) 1) (congrFun (hc 3 (by decide) (by decide)) 3), PK_f h.2.2.2.2.2.2.1 (hs 6 (by decide) (by decide)) (hs 9 (by decide) (by decide)) (hf 8 (by decide)) (fun k a1 a2 => hc k (by omega) (by omega)) (congrFun (hc 3 (by decide) (by decide)) 0) (congrFun (hc 3 (by decide) (by decide)) 1) (congrFun (hc 3 (by decide) (by decide)) 4), PX_f h.2.2.2.2.2.2.2.1 (hs 7 (by decide) (by decide)) (hf 9 (by decide)) (fun k a1 a2 => hc k (by omega) (by omega)) (congrFun (hc 3 (by decide) (by decide)) 0) (congrFun (hc 3 (by decide) (by decide)) 1) (congrFun (hc 3 (by decide) (by decide)) 5), PH_f h.2.2.2.2.2.2.2.2.1 (hs 8 (by decide) (by decide)) (hf 10 (by decide)) (fun k a1 a2 => hc k (by omega) (by omega)) (congrFun (hc 3 (by decide) (by decide)) 0) (congrFun (hc 3 (by decide) (by decide)) 1) (congrFun (hc 3 (by decide) (by decide)) 6), hb⟩
theorem HR_n {s c c' : am_F} (h : HR s c) (hc : ∀ k : Nat, k ≠ 0 → c' k = c k) (h0 : ∀ j : Nat, j = 56 ∨ j = 57 → c' 0 j = c 0 j) : HR s c' := ⟨PD_f h.1 rfl rfl rfl (congrFun (hc 3 (by decide)) 0) (congrFun (hc 3 (by decide)) 1) (congrFun (hc 3 (by decide)) 7), PW_f h.2.1 rfl rfl (fun k a1 a2 => hc k (by omega)) (congrFun (hc 3 (by decide)) 8) (h0 56 (by decide)), PT_f h.2.2.1 rfl rfl (fun k a1 a2 => hc k (by omega)) (congrFun (hc 3 (by decide)) 9) (h0 57 (by decide)), PL_f h.2.2.2.1 rfl rfl (fun k a1 a2 => hc k (by omega)) (congrFun (hc 3 (by decide)) 0) (congrFun (hc 3 (by decide)) 1) (congrFun (hc 3 (by decide)) 2), PS_f h.2.2.2.2.1 rfl rfl (fun k a1 a2 => hc k (by omega)) (congrFun (hc 3 (by decide)) 0) (congrFun (hc 3 (by decide)) 1) (congrFun (hc 3 (by decide)) 10), PO_f h.2.2.2.2.2.1 rfl rfl rfl (fun k a1 a2 => hc k (by omega)) (congrFun (hc 3 (by decide)) 0) (congrFun (hc 3 (by decide)) 1) (congrFun (hc 3 (by decide)) 3), PK_f h.2.2.2.2.2.2.1 rfl rfl rfl (fun k a1 a2 => hc k (by omega)) (congrFun (hc 3 (by decide)) 0) (congrFun (hc 3 (by decide)) 1) (congrFun (hc 3 (by decide)) 4), PX_f h.2.2.2.2.2.2.2.1 rfl rfl (fun k a1 a2 => hc k (by omega)) (congrFun (hc 3 (by decide)) 0) (congrFun (hc 3 (by decide)) 1) (congrFun (hc 3 (by decide)) 5), PH_f h.2.2.2.2.2.2.2.2.1 rfl rfl (fun k a1 a2 => hc k (by omega)) (congrFun (hc 3 (by decide)) 0) (congrFun (hc 3 (by decide)) 1) (congrFun (hc 3 (by decide)) 6), PF_f h.2.2.2.2.2.2.2.2.2 rfl rfl rfl (hc 5 (by decide))⟩
theorem HR_L {s c c' : am_F} (h : HR s c) (hl : Lx c c') : HR s c' := HR_n h hl.1 (fun j hj => hl.2 j (by omega) (by omega) (by omega))
theorem HR_PD {s s' c c' : am_F} (h : HR s c) (hs : ∀ r : Nat, r ≠ 0 → s' r = s r) (hf : ∀ j : Nat, j ≤ 10 → j ≠ 2 → s' 0 j = s 0 j) (hc : ∀ k : Nat, k ≠ 0 → k ≠ 3 → c' k = c k) (h3 : ∀ j : Nat, j ≤ 10 → j ≠ 7 → c' 3 j = c 3 j) (h0 : ∀ j : Nat, j = 56 ∨ j = 57 → c' 0 j = c 0 j) (hb : PD s' c') : HR s' c' := ⟨hb, PW_f h.2.1 (hs 1 (by decide)) (hf 3 (by decide) (by decide)) (fun k a1 a2 => hc k (by omega) (by omega)) (h3 8 (by decide) (by decide)) (h0 56 (by decide)), PT_f h.2.2.1 (hs 2 (by decide)) (hf 4 (by decide) (by decide)) (fun k a1 a2 => hc k (by omega) (by omega)) (h3 9 (by decide) (by decide)) (h0 57 (by decide)), PL_f h.2.2.2.1 (hs 3 (by decide)) (hf 5 (by decide) (by decide)) (fun k a1 a2 => hc k (by omega) (by omega)) (h3 0 (by decide) (by decide)) (h3 1 (by decide) (by decide)) (h3 2 (by decide) (by decide)), PS_f h.2.2.2.2.1 (hs 4 (by decide)) (hf 6 (by decide) (by decide)) (fun k a1 a2 => hc k (by omega) (by omega)) (h3 0 (by decide) (by decide)) (h3 1 (by decide) (by decide)) (h3 10 (by decide) (by decide)), PO_f h.2.2.2.2.2.1 (hs 5 (by decide)) (hs 10 (by decide)) (hf 7 (by decide) (by decide)) (fun k a1 a2 => hc k (by omega) (by omega)) (h3 0 (by decide) (by decide)) (h3 1 (by decide) (by decide)) (h3 3 (by decide) (by decide)), PK_f h.2.2.2.2.2.2.1 (hs 6 (by decide)) (hs 9 (by decide)) (hf 8 (by decide) (by decide)) (fun k a1 a2 => hc k (by omega) (by omega)) (h3 0 (by decide) (by decide)) (h3 1 (by decide) (by decide)) (h3 4 (by decide) (by decide)), PX_f h.2.2.2.2.2.2.2.1 (hs 7 (by decide)) (hf 9 (by decide) (by decide)) (fun k a1 a2 => hc k (by omega) (by omega)) (h3 0 (by decide) (by decide)) (h3 1 (by decide) (by decide)) (h3 5 (by decide) (by decide)), PH_f h.2.2.2.2.2.2.2.2.1 (hs 8 (by decide)) (hf 10 (by decide) (by decide)) (fun k a1 a2 => hc k (by omega) (by omega)) (h3 0 (by decide) (by decide)) (h3 1 (by decide) (by decide)) (h3 6 (by decide) (by decide)), PF_f h.2.2.2.2.2.2.2.2.2 (hs 11 (by decide)) (hf 0 (by decide) (by decide)) (hf 1 (by decide) (by decide)) (hc 5 (by decide) (by decide))⟩
/-- nothing told yet -/
def Em (s c : am_F) : Prop := (s 0 3 = 0 ∧ s 0 4 = 0 ∧ s 0 5 = 0 ∧ s 0 6 = 0 ∧ s 0 7 = 0 ∧ s 0 8 = 0 ∧ s 0 9 = 0 ∧ s 0 10 = 0) ∧ (c 0 56 = 0 ∧ c 0 57 = 0) ∧ (c 3 2 = 0 ∧ c 3 3 = 0 ∧ c 3 4 = 0 ∧ c 3 5 = 0 ∧ c 3 6 = 0 ∧ c 3 8 = 0 ∧ c 3 9 = 0 ∧ c 3 10 = 0) ∧ (∀ j : Nat, j < 90 → s 10 j = -1 ∧ s 11 j = 0) ∧ ∀ j : Nat, j < 81 → c 5 j = 0
theorem HR_Em {s c : am_F} (hE : Em s c) (hD : PD s c) : HR s c := by
  obtain ⟨⟨s3, s4, s5, s6, s7, s8, s9, s10⟩, ⟨z1, z2⟩, ⟨t2, t3, t4, t5, t6, t8, t9, t10⟩, h1, h2⟩ := hE
  have dim := hD.2.1
  refine ⟨hD, ⟨by omega, ?_, fun k a1 a2 => by omega⟩, ⟨by omega, ?_, fun k a1 a2 => by omega⟩, ⟨by omega, fun i a1 a2 => by omega⟩, ⟨by omega, fun i a1 a2 => by omega⟩, ⟨by omega, fun i a1 a2 => by omega, fun k x y a1 a2 => by omega, fun x y a1 a2 a3 a4 => ?_⟩, ⟨by omega, fun i a1 a2 => by omega⟩, ⟨by omega, fun i a1 a2 => by omega⟩, ⟨by omega, fun i a1 a2 => by omega⟩, ⟨fun x y a1 a2 a3 a4 => ?_, fun y a1 a2 => (h1 _ (by omega)).2, fun x y a1 a2 a3 a4 _ => (h1 _ (by omega)).2⟩⟩
  · rw [s3, t8]; exact LtR_0
  · rw [s4, t9]; exact LtR_0
  · refine Or.inl ?_
    unfold f_lotOn
    rw [if_pos (by omega)]
    exact (h1 _ (by omega)).1
  · rw [(h1 _ (by omega)).2, h2 _ (by omega)]
/-- the rows that a reading may change -/
def rdw (k : Nat) : Prop := k = 3 ∨ k = 5 ∨ (8 ≤ k ∧ k ≤ 19) ∨ (34 ≤ k ∧ k ≤ 45) ∨ (60 ≤ k ∧ k ≤ 65) ∨ (75 ≤ k ∧ k ≤ 80) ∨ (89 ≤ k ∧ k ≤ 94) ∨ (103 ≤ k ∧ k ≤ 106) ∨ (113 ≤ k ∧ k ≤ 116) ∨ (123 ≤ k ∧ k ≤ 126)
def KD (c c' : am_F) : Prop := (∀ k, k ≠ 0 → ¬ rdw k → c' k = c k) ∧ ∀ j, j ≠ 4 → j ≠ 5 → j ≠ 6 → j ≠ 56 → j ≠ 57 → c' 0 j = c 0 j
def KE (c c' : am_F) : Prop := (∀ k, k ≠ 0 → ¬ rdw k → c' k = c k) ∧ ∀ j, j ≠ 4 → j ≠ 5 → j ≠ 6 → j ≠ 7 → j ≠ 56 → j ≠ 57 → c' 0 j = c 0 j
theorem KE_t {c d e : am_F} (h : KE c d) (h2 : KE d e) : KE c e := ⟨fun k k0 hk => (h2.1 k k0 hk).trans (h.1 k k0 hk), fun j a b c1 d1 e1 f => (h2.2 j a b c1 d1 e1 f).trans (h.2 j a b c1 d1 e1 f)⟩
theorem KE_D {c c' : am_F} (h : KD c c') : KE c c' := ⟨h.1, fun j a b c1 _ e1 f => h.2 j a b c1 e1 f⟩
theorem KD_L {c c' : am_F} (h : Lx c c') : KD c c' := ⟨fun k k0 _ => h.1 k k0, fun j a b c1 _ _ => h.2 j a b c1⟩
theorem KD_t {c d e : am_F} (h : KD c d) (h2 : KD d e) : KD c e := ⟨fun k k0 hk => (h2.1 k k0 hk).trans (h.1 k k0 hk), fun j a b c1 e1 f => (h2.2 j a b c1 e1 f).trans (h.2 j a b c1 e1 f)⟩
theorem KD_p {c d : am_F} {k i : Nat} {v : Int} (h : KD c d) (hk : rdw k) : KD c (am_put d k i v) := by
  have k0 : k ≠ 0 := by unfold rdw at hk; omega
  exact ⟨fun m m0 hm => (am_put_kr (fun e => hm (by rw [e]; exact hk))).trans (h.1 m m0 hm), fun j a b c1 e1 f => (am_put_k (fun e => k0 e.symm)).trans (h.2 j a b c1 e1 f)⟩
