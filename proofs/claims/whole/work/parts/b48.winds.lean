/-! THE TIE: winds, thinnings -/
theorem rr_nn {e P D : am_F} {lo hi : Int} (h : RR e P D) (t : TpI e) : RR e (c_number e P lo hi).2 (k_number D lo hi).2 ∧ Lx D (k_number D lo hi).2 ∧ ((k_number D lo hi).2 0 5 = 0 → D 0 5 = 0 ∧ (c_number e P lo hi).1 = (k_number D lo hi).1 ∧ lo ≤ (k_number D lo hi).1 ∧ (k_number D lo hi).1 ≤ hi) := by
  obtain ⟨h1, h2⟩ := rr_number h t lo hi
  obtain ⟨x1, x2, x3⟩ := k_number_x (lo := lo) (hi := hi) h.2.2.2.2.2.2
  refine ⟨h1, x2, fun g => ⟨k_number_5 g, (h2 g).1, ?_⟩⟩
  rcases x3 with x3 | x3
  · exact x3.2
  · exact absurd g x3.1
theorem rr_to {b : Int → Int} {m t : Int} {f : Int → Int ⊕ Int} (hf : ∀ q, f q = if m ≤ q then .inr q else if b q = t then .inr q else .inl (q + 1)) : ∀ (n : Nat) (q : Int), 0 ≤ q → q ≤ m → m - q < n → (∀ k, 0 ≤ k → k < q → b k ≠ t) → (0 ≤ am_wh f n q ∧ am_wh f n q ≤ m) ∧ (am_wh f n q < m → b (am_wh f n q) = t) ∧ ∀ k, 0 ≤ k → k < am_wh f n q → b k ≠ t := by
  intro n
  induction n with
  | zero => intro q h0 h1 h2; omega
  | succ n ih =>
    intro q h0 h1 h2 h3
    have w := hf q
    by_cases g : m ≤ q
    · rw [if_pos g] at w
      rw [am_wh_r w]
      exact ⟨⟨h0, h1⟩, fun h => by omega, h3⟩
    · rw [if_neg g] at w
      by_cases g2 : b q = t
      · rw [if_pos g2] at w
        rw [am_wh_r w]
        exact ⟨⟨h0, h1⟩, fun _ => g2, h3⟩
      · rw [if_neg g2] at w
        rw [am_wh_l w]
        refine ih (q + 1) (by omega) (by omega) (by omega) fun k a1 a2 => ?_
        by_cases g3 : k = q
        · rw [g3]; exact g2
        · exact h3 k a1 (by omega)
theorem cl_wind {e P D s : am_F} (h : RR e P D) (t : TpI e) (hR : HR s D) (hf : D 0 56 ≠ 12) : ∃ D', k_clause_352 D = k_sign D' 59 ∧ RR e (c_readWind e s P).2 D' ∧ (D' 0 5 = 0 → HR (c_readWind e s P).1 D') ∧ KD D D' := by
  have hL := hR.2.1
  obtain ⟨hn, hLt, hbd⟩ := hL
  refine ⟨k_windHere D, rfl, ?_⟩
  unfold c_readWind c_readStep k_windHere
  dsimp only
  rw [rrm0 (show s 0 3 < 12 by omega)]
  obtain ⟨a0, b0, c0⟩ := rr_nn (lo := 0) (hi := 39) h t
  have l1 := b0
  generalize c_number e P 0 39 = u0 at *
  generalize k_number D 0 39 = v0 at *
  obtain ⟨a1, b1, c1⟩ := rr_nn (lo := 0) (hi := 2) a0 t
  have l2 := Lx_t l1 b1
  generalize c_number e u0.2 0 2 = u1 at *
  generalize k_number v0.2 0 2 = v1 at *
  obtain ⟨a2, b2, c2⟩ := rr_nn (lo := 0) (hi := 2) a1 t
  have l3 := Lx_t l2 b2
  generalize c_number e u1.2 0 2 = u2 at *
  generalize k_number v1.2 0 2 = v2 at *
  obtain ⟨a3, b3, c3⟩ := rr_nn (lo := 0) (hi := 8) a2 t
  have l4 := Lx_t l3 b3
  generalize c_number e u2.2 0 8 = u3 at *
  generalize k_number v2.2 0 8 = v3 at *
  by_cases h5 : v3.2 0 5 = 0
  · rw [if_pos h5]
    have q3 := c3 h5
    have q2 := c2 q3.1
    have q1 := c1 q2.1
    have q0 := c0 q1.1
    have e3 : ∀ j, v3.2 3 j = D 3 j := fun j => congrFun (l4.1 3 (by decide)) j
    have ez : v3.2 0 56 = D 0 56 := l4.2 56 (by decide) (by decide) (by decide)
    have er : ∀ k, k ≠ 0 → v3.2 k = D k := l4.1
    rw [addIf0 (show s 0 3 < 12 by omega) (rr_fine a3 h5)]
    obtain ⟨w1, ⟨w2, w3, w4⟩, w5, w6, w7⟩ := rr_addR (ss := s) (r := 1) (fi := 3) (n := s 0 3) (na := u0.1) (nb := 3 * u1.1 + u2.1) (nc := u3.1) (nd := 0) (v := s 0 3 + 1) (by decide) (by omega) rfl
    generalize am_put (am_put (am_put (am_put (am_put s 1 (s 0 3 * 4).toNat (u0.1)) 1 (s 0 3 * 4 + 1).toNat (3 * u1.1 + u2.1)) 1 (s 0 3 * 4 + 2).toNat (u3.1)) 1 (s 0 3 * 4 + 3).toNat 0) 0 3 (s 0 3 + 1) = X at *
    obtain ⟨t1, t2, t3⟩ := rr_to (b := fun k : Int => D (8 + k.toNat) 0) (m := D 3 8) (t := v0.1) (f := w_k_windHere_52 (am_put v3.2 0 56 (v3.2 0 56 + 1)) v0.1) (fun q => by
      show (if am_put v3.2 0 56 (v3.2 0 56 + 1) 3 8 ≤ q then _ else (if am_put v3.2 0 56 (v3.2 0 56 + 1) (8 + q.toNat) 0 = v0.1 then _ else _)) = _
      rw [am_put_k (by decide), e3, am_put_k (by omega), er _ (by omega)]) 13 0 (by decide) (by omega) (by omega) (fun k a1 a2 => by omega)
    generalize am_wh (w_k_windHere_52 (am_put v3.2 0 56 (v3.2 0 56 + 1)) v0.1) 13 0 = K at *
    have k0 : ∀ k, k ≠ 0 → k ≠ 3 → k ≠ 8 + K.toNat → (am_put (am_put (am_put (am_put (am_put (am_put v3.2 0 56 (v3.2 0 56 + 1)) (8 + K.toNat) 0 v0.1) (8 + K.toNat) 1 v1.1) (8 + K.toNat) 2 v2.1) (8 + K.toNat) 3 v3.1) 3 8 (v3.2 3 8 + (if K = v3.2 3 8 then 1 else 0))) k = D k := fun k k0 k3 kb => by
      rw [am_put_kr k3, am_put_kr kb, am_put_kr kb, am_put_kr kb, am_put_kr kb, am_put_kr k0]
      exact er k k0
    have k1 : ∀ j, j ≠ 56 → j ≠ 4 → j ≠ 5 → j ≠ 6 → (am_put (am_put (am_put (am_put (am_put (am_put v3.2 0 56 (v3.2 0 56 + 1)) (8 + K.toNat) 0 v0.1) (8 + K.toNat) 1 v1.1) (8 + K.toNat) 2 v2.1) (8 + K.toNat) 3 v3.1) 3 8 (v3.2 3 8 + (if K = v3.2 3 8 then 1 else 0))) 0 j = D 0 j := fun j j0 j4 j5 j6 => by
      rw [am_put_k (by decide), am_put_k (by omega), am_put_k (by omega), am_put_k (by omega), am_put_k (by omega), am_put_i j0]
      exact l4.2 j j4 j5 j6
    have k2 : ∀ j, j ≠ 8 → (am_put (am_put (am_put (am_put (am_put (am_put v3.2 0 56 (v3.2 0 56 + 1)) (8 + K.toNat) 0 v0.1) (8 + K.toNat) 1 v1.1) (8 + K.toNat) 2 v2.1) (8 + K.toNat) 3 v3.1) 3 8 (v3.2 3 8 + (if K = v3.2 3 8 then 1 else 0))) 3 j = D 3 j := fun j j0 => by
      rw [am_put_i j0, am_put_k (by omega), am_put_k (by omega), am_put_k (by omega), am_put_k (by omega), am_put_k (by decide)]
      exact e3 j
    have k3 : (am_put (am_put (am_put (am_put (am_put (am_put v3.2 0 56 (v3.2 0 56 + 1)) (8 + K.toNat) 0 v0.1) (8 + K.toNat) 1 v1.1) (8 + K.toNat) 2 v2.1) (8 + K.toNat) 3 v3.1) 3 8 (v3.2 3 8 + (if K = v3.2 3 8 then 1 else 0))) 3 8 = if K = D 3 8 then D 3 8 + 1 else D 3 8 := by
      rw [am_put_s, e3]
      split <;> omega
    have k4 : (am_put (am_put (am_put (am_put (am_put (am_put v3.2 0 56 (v3.2 0 56 + 1)) (8 + K.toNat) 0 v0.1) (8 + K.toNat) 1 v1.1) (8 + K.toNat) 2 v2.1) (8 + K.toNat) 3 v3.1) 3 8 (v3.2 3 8 + (if K = v3.2 3 8 then 1 else 0))) 0 56 = D 0 56 + 1 := by
      rw [am_put_k (by decide), am_put_k (by omega), am_put_k (by omega), am_put_k (by omega), am_put_k (by omega), am_put_s, ez]
    have y0 : (am_put (am_put (am_put (am_put (am_put (am_put v3.2 0 56 (v3.2 0 56 + 1)) (8 + K.toNat) 0 v0.1) (8 + K.toNat) 1 v1.1) (8 + K.toNat) 2 v2.1) (8 + K.toNat) 3 v3.1) 3 8 (v3.2 3 8 + (if K = v3.2 3 8 then 1 else 0))) (8 + K.toNat) 0 = v0.1 := by rw [am_put_k (by omega), am_put_i (by decide), am_put_i (by decide), am_put_i (by decide), am_put_s]
    have y1 : (am_put (am_put (am_put (am_put (am_put (am_put v3.2 0 56 (v3.2 0 56 + 1)) (8 + K.toNat) 0 v0.1) (8 + K.toNat) 1 v1.1) (8 + K.toNat) 2 v2.1) (8 + K.toNat) 3 v3.1) 3 8 (v3.2 3 8 + (if K = v3.2 3 8 then 1 else 0))) (8 + K.toNat) 1 = v1.1 := by rw [am_put_k (by omega), am_put_i (by decide), am_put_i (by decide), am_put_s]
    have y2 : (am_put (am_put (am_put (am_put (am_put (am_put v3.2 0 56 (v3.2 0 56 + 1)) (8 + K.toNat) 0 v0.1) (8 + K.toNat) 1 v1.1) (8 + K.toNat) 2 v2.1) (8 + K.toNat) 3 v3.1) 3 8 (v3.2 3 8 + (if K = v3.2 3 8 then 1 else 0))) (8 + K.toNat) 2 = v2.1 := by rw [am_put_k (by omega), am_put_i (by decide), am_put_s]
    have y3 : (am_put (am_put (am_put (am_put (am_put (am_put v3.2 0 56 (v3.2 0 56 + 1)) (8 + K.toNat) 0 v0.1) (8 + K.toNat) 1 v1.1) (8 + K.toNat) 2 v2.1) (8 + K.toNat) 3 v3.1) 3 8 (v3.2 3 8 + (if K = v3.2 3 8 then 1 else 0))) (8 + K.toNat) 3 = v3.1 := by rw [am_put_k (by omega), am_put_s]
    have kR : RR e u3.2 (am_put (am_put (am_put (am_put (am_put (am_put v3.2 0 56 (v3.2 0 56 + 1)) (8 + K.toNat) 0 v0.1) (8 + K.toNat) 1 v1.1) (8 + K.toNat) 2 v2.1) (8 + K.toNat) 3 v3.1) 3 8 (v3.2 3 8 + (if K = v3.2 3 8 then 1 else 0))) := rr_c a3 (by rw [am_put_kr (by decide), am_put_kr (by omega), am_put_kr (by omega), am_put_kr (by omega), am_put_kr (by omega), am_put_kr (by decide)]) (fun j hj => by rw [am_put_k (by decide), am_put_k (by omega), am_put_k (by omega), am_put_k (by omega), am_put_k (by omega), am_put_i (by omega)])
    generalize am_put (am_put (am_put (am_put (am_put (am_put v3.2 0 56 (v3.2 0 56 + 1)) (8 + K.toNat) 0 v0.1) (8 + K.toNat) 1 v1.1) (8 + K.toNat) 2 v2.1) (8 + K.toNat) 3 v3.1) 3 8 (v3.2 3 8 + (if K = v3.2 3 8 then 1 else 0)) = Z at *
    refine ⟨kR, fun _ => ?_, ⟨fun k k0' hk => k0 k k0' (fun e => hk (by unfold rdw; omega)) (fun e => hk (by unfold rdw; omega)), fun j j4 j5 j6 _ _ => k1 j (by omega) j4 j5 j6⟩⟩
    refine HR_PW hR (fun r r0 r1 => w6 r r0 r1) (fun j _ hj => w7 j hj) (fun k c0 c3 cb => k0 k c0 c3 (by omega)) (fun j _ hj => k2 j hj) (fun j hj h56 => k1 j h56 (by omega) (by omega) (by omega)) ⟨?_, ?_, fun k a1 a2 => ?_⟩
    · rw [w5, k4, k3]
      split <;> omega
    · rw [w5]
      refine LtR_add hLt (by omega) (fun i a1 a2 => w1 i 0 a1 a2 (by decide) (by decide)) (w2.trans q0.2.1) t1 t2 t3 k3 (fun k a1 a2 a3 => by rw [k0 _ (by omega) (by omega) (by omega)]) y0 (fun i k a1 a2 a3 a4 a5 hv => ?_) ?_
      · unfold PWv at hv ⊢
        rw [w5, w1 i 1 a1 a2 (by decide) (by decide), w1 i 2 a1 a2 (by decide) (by decide), k0 _ (by omega) (by omega) (by omega)]
        exact hv
      · unfold PWv
        rw [w5, w3, w4, y1, y2, y3, q1.2.1, q2.2.1, q3.2.1]
        exact ⟨rfl, rfl⟩
    · by_cases g : k = K
      · rw [g, y0, y1, y2, y3]
        have := q0.2.2; have := q1.2.2; have := q2.2.2; have := q3.2.2
        omega
      · rw [k0 _ (by omega) (by omega) (by omega)]
        refine hbd k a1 ?_
        rw [k3] at a2
        split at a2 <;> omega
  · rw [if_neg h5]
    exact ⟨a3, fun g => absurd g h5, KD_L l4⟩
theorem cl_thin {e P D s : am_F} (h : RR e P D) (t : TpI e) (hR : HR s D) (hf : D 0 57 ≠ 12) : ∃ D', k_clause_359 D = k_sign D' 59 ∧ RR e (c_readThin e s P).2 D' ∧ (D' 0 5 = 0 → HR (c_readThin e s P).1 D') ∧ KD D D' := by
  have hL := hR.2.2.1
  obtain ⟨hn, hLt, hbd⟩ := hL
  refine ⟨k_thinHere D, rfl, ?_⟩
  unfold c_readThin c_readStep k_thinHere
  dsimp only
  rw [rrm1 (show s 0 4 < 12 by omega)]
  obtain ⟨a0, b0, c0⟩ := rr_nn (lo := 0) (hi := 39) h t
  have l1 := b0
  generalize c_number e P 0 39 = u0 at *
  generalize k_number D 0 39 = v0 at *
  obtain ⟨a1, b1, c1⟩ := rr_nn (lo := 0) (hi := 9) a0 t
  have l2 := Lx_t l1 b1
  generalize c_number e u0.2 0 9 = u1 at *
  generalize k_number v0.2 0 9 = v1 at *
  by_cases h5 : v1.2 0 5 = 0
  · rw [if_pos h5]
    have q1 := c1 h5
    have q0 := c0 q1.1
    have e3 : ∀ j, v1.2 3 j = D 3 j := fun j => congrFun (l2.1 3 (by decide)) j
    have ez : v1.2 0 57 = D 0 57 := l2.2 57 (by decide) (by decide) (by decide)
    have er : ∀ k, k ≠ 0 → v1.2 k = D k := l2.1
    rw [addIf1 (show s 0 4 < 12 by omega) (rr_fine a1 h5)]
    obtain ⟨w1, ⟨w2, w3, w4⟩, w5, w6, w7⟩ := rr_addR (ss := s) (r := 2) (fi := 4) (n := s 0 4) (na := u0.1) (nb := u1.1) (nc := 0) (nd := 0) (v := s 0 4 + 1) (by decide) (by omega) rfl
    generalize am_put (am_put (am_put (am_put (am_put s 2 (s 0 4 * 4).toNat (u0.1)) 2 (s 0 4 * 4 + 1).toNat (u1.1)) 2 (s 0 4 * 4 + 2).toNat (0)) 2 (s 0 4 * 4 + 3).toNat 0) 0 4 (s 0 4 + 1) = X at *
    obtain ⟨t1, t2, t3⟩ := rr_to (b := fun k : Int => D (34 + k.toNat) 0) (m := D 3 9) (t := v0.1) (f := w_k_thinHere_36 (am_put v1.2 0 57 (v1.2 0 57 + 1)) v0.1) (fun q => by
      show (if am_put v1.2 0 57 (v1.2 0 57 + 1) 3 9 ≤ q then _ else (if am_put v1.2 0 57 (v1.2 0 57 + 1) (34 + q.toNat) 0 = v0.1 then _ else _)) = _
      rw [am_put_k (by decide), e3, am_put_k (by omega), er _ (by omega)]) 13 0 (by decide) (by omega) (by omega) (fun k a1 a2 => by omega)
    generalize am_wh (w_k_thinHere_36 (am_put v1.2 0 57 (v1.2 0 57 + 1)) v0.1) 13 0 = K at *
    have k0 : ∀ k, k ≠ 0 → k ≠ 3 → k ≠ 34 + K.toNat → (am_put (am_put (am_put (am_put v1.2 0 57 (v1.2 0 57 + 1)) (34 + K.toNat) 0 v0.1) (34 + K.toNat) 1 v1.1) 3 9 (v1.2 3 9 + (if K = v1.2 3 9 then 1 else 0))) k = D k := fun k k0 k3 kb => by
      rw [am_put_kr k3, am_put_kr kb, am_put_kr kb, am_put_kr k0]
      exact er k k0
    have k1 : ∀ j, j ≠ 57 → j ≠ 4 → j ≠ 5 → j ≠ 6 → (am_put (am_put (am_put (am_put v1.2 0 57 (v1.2 0 57 + 1)) (34 + K.toNat) 0 v0.1) (34 + K.toNat) 1 v1.1) 3 9 (v1.2 3 9 + (if K = v1.2 3 9 then 1 else 0))) 0 j = D 0 j := fun j j0 j4 j5 j6 => by
      rw [am_put_k (by decide), am_put_k (by omega), am_put_k (by omega), am_put_i j0]
      exact l2.2 j j4 j5 j6
    have k2 : ∀ j, j ≠ 9 → (am_put (am_put (am_put (am_put v1.2 0 57 (v1.2 0 57 + 1)) (34 + K.toNat) 0 v0.1) (34 + K.toNat) 1 v1.1) 3 9 (v1.2 3 9 + (if K = v1.2 3 9 then 1 else 0))) 3 j = D 3 j := fun j j0 => by
      rw [am_put_i j0, am_put_k (by omega), am_put_k (by omega), am_put_k (by decide)]
      exact e3 j
    have k3 : (am_put (am_put (am_put (am_put v1.2 0 57 (v1.2 0 57 + 1)) (34 + K.toNat) 0 v0.1) (34 + K.toNat) 1 v1.1) 3 9 (v1.2 3 9 + (if K = v1.2 3 9 then 1 else 0))) 3 9 = if K = D 3 9 then D 3 9 + 1 else D 3 9 := by
      rw [am_put_s, e3]
      split <;> omega
    have k4 : (am_put (am_put (am_put (am_put v1.2 0 57 (v1.2 0 57 + 1)) (34 + K.toNat) 0 v0.1) (34 + K.toNat) 1 v1.1) 3 9 (v1.2 3 9 + (if K = v1.2 3 9 then 1 else 0))) 0 57 = D 0 57 + 1 := by
      rw [am_put_k (by decide), am_put_k (by omega), am_put_k (by omega), am_put_s, ez]
    have y0 : (am_put (am_put (am_put (am_put v1.2 0 57 (v1.2 0 57 + 1)) (34 + K.toNat) 0 v0.1) (34 + K.toNat) 1 v1.1) 3 9 (v1.2 3 9 + (if K = v1.2 3 9 then 1 else 0))) (34 + K.toNat) 0 = v0.1 := by rw [am_put_k (by omega), am_put_i (by decide), am_put_s]
    have y1 : (am_put (am_put (am_put (am_put v1.2 0 57 (v1.2 0 57 + 1)) (34 + K.toNat) 0 v0.1) (34 + K.toNat) 1 v1.1) 3 9 (v1.2 3 9 + (if K = v1.2 3 9 then 1 else 0))) (34 + K.toNat) 1 = v1.1 := by rw [am_put_k (by omega), am_put_s]
    have kR : RR e u1.2 (am_put (am_put (am_put (am_put v1.2 0 57 (v1.2 0 57 + 1)) (34 + K.toNat) 0 v0.1) (34 + K.toNat) 1 v1.1) 3 9 (v1.2 3 9 + (if K = v1.2 3 9 then 1 else 0))) := rr_c a1 (by rw [am_put_kr (by decide), am_put_kr (by omega), am_put_kr (by omega), am_put_kr (by decide)]) (fun j hj => by rw [am_put_k (by decide), am_put_k (by omega), am_put_k (by omega), am_put_i (by omega)])
    generalize am_put (am_put (am_put (am_put v1.2 0 57 (v1.2 0 57 + 1)) (34 + K.toNat) 0 v0.1) (34 + K.toNat) 1 v1.1) 3 9 (v1.2 3 9 + (if K = v1.2 3 9 then 1 else 0)) = Z at *
    refine ⟨kR, fun _ => ?_, ⟨fun k k0' hk => k0 k k0' (fun e => hk (by unfold rdw; omega)) (fun e => hk (by unfold rdw; omega)), fun j j4 j5 j6 _ _ => k1 j (by omega) j4 j5 j6⟩⟩
    refine HR_PT hR (fun r r0 r1 => w6 r r0 r1) (fun j _ hj => w7 j hj) (fun k c0 c3 cb => k0 k c0 c3 (by omega)) (fun j _ hj => k2 j hj) (fun j hj h56 => k1 j h56 (by omega) (by omega) (by omega)) ⟨?_, ?_, fun k a1 a2 => ?_⟩
    · rw [w5, k4, k3]
      split <;> omega
    · rw [w5]
      refine LtR_add hLt (by omega) (fun i a1 a2 => w1 i 0 a1 a2 (by decide) (by decide)) (w2.trans q0.2.1) t1 t2 t3 k3 (fun k a1 a2 a3 => by rw [k0 _ (by omega) (by omega) (by omega)]) y0 (fun i k a1 a2 a3 a4 a5 hv => ?_) ?_
      · unfold PTv at hv ⊢
        rw [w5, w1 i 1 a1 a2 (by decide) (by decide), k0 _ (by omega) (by omega) (by omega)]
        exact hv
      · unfold PTv
        rw [w5, w3, y1, q1.2.1]
    · by_cases g : k = K
      · rw [g, y0, y1]
        have := q0.2.2; have := q1.2.2
        omega
      · rw [k0 _ (by omega) (by omega) (by omega)]
        refine hbd k a1 ?_
        rw [k3] at a2
        split at a2 <;> omega
  · rw [if_neg h5]
    exact ⟨a1, fun g => absurd g h5, KD_L l2⟩
