/-! THE TIE: clauses of numbers -/
def LX (r : Nat) (c c' : am_F) : Prop := (∀ k, k ≠ 0 → k ≠ r → c' k = c k) ∧ ∀ j, j ≠ 4 → j ≠ 5 → j ≠ 6 → c' 0 j = c 0 j
theorem LX_x {r : Nat} {c c' : am_F} (h : Lx c c') : LX r c c' := ⟨fun k hk _ => h.1 k hk, h.2⟩
theorem LX_t {r : Nat} {c d e : am_F} (h : LX r c d) (h2 : LX r d e) : LX r c e := ⟨fun k hk hr => (h2.1 k hk hr).trans (h.1 k hk hr), fun j h4 h5 h6 => (h2.2 j h4 h5 h6).trans (h.2 j h4 h5 h6)⟩
theorem LX_p {r i : Nat} {c : am_F} {v : Int} (hr : r ≠ 0) : LX r c (am_put c r i v) := ⟨fun k _ hk => am_put_kr hk, fun j _ _ _ => am_put_k (fun e => hr e.symm)⟩
theorem rr_row {e P c : am_F} {r i : Nat} {v : Int} (h : RR e P c) (hr : r ≠ 0 ∧ r ≠ 1) : RR e P (am_put c r i v) := rr_c h (am_put_kr (fun e => hr.2 e.symm)) (fun j _ => am_put_k (fun e => hr.1 e.symm))
/-- a number read, and put into a row -/
theorem rr_np {e P D : am_F} {lo hi : Int} {r i : Nat} (h : RR e P D) (t : TpI e) (hr : r ≠ 0 ∧ r ≠ 1) : RR e (c_number e P lo hi).2 (am_put (k_number D lo hi).2 r i (k_number D lo hi).1) ∧ LX r D (am_put (k_number D lo hi).2 r i (k_number D lo hi).1) ∧ (am_put (k_number D lo hi).2 r i (k_number D lo hi).1 0 5 = 0 → D 0 5 = 0 ∧ (c_number e P lo hi).1 = (k_number D lo hi).1 ∧ lo ≤ (k_number D lo hi).1 ∧ (k_number D lo hi).1 ≤ hi) ∧ am_put (k_number D lo hi).2 r i (k_number D lo hi).1 r i = (k_number D lo hi).1 ∧ (∀ j, j ≠ i → am_put (k_number D lo hi).2 r i (k_number D lo hi).1 r j = D r j) ∧ (k_number D lo hi).2 3 = D 3 ∧ (k_number D lo hi).2 0 5 = am_put (k_number D lo hi).2 r i (k_number D lo hi).1 0 5 := by
  obtain ⟨h1, h2⟩ := rr_number h t lo hi
  obtain ⟨x1, x2, x3⟩ := k_number_x (lo := lo) (hi := hi) h.2.2.2.2.2.2
  have e5 : am_put (k_number D lo hi).2 r i (k_number D lo hi).1 0 5 = (k_number D lo hi).2 0 5 := am_put_k (fun e => hr.1 e.symm)
  refine ⟨rr_row h1 hr, LX_t (LX_x x2) (LX_p hr.1), fun g => ?_, am_put_s, fun j hj => ?_, x2.1 3 (by decide), e5.symm⟩
  · rw [e5] at g
    refine ⟨k_number_5 g, (h2 g).1, ?_⟩
    rcases x3 with x3 | x3
    · exact x3.2
    · exact absurd g x3.1
  · rw [am_put_i hj]
    exact congrFun (x2.1 r hr.1) j
theorem KD_X {r : Nat} {c c' : am_F} (hr : rdw r) (h : LX r c c') : KD c c' := ⟨fun k k0 hk => h.1 k k0 (fun e => hk (by rw [e]; exact hr)), fun j a b c1 _ _ => h.2 j a b c1⟩
theorem rr_fine {e P D : am_F} (h : RR e P D) (h0 : D 0 5 = 0) : c_fine P = 1 := c_fine_1 (h.1.trans h0)
theorem rrm0 {s P : am_F} (h : s 0 3 < 12) : c_needRoom0 s P = P := by
  unfold c_needRoom0
  dsimp only
  rw [if_neg (show ¬ 12 ≤ s 0 3 by omega), if_pos rfl]
theorem rrmX0 {s P : am_F} (h : 12 ≤ s 0 3) : c_needRoom0 s P = c_wrong P 3 (P 0 3) := by
  unfold c_needRoom0
  dsimp only
  rw [if_pos h, if_neg (by decide)]
theorem addS0 {s : am_F} {na nb nc nd : Int} (h : s 0 3 < 12) : c_addS0 s na nb nc nd = am_put (am_put (am_put (am_put (am_put s 1 (s 0 3 * 4).toNat na) 1 (s 0 3 * 4 + 1).toNat nb) 1 (s 0 3 * 4 + 2).toNat nc) 1 (s 0 3 * 4 + 3).toNat nd) 0 3 (s 0 3 + 1) := by
  unfold c_addS0
  dsimp only
  rw [if_neg (show ¬ 12 ≤ s 0 3 by omega), if_pos rfl, am_put_k (by decide), am_put_k (by decide), am_put_k (by decide), am_put_k (by decide)]
theorem addIf0 {s P : am_F} {na nb nc : Int} (h : s 0 3 < 12) (hP : c_fine P = 1) : c_addIf0 s P na nb nc = am_put (am_put (am_put (am_put (am_put s 1 (s 0 3 * 4).toNat na) 1 (s 0 3 * 4 + 1).toNat nb) 1 (s 0 3 * 4 + 2).toNat nc) 1 (s 0 3 * 4 + 3).toNat 0) 0 3 (s 0 3 + 1) := by
  unfold c_addIf0
  dsimp only
  rw [if_neg (by rw [hP]; decide), addS0 h]
theorem rrm1 {s P : am_F} (h : s 0 4 < 12) : c_needRoom1 s P = P := by
  unfold c_needRoom1
  dsimp only
  rw [if_neg (show ¬ 12 ≤ s 0 4 by omega), if_pos rfl]
theorem rrmX1 {s P : am_F} (h : 12 ≤ s 0 4) : c_needRoom1 s P = c_wrong P 3 (P 0 3) := by
  unfold c_needRoom1
  dsimp only
  rw [if_pos h, if_neg (by decide)]
theorem addS1 {s : am_F} {na nb nc nd : Int} (h : s 0 4 < 12) : c_addS1 s na nb nc nd = am_put (am_put (am_put (am_put (am_put s 2 (s 0 4 * 4).toNat na) 2 (s 0 4 * 4 + 1).toNat nb) 2 (s 0 4 * 4 + 2).toNat nc) 2 (s 0 4 * 4 + 3).toNat nd) 0 4 (s 0 4 + 1) := by
  unfold c_addS1
  dsimp only
  rw [if_neg (show ¬ 12 ≤ s 0 4 by omega), if_pos rfl, am_put_k (by decide), am_put_k (by decide), am_put_k (by decide), am_put_k (by decide)]
theorem addIf1 {s P : am_F} {na nb nc : Int} (h : s 0 4 < 12) (hP : c_fine P = 1) : c_addIf1 s P na nb nc = am_put (am_put (am_put (am_put (am_put s 2 (s 0 4 * 4).toNat na) 2 (s 0 4 * 4 + 1).toNat nb) 2 (s 0 4 * 4 + 2).toNat nc) 2 (s 0 4 * 4 + 3).toNat 0) 0 4 (s 0 4 + 1) := by
  unfold c_addIf1
  dsimp only
  rw [if_neg (by rw [hP]; decide), addS1 h]
theorem rrm2 {s P : am_F} (h : s 0 5 < 6) : c_needRoom2 s P = P := by
  unfold c_needRoom2
  dsimp only
  rw [if_neg (show ¬ 6 ≤ s 0 5 by omega), if_pos rfl]
theorem rrmX2 {s P : am_F} (h : 6 ≤ s 0 5) : c_needRoom2 s P = c_wrong P 3 (P 0 3) := by
  unfold c_needRoom2
  dsimp only
  rw [if_pos h, if_neg (by decide)]
theorem addS2 {s : am_F} {na nb nc nd : Int} (h : s 0 5 < 6) : c_addS2 s na nb nc nd = am_put (am_put (am_put (am_put (am_put s 3 (s 0 5 * 4).toNat na) 3 (s 0 5 * 4 + 1).toNat nb) 3 (s 0 5 * 4 + 2).toNat nc) 3 (s 0 5 * 4 + 3).toNat nd) 0 5 (s 0 5 + 1) := by
  unfold c_addS2
  dsimp only
  rw [if_neg (show ¬ 6 ≤ s 0 5 by omega), if_pos rfl, am_put_k (by decide), am_put_k (by decide), am_put_k (by decide), am_put_k (by decide)]
theorem addIf2 {s P : am_F} {na nb nc : Int} (h : s 0 5 < 6) (hP : c_fine P = 1) : c_addIf2 s P na nb nc = am_put (am_put (am_put (am_put (am_put s 3 (s 0 5 * 4).toNat na) 3 (s 0 5 * 4 + 1).toNat nb) 3 (s 0 5 * 4 + 2).toNat nc) 3 (s 0 5 * 4 + 3).toNat 0) 0 5 (s 0 5 + 1) := by
  unfold c_addIf2
  dsimp only
  rw [if_neg (by rw [hP]; decide), addS2 h]
theorem rrm3 {s P : am_F} (h : s 0 6 < 6) : c_needRoom3 s P = P := by
  unfold c_needRoom3
  dsimp only
  rw [if_neg (show ¬ 6 ≤ s 0 6 by omega), if_pos rfl]
theorem rrmX3 {s P : am_F} (h : 6 ≤ s 0 6) : c_needRoom3 s P = c_wrong P 3 (P 0 3) := by
  unfold c_needRoom3
  dsimp only
  rw [if_pos h, if_neg (by decide)]
theorem addS3 {s : am_F} {na nb nc nd : Int} (h : s 0 6 < 6) : c_addS3 s na nb nc nd = am_put (am_put (am_put (am_put (am_put s 4 (s 0 6 * 4).toNat na) 4 (s 0 6 * 4 + 1).toNat nb) 4 (s 0 6 * 4 + 2).toNat nc) 4 (s 0 6 * 4 + 3).toNat nd) 0 6 (s 0 6 + 1) := by
  unfold c_addS3
  dsimp only
  rw [if_neg (show ¬ 6 ≤ s 0 6 by omega), if_pos rfl, am_put_k (by decide), am_put_k (by decide), am_put_k (by decide), am_put_k (by decide)]
theorem addIf3 {s P : am_F} {na nb nc : Int} (h : s 0 6 < 6) (hP : c_fine P = 1) : c_addIf3 s P na nb nc = am_put (am_put (am_put (am_put (am_put s 4 (s 0 6 * 4).toNat na) 4 (s 0 6 * 4 + 1).toNat nb) 4 (s 0 6 * 4 + 2).toNat nc) 4 (s 0 6 * 4 + 3).toNat 0) 0 6 (s 0 6 + 1) := by
  unfold c_addIf3
  dsimp only
  rw [if_neg (by rw [hP]; decide), addS3 h]
theorem rrm4 {s P : am_F} (h : s 0 7 < 6) : c_needRoom4 s P = P := by
  unfold c_needRoom4
  dsimp only
  rw [if_neg (show ¬ 6 ≤ s 0 7 by omega), if_pos rfl]
theorem rrmX4 {s P : am_F} (h : 6 ≤ s 0 7) : c_needRoom4 s P = c_wrong P 3 (P 0 3) := by
  unfold c_needRoom4
  dsimp only
  rw [if_pos h, if_neg (by decide)]
theorem addS4 {s : am_F} {na nb nc nd : Int} (h : s 0 7 < 6) : c_addS4 s na nb nc nd = am_put (am_put (am_put (am_put (am_put s 5 (s 0 7 * 4).toNat na) 5 (s 0 7 * 4 + 1).toNat nb) 5 (s 0 7 * 4 + 2).toNat nc) 5 (s 0 7 * 4 + 3).toNat nd) 0 7 (s 0 7 + 1) := by
  unfold c_addS4
  dsimp only
  rw [if_neg (show ¬ 6 ≤ s 0 7 by omega), if_pos rfl, am_put_k (by decide), am_put_k (by decide), am_put_k (by decide), am_put_k (by decide)]
theorem addIf4 {s P : am_F} {na nb nc : Int} (h : s 0 7 < 6) (hP : c_fine P = 1) : c_addIf4 s P na nb nc = am_put (am_put (am_put (am_put (am_put s 5 (s 0 7 * 4).toNat na) 5 (s 0 7 * 4 + 1).toNat nb) 5 (s 0 7 * 4 + 2).toNat nc) 5 (s 0 7 * 4 + 3).toNat 0) 0 7 (s 0 7 + 1) := by
  unfold c_addIf4
  dsimp only
  rw [if_neg (by rw [hP]; decide), addS4 h]
theorem rrm5 {s P : am_F} (h : s 0 8 < 4) : c_needRoom5 s P = P := by
  unfold c_needRoom5
  dsimp only
  rw [if_neg (show ¬ 4 ≤ s 0 8 by omega), if_pos rfl]
theorem rrmX5 {s P : am_F} (h : 4 ≤ s 0 8) : c_needRoom5 s P = c_wrong P 3 (P 0 3) := by
  unfold c_needRoom5
  dsimp only
  rw [if_pos h, if_neg (by decide)]
theorem addS5 {s : am_F} {na nb nc nd : Int} (h : s 0 8 < 4) : c_addS5 s na nb nc nd = am_put (am_put (am_put (am_put (am_put s 6 (s 0 8 * 4).toNat na) 6 (s 0 8 * 4 + 1).toNat nb) 6 (s 0 8 * 4 + 2).toNat nc) 6 (s 0 8 * 4 + 3).toNat nd) 0 8 (s 0 8 + 1) := by
  unfold c_addS5
  dsimp only
  rw [if_neg (show ¬ 4 ≤ s 0 8 by omega), if_pos rfl, am_put_k (by decide), am_put_k (by decide), am_put_k (by decide), am_put_k (by decide)]
theorem addIf5 {s P : am_F} {na nb nc : Int} (h : s 0 8 < 4) (hP : c_fine P = 1) : c_addIf5 s P na nb nc = am_put (am_put (am_put (am_put (am_put s 6 (s 0 8 * 4).toNat na) 6 (s 0 8 * 4 + 1).toNat nb) 6 (s 0 8 * 4 + 2).toNat nc) 6 (s 0 8 * 4 + 3).toNat 0) 0 8 (s 0 8 + 1) := by
  unfold c_addIf5
  dsimp only
  rw [if_neg (by rw [hP]; decide), addS5 h]
theorem rrm6 {s P : am_F} (h : s 0 9 < 4) : c_needRoom6 s P = P := by
  unfold c_needRoom6
  dsimp only
  rw [if_neg (show ¬ 4 ≤ s 0 9 by omega), if_pos rfl]
theorem rrmX6 {s P : am_F} (h : 4 ≤ s 0 9) : c_needRoom6 s P = c_wrong P 3 (P 0 3) := by
  unfold c_needRoom6
  dsimp only
  rw [if_pos h, if_neg (by decide)]
theorem addS6 {s : am_F} {na nb nc nd : Int} (h : s 0 9 < 4) : c_addS6 s na nb nc nd = am_put (am_put (am_put (am_put (am_put s 7 (s 0 9 * 4).toNat na) 7 (s 0 9 * 4 + 1).toNat nb) 7 (s 0 9 * 4 + 2).toNat nc) 7 (s 0 9 * 4 + 3).toNat nd) 0 9 (s 0 9 + 1) := by
  unfold c_addS6
  dsimp only
  rw [if_neg (show ¬ 4 ≤ s 0 9 by omega), if_pos rfl, am_put_k (by decide), am_put_k (by decide), am_put_k (by decide), am_put_k (by decide)]
theorem addIf6 {s P : am_F} {na nb nc : Int} (h : s 0 9 < 4) (hP : c_fine P = 1) : c_addIf6 s P na nb nc = am_put (am_put (am_put (am_put (am_put s 7 (s 0 9 * 4).toNat na) 7 (s 0 9 * 4 + 1).toNat nb) 7 (s 0 9 * 4 + 2).toNat nc) 7 (s 0 9 * 4 + 3).toNat 0) 0 9 (s 0 9 + 1) := by
  unfold c_addIf6
  dsimp only
  rw [if_neg (by rw [hP]; decide), addS6 h]
theorem rrm7 {s P : am_F} (h : s 0 10 < 4) : c_needRoom7 s P = P := by
  unfold c_needRoom7
  dsimp only
  rw [if_neg (show ¬ 4 ≤ s 0 10 by omega), if_pos rfl]
theorem rrmX7 {s P : am_F} (h : 4 ≤ s 0 10) : c_needRoom7 s P = c_wrong P 3 (P 0 3) := by
  unfold c_needRoom7
  dsimp only
  rw [if_pos h, if_neg (by decide)]
theorem addS7 {s : am_F} {na nb nc nd : Int} (h : s 0 10 < 4) : c_addS7 s na nb nc nd = am_put (am_put (am_put (am_put (am_put s 8 (s 0 10 * 4).toNat na) 8 (s 0 10 * 4 + 1).toNat nb) 8 (s 0 10 * 4 + 2).toNat nc) 8 (s 0 10 * 4 + 3).toNat nd) 0 10 (s 0 10 + 1) := by
  unfold c_addS7
  dsimp only
  rw [if_neg (show ¬ 4 ≤ s 0 10 by omega), if_pos rfl, am_put_k (by decide), am_put_k (by decide), am_put_k (by decide), am_put_k (by decide)]
theorem addIf7 {s P : am_F} {na nb nc : Int} (h : s 0 10 < 4) (hP : c_fine P = 1) : c_addIf7 s P na nb nc = am_put (am_put (am_put (am_put (am_put s 8 (s 0 10 * 4).toNat na) 8 (s 0 10 * 4 + 1).toNat nb) 8 (s 0 10 * 4 + 2).toNat nc) 8 (s 0 10 * 4 + 3).toNat 0) 0 10 (s 0 10 + 1) := by
  unfold c_addIf7
  dsimp only
  rw [if_neg (by rw [hP]; decide), addS7 h]
theorem cl_lamp {e P D s : am_F} (h : RR e P D) (t : TpI e) (hR : HR s D) (hf : D 3 2 ≠ 6) : ∃ D', k_clause_181 D 2 = k_sign D' 59 ∧ RR e (c_readLamp e s P).2 D' ∧ (D' 0 5 = 0 → HR (c_readLamp e s P).1 D') ∧ KD D D' := by
  have hD := hR.1
  have hL := hR.2.2.2.1
  obtain ⟨⟨d0, d1⟩, ⟨d2, d3⟩, d4⟩ := hD
  have hn := hL.1
  unfold c_readLamp c_readCell k_clause_181 k_acrossHere k_downHere
  dsimp only
  rw [rrm2 (show s 0 5 < 6 by omega), d0, d1]
  obtain ⟨a0, b0, c0, e0, f0, g0, i0⟩ := rr_np (lo := 0) (hi := D 3 0 - 1) (r := 60 + (D 3 2).toNat) (i := 0) h t (by omega)
  have l1 := b0
  generalize c_number e P 0 (D 3 0 - 1) = u0 at *
  generalize k_number D 0 (D 3 0 - 1) = v0 at *
  generalize hE0 : am_put v0.2 (60 + (D 3 2).toNat) 0 v0.1 = D1 at *
  rw [show D1 3 1 = D 3 1 from congrFun (l1.1 3 (by decide) (by omega)) 1]
  obtain ⟨a1, b1, c1, e1, f1, g1, i1⟩ := rr_np (lo := 0) (hi := D 3 1 - 1) (r := 60 + (D 3 2).toNat) (i := 1) a0 t (by omega)
  have l2 := LX_t l1 b1
  generalize c_number e u0.2 0 (D 3 1 - 1) = u1 at *
  generalize k_number D1 0 (D 3 1 - 1) = v1 at *
  generalize hE1 : am_put v1.2 (60 + (D 3 2).toNat) 1 v1.1 = D2 at *
  obtain ⟨a2, b2, c2, e2, f2, g2, i2⟩ := rr_np (lo := 1) (hi := 20) (r := 60 + (D 3 2).toNat) (i := 2) a1 t (by omega)
  have l3 := LX_t l2 b2
  generalize c_number e u1.2 1 (20) = u2 at *
  generalize k_number D2 1 (20) = v2 at *
  rw [show v2.2 3 ((2 : Int)).toNat = D 3 2 from (congrFun g2 2).trans (congrFun (l2.1 3 (by decide) (by omega)) 2), i2]
  generalize hE2 : am_put v2.2 (60 + (D 3 2).toNat) 2 v2.1 = D3 at *
  refine ⟨_, rfl, rr_row a2 (by decide), fun h5 => ?_, ?_⟩
  · have q2 := c2 ((am_put_k (by decide)).symm.trans h5)
    have q1 := c1 q2.1
    have q0 := c0 q1.1
    have q9 : D3 0 5 = 0 := (am_put_k (by decide)).symm.trans h5
    rw [addIf2 (by omega) (rr_fine a2 q9), if_pos q9]
    obtain ⟨w1, ⟨w2, w3, w4⟩, w5, w6, w7⟩ := rr_addR (ss := s) (r := 3) (fi := 5) (n := s 0 5) (na := u0.1 + 10 * u1.1) (nb := u2.1) (nc := 0) (nd := 0) (v := s 0 5 + 1) (by decide) (by omega) rfl
    generalize am_put (am_put (am_put (am_put (am_put s 3 (s 0 5 * 4).toNat (u0.1 + 10 * u1.1)) 3 (s 0 5 * 4 + 1).toNat (u2.1)) 3 (s 0 5 * 4 + 2).toNat (0)) 3 (s 0 5 * 4 + 3).toNat 0) 0 5 (s 0 5 + 1) = X at *
    have hrow : ∀ i : Int, 0 ≤ i → i < D 3 2 → am_put D3 3 (2 : Int).toNat (D 3 2 + 1) (60 + i.toNat) = D (60 + i.toNat) := fun i a1 a2 => (am_put_kr (by omega)).trans (l3.1 _ (by omega) (by omega))
    have y0 : am_put D3 3 (2 : Int).toNat (D 3 2 + 1) (60 + (D 3 2).toNat) 0 = v0.1 := (am_put_k (by omega)).trans ((f2 0 (by decide)).trans ((f1 0 (by decide)).trans (e0)))
    have y1 : am_put D3 3 (2 : Int).toNat (D 3 2 + 1) (60 + (D 3 2).toNat) 1 = v1.1 := (am_put_k (by omega)).trans ((f2 1 (by decide)).trans (e1))
    have y2 : am_put D3 3 (2 : Int).toNat (D 3 2 + 1) (60 + (D 3 2).toNat) 2 = v2.1 := (am_put_k (by omega)).trans (e2)
    have h3 : ∀ j : Nat, j ≠ 2 → am_put D3 3 (2 : Int).toNat (D 3 2 + 1) 3 j = D 3 j := fun j hj => (am_put_i hj).trans (congrFun (l3.1 3 (by decide) (by omega)) j)
    have hcj : am_put D3 3 (2 : Int).toNat (D 3 2 + 1) 3 2 = D 3 2 + 1 := am_put_s
    have hk : ∀ k : Nat, k ≠ 0 → k ≠ 3 → ¬ (60 ≤ k ∧ k ≤ 65) → am_put D3 3 (2 : Int).toNat (D 3 2 + 1) k = D k := fun k k0 k3 kb => (am_put_kr k3).trans (l3.1 k k0 (by omega))
    have h00 : ∀ j : Nat, j = 56 ∨ j = 57 → am_put D3 3 (2 : Int).toNat (D 3 2 + 1) 0 j = D 0 j := fun j hj => (am_put_k (by decide)).trans (l3.2 j (by omega) (by omega) (by omega))
    generalize am_put D3 3 (2 : Int).toNat (D 3 2 + 1) = Z at *
    refine HR_PL hR (fun r r0 r1 => w6 r r0 r1) (fun j _ hj => w7 j hj) hk (fun j _ hj => h3 j hj) h00 ⟨by omega, fun i a1 a2 => ?_⟩
    rw [hcj] at a2
    rw [w5, h3 0 (by decide), h3 1 (by decide)]
    by_cases g : i = D 3 2
    · subst g
      have hz : s 0 5 = D 3 2 := hn.1
      rw [hz] at w1 w2 w3 w4 ⊢
      rw [w2, w3, y0, y1, y2, q0.2.1, q1.2.1, q2.2.1]
      have := q0.2.2; have := q1.2.2; have := q2.2.2
      exact ⟨rfl, rfl, by omega, by omega, by omega⟩
    · rw [w1 i 0 a1 (by omega) (by decide) (by decide), w1 i 1 a1 (by omega) (by decide) (by decide), hrow i a1 (by omega)]
      exact hL.2 i a1 (by omega)
  · exact KD_p (KD_X (by unfold rdw; omega) l3) (by unfold rdw; decide)
theorem cl_watch {e P D s : am_F} (h : RR e P D) (t : TpI e) (hR : HR s D) (hf : D 3 5 ≠ 4) : ∃ D', k_clause_256 D 5 = k_sign D' 59 ∧ RR e (c_readWatch e s P).2 D' ∧ (D' 0 5 = 0 → HR (c_readWatch e s P).1 D') ∧ KD D D' := by
  have hD := hR.1
  have hL := hR.2.2.2.2.2.2.2.1
  obtain ⟨⟨d0, d1⟩, ⟨d2, d3⟩, d4⟩ := hD
  have hn := hL.1
  unfold c_readWatch c_readCell k_clause_256 k_acrossHere k_downHere
  dsimp only
  rw [rrm6 (show s 0 9 < 4 by omega), d0, d1]
  obtain ⟨a0, b0, c0, e0, f0, g0, i0⟩ := rr_np (lo := 0) (hi := D 3 0 - 1) (r := 113 + (D 3 5).toNat) (i := 0) h t (by omega)
  have l1 := b0
  generalize c_number e P 0 (D 3 0 - 1) = u0 at *
  generalize k_number D 0 (D 3 0 - 1) = v0 at *
  rw [show v0.2 3 5 = D 3 5 from congrFun g0 5]
  generalize hE0 : am_put v0.2 (113 + (D 3 5).toNat) 0 v0.1 = D1 at *
  rw [show D1 3 1 = D 3 1 from congrFun (l1.1 3 (by decide) (by omega)) 1]
  obtain ⟨a1, b1, c1, e1, f1, g1, i1⟩ := rr_np (lo := 0) (hi := D 3 1 - 1) (r := 113 + (D 3 5).toNat) (i := 1) a0 t (by omega)
  have l2 := LX_t l1 b1
  generalize c_number e u0.2 0 (D 3 1 - 1) = u1 at *
  generalize k_number D1 0 (D 3 1 - 1) = v1 at *
  rw [show v1.2 3 ((5 : Int)).toNat = D 3 5 from (congrFun g1 5).trans (congrFun (l1.1 3 (by decide) (by omega)) 5), i1]
  generalize hE1 : am_put v1.2 (113 + (D 3 5).toNat) 1 v1.1 = D2 at *
  refine ⟨_, rfl, rr_row a1 (by decide), fun h5 => ?_, ?_⟩
  · have q1 := c1 ((am_put_k (by decide)).symm.trans h5)
    have q0 := c0 q1.1
    have q9 : D2 0 5 = 0 := (am_put_k (by decide)).symm.trans h5
    rw [addIf6 (by omega) (rr_fine a1 q9), if_pos q9]
    obtain ⟨w1, ⟨w2, w3, w4⟩, w5, w6, w7⟩ := rr_addR (ss := s) (r := 7) (fi := 9) (n := s 0 9) (na := u0.1 + 10 * u1.1) (nb := 0) (nc := 0) (nd := 0) (v := s 0 9 + 1) (by decide) (by omega) rfl
    generalize am_put (am_put (am_put (am_put (am_put s 7 (s 0 9 * 4).toNat (u0.1 + 10 * u1.1)) 7 (s 0 9 * 4 + 1).toNat (0)) 7 (s 0 9 * 4 + 2).toNat (0)) 7 (s 0 9 * 4 + 3).toNat 0) 0 9 (s 0 9 + 1) = X at *
    have hrow : ∀ i : Int, 0 ≤ i → i < D 3 5 → am_put D2 3 (5 : Int).toNat (D 3 5 + 1) (113 + i.toNat) = D (113 + i.toNat) := fun i a1 a2 => (am_put_kr (by omega)).trans (l2.1 _ (by omega) (by omega))
    have y0 : am_put D2 3 (5 : Int).toNat (D 3 5 + 1) (113 + (D 3 5).toNat) 0 = v0.1 := (am_put_k (by omega)).trans ((f1 0 (by decide)).trans (e0))
    have y1 : am_put D2 3 (5 : Int).toNat (D 3 5 + 1) (113 + (D 3 5).toNat) 1 = v1.1 := (am_put_k (by omega)).trans (e1)
    have h3 : ∀ j : Nat, j ≠ 5 → am_put D2 3 (5 : Int).toNat (D 3 5 + 1) 3 j = D 3 j := fun j hj => (am_put_i hj).trans (congrFun (l2.1 3 (by decide) (by omega)) j)
    have hcj : am_put D2 3 (5 : Int).toNat (D 3 5 + 1) 3 5 = D 3 5 + 1 := am_put_s
    have hk : ∀ k : Nat, k ≠ 0 → k ≠ 3 → ¬ (113 ≤ k ∧ k ≤ 116) → am_put D2 3 (5 : Int).toNat (D 3 5 + 1) k = D k := fun k k0 k3 kb => (am_put_kr k3).trans (l2.1 k k0 (by omega))
    have h00 : ∀ j : Nat, j = 56 ∨ j = 57 → am_put D2 3 (5 : Int).toNat (D 3 5 + 1) 0 j = D 0 j := fun j hj => (am_put_k (by decide)).trans (l2.2 j (by omega) (by omega) (by omega))
    generalize am_put D2 3 (5 : Int).toNat (D 3 5 + 1) = Z at *
    refine HR_PX hR (fun r r0 r1 => w6 r r0 r1) (fun j _ hj => w7 j hj) hk (fun j _ hj => h3 j hj) h00 ⟨by omega, fun i a1 a2 => ?_⟩
    rw [hcj] at a2
    rw [w5, h3 0 (by decide), h3 1 (by decide)]
    by_cases g : i = D 3 5
    · subst g
      have hz : s 0 9 = D 3 5 := hn.1
      rw [hz] at w1 w2 w3 w4 ⊢
      rw [w2, y0, y1, q0.2.1, q1.2.1]
      have := q0.2.2; have := q1.2.2
      exact ⟨rfl, by omega, by omega⟩
    · rw [w1 i 0 a1 (by omega) (by decide) (by decide), hrow i a1 (by omega)]
      exact hL.2 i a1 (by omega)
  · exact KD_p (KD_X (by unfold rdw; omega) l2) (by unfold rdw; decide)
theorem cl_ship {e P D s : am_F} (h : RR e P D) (t : TpI e) (hR : HR s D) (hf : D 3 6 ≠ 4) : ∃ D', k_clause_293 D 6 = k_sign D' 59 ∧ RR e (c_readShip e s P).2 D' ∧ (D' 0 5 = 0 → HR (c_readShip e s P).1 D') ∧ KD D D' := by
  have hD := hR.1
  have hL := hR.2.2.2.2.2.2.2.2.1
  obtain ⟨⟨d0, d1⟩, ⟨d2, d3⟩, d4⟩ := hD
  have hn := hL.1
  unfold c_readShip k_clause_293 k_acrossHere 
  dsimp only
  rw [rrm7 (show s 0 10 < 4 by omega), d0]
  obtain ⟨a0, b0, c0, e0, f0, g0, i0⟩ := rr_np (lo := 0) (hi := D 3 0 - 1) (r := 123 + (D 3 6).toNat) (i := 0) h t (by omega)
  have l1 := b0
  generalize c_number e P 0 (D 3 0 - 1) = u0 at *
  generalize k_number D 0 (D 3 0 - 1) = v0 at *
  rw [show v0.2 3 6 = D 3 6 from congrFun g0 6]
  generalize hE0 : am_put v0.2 (123 + (D 3 6).toNat) 0 v0.1 = D1 at *
  obtain ⟨a1, b1, c1, e1, f1, g1, i1⟩ := rr_np (lo := 0) (hi := 99) (r := 123 + (D 3 6).toNat) (i := 1) a0 t (by omega)
  have l2 := LX_t l1 b1
  generalize c_number e u0.2 0 (99) = u1 at *
  generalize k_number D1 0 (99) = v1 at *
  rw [show v1.2 3 ((6 : Int)).toNat = D 3 6 from (congrFun g1 6).trans (congrFun (l1.1 3 (by decide) (by omega)) 6), i1]
  generalize hE1 : am_put v1.2 (123 + (D 3 6).toNat) 1 v1.1 = D2 at *
  refine ⟨_, rfl, rr_row a1 (by decide), fun h5 => ?_, ?_⟩
  · have q1 := c1 ((am_put_k (by decide)).symm.trans h5)
    have q0 := c0 q1.1
    have q9 : D2 0 5 = 0 := (am_put_k (by decide)).symm.trans h5
    rw [addIf7 (by omega) (rr_fine a1 q9), if_pos q9]
    obtain ⟨w1, ⟨w2, w3, w4⟩, w5, w6, w7⟩ := rr_addR (ss := s) (r := 8) (fi := 10) (n := s 0 10) (na := u0.1) (nb := u1.1) (nc := 0) (nd := 0) (v := s 0 10 + 1) (by decide) (by omega) rfl
    generalize am_put (am_put (am_put (am_put (am_put s 8 (s 0 10 * 4).toNat (u0.1)) 8 (s 0 10 * 4 + 1).toNat (u1.1)) 8 (s 0 10 * 4 + 2).toNat (0)) 8 (s 0 10 * 4 + 3).toNat 0) 0 10 (s 0 10 + 1) = X at *
    have hrow : ∀ i : Int, 0 ≤ i → i < D 3 6 → am_put D2 3 (6 : Int).toNat (D 3 6 + 1) (123 + i.toNat) = D (123 + i.toNat) := fun i a1 a2 => (am_put_kr (by omega)).trans (l2.1 _ (by omega) (by omega))
    have y0 : am_put D2 3 (6 : Int).toNat (D 3 6 + 1) (123 + (D 3 6).toNat) 0 = v0.1 := (am_put_k (by omega)).trans ((f1 0 (by decide)).trans (e0))
    have y1 : am_put D2 3 (6 : Int).toNat (D 3 6 + 1) (123 + (D 3 6).toNat) 1 = v1.1 := (am_put_k (by omega)).trans (e1)
    have h3 : ∀ j : Nat, j ≠ 6 → am_put D2 3 (6 : Int).toNat (D 3 6 + 1) 3 j = D 3 j := fun j hj => (am_put_i hj).trans (congrFun (l2.1 3 (by decide) (by omega)) j)
    have hcj : am_put D2 3 (6 : Int).toNat (D 3 6 + 1) 3 6 = D 3 6 + 1 := am_put_s
    have hk : ∀ k : Nat, k ≠ 0 → k ≠ 3 → ¬ (123 ≤ k ∧ k ≤ 126) → am_put D2 3 (6 : Int).toNat (D 3 6 + 1) k = D k := fun k k0 k3 kb => (am_put_kr k3).trans (l2.1 k k0 (by omega))
    have h00 : ∀ j : Nat, j = 56 ∨ j = 57 → am_put D2 3 (6 : Int).toNat (D 3 6 + 1) 0 j = D 0 j := fun j hj => (am_put_k (by decide)).trans (l2.2 j (by omega) (by omega) (by omega))
    generalize am_put D2 3 (6 : Int).toNat (D 3 6 + 1) = Z at *
    refine HR_PH hR (fun r r0 r1 => w6 r r0 r1) (fun j _ hj => w7 j hj) hk (fun j _ hj => h3 j hj) h00 ⟨by omega, fun i a1 a2 => ?_⟩
    rw [hcj] at a2
    rw [w5, h3 0 (by decide)]
    by_cases g : i = D 3 6
    · subst g
      have hz : s 0 10 = D 3 6 := hn.1
      rw [hz] at w1 w2 w3 w4 ⊢
      rw [w2, w3, y0, y1, q0.2.1, q1.2.1]
      have := q0.2.2; have := q1.2.2
      exact ⟨rfl, rfl, by omega⟩
    · rw [w1 i 0 a1 (by omega) (by decide) (by decide), w1 i 1 a1 (by omega) (by decide) (by decide), hrow i a1 (by omega)]
      exact hL.2 i a1 (by omega)
  · exact KD_p (KD_X (by unfold rdw; omega) l2) (by unfold rdw; decide)
theorem cl_steamer {e P D s : am_F} (h : RR e P D) (t : TpI e) (hR : HR s D) (hf : D 3 10 ≠ 6) : ∃ D', k_clause_366 D 10 = k_sign D' 59 ∧ RR e (c_readSteamer e s P).2 D' ∧ (D' 0 5 = 0 → HR (c_readSteamer e s P).1 D') ∧ KD D D' := by
  have hD := hR.1
  have hL := hR.2.2.2.2.1
  obtain ⟨⟨d0, d1⟩, ⟨d2, d3⟩, d4⟩ := hD
  have hn := hL.1
  unfold c_readSteamer c_readStep c_readCell k_clause_366 k_acrossHere k_downHere
  dsimp only
  rw [rrm3 (show s 0 6 < 6 by omega), d0, d1]
  obtain ⟨a0, b0, c0, e0, f0, g0, i0⟩ := rr_np (lo := 0) (hi := 39) (r := 75 + (D 3 10).toNat) (i := 0) h t (by omega)
  have l1 := b0
  generalize c_number e P 0 (39) = u0 at *
  generalize k_number D 0 (39) = v0 at *
  generalize hE0 : am_put v0.2 (75 + (D 3 10).toNat) 0 v0.1 = D1 at *
  rw [show D1 3 0 = D 3 0 from congrFun (l1.1 3 (by decide) (by omega)) 0]
  obtain ⟨a1, b1, c1, e1, f1, g1, i1⟩ := rr_np (lo := 0) (hi := D 3 0 - 1) (r := 75 + (D 3 10).toNat) (i := 1) a0 t (by omega)
  have l2 := LX_t l1 b1
  generalize c_number e u0.2 0 (D 3 0 - 1) = u1 at *
  generalize k_number D1 0 (D 3 0 - 1) = v1 at *
  generalize hE1 : am_put v1.2 (75 + (D 3 10).toNat) 1 v1.1 = D2 at *
  rw [show D2 3 1 = D 3 1 from congrFun (l2.1 3 (by decide) (by omega)) 1]
  obtain ⟨a2, b2, c2, e2, f2, g2, i2⟩ := rr_np (lo := 0) (hi := D 3 1 - 1) (r := 75 + (D 3 10).toNat) (i := 2) a1 t (by omega)
  have l3 := LX_t l2 b2
  generalize c_number e u1.2 0 (D 3 1 - 1) = u2 at *
  generalize k_number D2 0 (D 3 1 - 1) = v2 at *
  rw [show v2.2 3 ((10 : Int)).toNat = D 3 10 from (congrFun g2 10).trans (congrFun (l2.1 3 (by decide) (by omega)) 10), i2]
  generalize hE2 : am_put v2.2 (75 + (D 3 10).toNat) 2 v2.1 = D3 at *
  refine ⟨_, rfl, rr_row a2 (by decide), fun h5 => ?_, ?_⟩
  · have q2 := c2 ((am_put_k (by decide)).symm.trans h5)
    have q1 := c1 q2.1
    have q0 := c0 q1.1
    have q9 : D3 0 5 = 0 := (am_put_k (by decide)).symm.trans h5
    rw [addIf3 (by omega) (rr_fine a2 q9), if_pos q9]
    obtain ⟨w1, ⟨w2, w3, w4⟩, w5, w6, w7⟩ := rr_addR (ss := s) (r := 4) (fi := 6) (n := s 0 6) (na := u0.1) (nb := u1.1 + 10 * u2.1) (nc := 0) (nd := 0) (v := s 0 6 + 1) (by decide) (by omega) rfl
    generalize am_put (am_put (am_put (am_put (am_put s 4 (s 0 6 * 4).toNat (u0.1)) 4 (s 0 6 * 4 + 1).toNat (u1.1 + 10 * u2.1)) 4 (s 0 6 * 4 + 2).toNat (0)) 4 (s 0 6 * 4 + 3).toNat 0) 0 6 (s 0 6 + 1) = X at *
    have hrow : ∀ i : Int, 0 ≤ i → i < D 3 10 → am_put D3 3 (10 : Int).toNat (D 3 10 + 1) (75 + i.toNat) = D (75 + i.toNat) := fun i a1 a2 => (am_put_kr (by omega)).trans (l3.1 _ (by omega) (by omega))
    have y0 : am_put D3 3 (10 : Int).toNat (D 3 10 + 1) (75 + (D 3 10).toNat) 0 = v0.1 := (am_put_k (by omega)).trans ((f2 0 (by decide)).trans ((f1 0 (by decide)).trans (e0)))
    have y1 : am_put D3 3 (10 : Int).toNat (D 3 10 + 1) (75 + (D 3 10).toNat) 1 = v1.1 := (am_put_k (by omega)).trans ((f2 1 (by decide)).trans (e1))
    have y2 : am_put D3 3 (10 : Int).toNat (D 3 10 + 1) (75 + (D 3 10).toNat) 2 = v2.1 := (am_put_k (by omega)).trans (e2)
    have h3 : ∀ j : Nat, j ≠ 10 → am_put D3 3 (10 : Int).toNat (D 3 10 + 1) 3 j = D 3 j := fun j hj => (am_put_i hj).trans (congrFun (l3.1 3 (by decide) (by omega)) j)
    have hcj : am_put D3 3 (10 : Int).toNat (D 3 10 + 1) 3 10 = D 3 10 + 1 := am_put_s
    have hk : ∀ k : Nat, k ≠ 0 → k ≠ 3 → ¬ (75 ≤ k ∧ k ≤ 80) → am_put D3 3 (10 : Int).toNat (D 3 10 + 1) k = D k := fun k k0 k3 kb => (am_put_kr k3).trans (l3.1 k k0 (by omega))
    have h00 : ∀ j : Nat, j = 56 ∨ j = 57 → am_put D3 3 (10 : Int).toNat (D 3 10 + 1) 0 j = D 0 j := fun j hj => (am_put_k (by decide)).trans (l3.2 j (by omega) (by omega) (by omega))
    generalize am_put D3 3 (10 : Int).toNat (D 3 10 + 1) = Z at *
    refine HR_PS hR (fun r r0 r1 => w6 r r0 r1) (fun j _ hj => w7 j hj) hk (fun j _ hj => h3 j hj) h00 ⟨by omega, fun i a1 a2 => ?_⟩
    rw [hcj] at a2
    rw [w5, h3 0 (by decide), h3 1 (by decide)]
    by_cases g : i = D 3 10
    · subst g
      have hz : s 0 6 = D 3 10 := hn.1
      rw [hz] at w1 w2 w3 w4 ⊢
      rw [w2, w3, y0, y1, y2, q0.2.1, q1.2.1, q2.2.1]
      have := q0.2.2; have := q1.2.2; have := q2.2.2
      exact ⟨rfl, rfl, by omega, by omega⟩
    · rw [w1 i 0 a1 (by omega) (by decide) (by decide), w1 i 1 a1 (by omega) (by decide) (by decide), hrow i a1 (by omega)]
      exact hL.2 i a1 (by omega)
  · exact KD_p (KD_X (by unfold rdw; omega) l3) (by unfold rdw; decide)
theorem cl_sight {e P D s : am_F} (h : RR e P D) (t : TpI e) (hR : HR s D) : ∃ D', k_clause_335 D = k_sign D' 59 ∧ RR e (c_readSight e s P).2 D' ∧ (D' 0 5 = 0 → HR (c_readSight e s P).1 D') ∧ KD D D' := by
  have hD := hR.1
  unfold c_readSight k_clause_335
  dsimp only
  obtain ⟨a0, b0, c0, e0, f0, g0, i0⟩ := rr_np (lo := 1) (hi := 99) (r := 3) (i := 7) h t (by decide)
  generalize c_number e P 1 99 = u0 at *
  generalize k_number D 1 99 = v0 at *
  refine ⟨_, rfl, a0, fun h5 => ?_, KD_X (by unfold rdw; decide) b0⟩
  obtain ⟨q1, q2, q3⟩ := c0 h5
  rw [if_neg (by rw [rr_fine a0 h5]; decide)]
  refine HR_PD hR (fun r hr => am_put_kr hr) (fun j _ hj => am_put_i hj) (fun k k0 k3 => b0.1 k k0 k3) (fun j _ hj => f0 j hj) (fun j hj => b0.2 j (by omega) (by omega) (by omega)) ?_
  unfold PD
  rw [f0 0 (by decide), f0 1 (by decide), e0, am_put_i (by decide), am_put_i (by decide), am_put_s]
  exact ⟨hD.1, hD.2.1, q2, q3⟩
theorem cl_port {e P D s : am_F} (h : RR e P D) (t : TpI e) (hR : HR s D) (hE : Em s D) : ∃ D', k_clause_152 D = k_sign D' 59 ∧ RR e (c_readPort e s P).2 D' ∧ (D' 0 5 = 0 → HR (c_readPort e s P).1 D') ∧ KD D D' := by
  have hD := hR.1
  unfold c_readPort k_clause_152
  dsimp only
  obtain ⟨a0, b0, c0, e0, f0, g0, i0⟩ := rr_np (lo := 2) (hi := 9) (r := 3) (i := 0) h t (by decide)
  generalize c_number e P 2 9 = u0 at *
  generalize k_number D 2 9 = v0 at *
  generalize am_put v0.2 3 0 v0.1 = D1 at *
  obtain ⟨a1, b1, c1, e1, f1, g1, i1⟩ := rr_np (lo := 2) (hi := 9) (r := 3) (i := 1) a0 t (by decide)
  generalize c_number e u0.2 2 9 = u1 at *
  generalize k_number D1 2 9 = v1 at *
  have l2 := LX_t b0 b1
  refine ⟨_, rfl, a1, fun h5 => ?_, KD_X (by unfold rdw; decide) l2⟩
  obtain ⟨q1, q2, q3⟩ := c1 h5
  obtain ⟨p1, p2, p3⟩ := c0 q1
  rw [if_neg (by rw [rr_fine a1 h5]; decide)]
  generalize am_put v1.2 3 1 v1.1 = D2 at *
  have k0 : D2 3 0 = v0.1 := (f1 0 (by decide)).trans e0
  have kj : ∀ j : Nat, j ≠ 0 → j ≠ 1 → D2 3 j = D 3 j := fun j j0 j1 => (f1 j j1).trans (f0 j j0)
  obtain ⟨m1, ⟨m2, m3⟩, m4, m5, m6⟩ := hE
  refine HR_Em ⟨?_, ?_, ?_, fun j hj => ?_, fun j hj => ?_⟩ ⟨⟨?_, ?_⟩, ?_, ?_, ?_⟩
  · rw [am_put_i (by decide), am_put_i (by decide), am_put_i (by decide), am_put_i (by decide), am_put_i (by decide), am_put_i (by decide), am_put_i (by decide), am_put_i (by decide), am_put_i (by decide), am_put_i (by decide), am_put_i (by decide), am_put_i (by decide), am_put_i (by decide), am_put_i (by decide), am_put_i (by decide), am_put_i (by decide)]
    exact m1
  · rw [l2.2 56 (by decide) (by decide) (by decide), l2.2 57 (by decide) (by decide) (by decide)]
    exact ⟨m2, m3⟩
  · rw [kj 2 (by decide) (by decide), kj 3 (by decide) (by decide), kj 4 (by decide) (by decide), kj 5 (by decide) (by decide), kj 6 (by decide) (by decide), kj 8 (by decide) (by decide), kj 9 (by decide) (by decide), kj 10 (by decide) (by decide)]
    exact m4
  · rw [am_put_kr (by decide), am_put_kr (by decide), am_put_kr (by decide), am_put_kr (by decide)]
    exact m5 j hj
  · rw [l2.1 5 (by decide) (by decide)]
    exact m6 j hj
  · rw [am_put_i (by decide), am_put_s, k0, p2]
  · rw [am_put_s, e1, q2]
  · rw [k0, e1]; exact ⟨p3, q3⟩
  · rw [am_put_i (by decide), am_put_i (by decide), kj 7 (by decide) (by decide)]; exact hD.2.2.1
  · rw [kj 7 (by decide) (by decide)]; exact hD.2.2.2
