/-! THE TIE: a port's text is read -/
theorem rr_end {e p c : am_F} (h : RR e p c) (t : TpI e) : k_byteAt c (c 0 4) = -1 ↔ c 0 2 ≤ c 0 4 := by
  rcases k_byteAt_s c (c 0 4) with ⟨b1, b2⟩ | ⟨b1, b2⟩
  · have h9 := h.2.2.2.2.1 (c 0 4).toNat (by have := h.2.2.2.2.2.2.1; omega)
    have h8 := (t (c 0 4).toNat).1
    rw [b2, ← h9]
    omega
  · rw [b2]
    exact ⟨fun _ => b1, fun _ => rfl⟩
/-- between two clauses -/
def LpR (e : am_F) (μ : Nat) (cs : Int) (s p c0 c : am_F) : Prop := (SpI s ∧ RdI p ∧ KE c0 c) ∧ (c 0 5 ≠ 0 → RR e p c) ∧ (c 0 5 = 0 → (p 0 4 = 0 ∧ RR e (c_peek e p).2 c ∧ (c_peek e p).1 = k_byteAt c (c 0 4)) ∧ (cs = c 0 7 ∧ (0 ≤ c 0 7 ∧ c 0 7 ≤ 60) ∧ 61 - c 0 7 ≤ μ) ∧ HR s c ∧ (c 0 7 = 0 → Em s c))
theorem rr_loop {e c0 : am_F} (t : TpI e) : ∀ (μ F G : Nat) (cs : Int) (s p c : am_F), μ < F → μ < G → LpR e μ cs s p c0 c → RR e (am_wh (w_c_readInto_14 e) F (cs, s, p)).2.2 (am_wh w_k_port_52 G c) ∧ (am_wh w_k_port_52 G c 0 5 = 0 → HR (am_wh (w_c_readInto_14 e) F (cs, s, p)).2.1 (am_wh w_k_port_52 G c)) ∧ SpI (am_wh (w_c_readInto_14 e) F (cs, s, p)).2.1 ∧ KE c0 (am_wh w_k_port_52 G c) := by
  intro μ
  induction μ with
  | zero =>
    intro F G cs s p c hF hG hR
    obtain ⟨⟨r1, r2, r3⟩, r4, r5⟩ := hR
    obtain ⟨F, rfl⟩ : ∃ F', F = F' + 1 := ⟨F - 1, by omega⟩
    obtain ⟨G, rfl⟩ : ∃ G', G = G' + 1 := ⟨G - 1, by omega⟩
    by_cases g5 : c 0 5 = 0
    · have := (r5 g5).2.1; omega
    · have w2 : w_k_port_52 c = .inr c := if_neg g5
      have hp : c_fine p = 0 := c_fine_0 (by rw [(r4 g5).1]; exact g5)
      have w1 : w_c_readInto_14 e (cs, s, p) = .inr (cs, s, p) := by
        unfold w_c_readInto_14
        dsimp only
        rw [if_pos hp]
        split <;> rfl
      rw [am_wh_r w1, am_wh_r w2]
      exact ⟨r4 g5, fun g => absurd g g5, r1, r3⟩
  | succ μ ih =>
    intro F G cs s p c hF hG hR
    obtain ⟨⟨r1, r2, r3⟩, r4, r5⟩ := hR
    obtain ⟨F, rfl⟩ : ∃ F', F = F' + 1 := ⟨F - 1, by omega⟩
    obtain ⟨G, rfl⟩ : ∃ G', G = G' + 1 := ⟨G - 1, by omega⟩
    by_cases g5 : c 0 5 = 0
    · obtain ⟨⟨a1, a2, a3⟩, ⟨b1, b2, b3⟩, b4, b5⟩ := r5 g5
      have w2 : w_k_port_52 c = if c 0 2 ≤ c 0 4 then .inr c else .inl (k_blanks (k_clause c)) := if_pos g5
      have w1 : w_c_readInto_14 e (cs, s, p) = if (c_peek e p).1 = -1 then .inr (cs, s, (c_peek e p).2) else .inl (cs + 1, (c_readClause e s (c_peek e p).2 cs).1, (c_readClause e s (c_peek e p).2 cs).2) := by
        unfold w_c_readInto_14
        dsimp only
        rw [if_neg (by omega), if_neg (by rw [c_fine_1 a1]; decide)]
      have hend := rr_end a2 t
      by_cases gE : c 0 2 ≤ c 0 4
      · rw [if_pos gE] at w2
        rw [if_pos (a3.trans (hend.2 gE))] at w1
        rw [am_wh_r w1, am_wh_r w2]
        exact ⟨a2, fun _ => b4, r1, r3⟩
      · rw [if_neg gE] at w2
        rw [if_neg (fun h => gE (hend.1 (a3.symm.trans h)))] at w1
        rw [am_wh_l w1, am_wh_l w2]
        obtain ⟨⟨k1, k2⟩, k3⟩ := cc_all (s := s) a2 t g5 b4 b5 r1 b2
        obtain ⟨x1, x2⟩ := c_readClause_x a2.2.2.2.2.2.1 t r1 cs
        rw [← b1] at k1 k2
        generalize c_readClause e s (c_peek e p).2 cs = U at *
        have hbx := (k_blanks_x k1.2.2.2.2.2.2).2
        have hKE : KE c0 (k_blanks (k_clause c)) := KE_t r3 (KE_t k3 (KE_D (KD_L hbx)))
        refine ih F G (cs + 1) U.1 U.2 (k_blanks (k_clause c)) (by omega) (by omega) ⟨⟨x1, x2, hKE⟩, fun g => ?_, fun g => ?_⟩
        · exact rr_blF k1 (by rw [k_blanks_5] at g; exact g)
        · have g' : k_clause c 0 5 = 0 := k_blanks_5.symm.trans g
          obtain ⟨q1, q2⟩ := rr_peek k1 t g'
          obtain ⟨q3, q4, q5⟩ := k2 g'
          have e7 : k_blanks (k_clause c) 0 7 = c 0 7 + 1 := (hbx.2 7 (by decide) (by decide) (by decide)).trans (q4.trans (by rw [b1]))
          exact ⟨⟨k1.1.trans g', q1, q2⟩, ⟨by omega, by omega, by omega⟩, HR_L q3 hbx, fun g7 => by omega⟩
    · have w2 : w_k_port_52 c = .inr c := if_neg g5
      have hp : c_fine p = 0 := c_fine_0 (by rw [(r4 g5).1]; exact g5)
      have w1 : w_c_readInto_14 e (cs, s, p) = .inr (cs, s, p) := by
        unfold w_c_readInto_14
        dsimp only
        rw [if_pos hp]
        split <;> rfl
      rw [am_wh_r w1, am_wh_r w2]
      exact ⟨r4 g5, fun g => absurd g g5, r1, r3⟩
/-- the model's start of a text -/
def mSt (c : am_F) (n : Int) : am_F := am_put (am_put (am_put (am_put (am_put (am_put c 0 1 0) 0 2 n) 0 4 0) 0 5 0) 0 6 (-1)) 0 7 0
theorem rr_begin {ee pp c : am_F} {n : Int} (hT : TP ee c) (hn : 0 ≤ n ∧ n ≤ ee 0 7) : RR (am_put ee 0 7 0) (c_begin pp n) (mSt c n) := by
  obtain ⟨t1, t2, t3⟩ := hT
  have e1 : c_begin pp n 0 1 = n := by
    show (if 600 < n then 600 else n) = n
    rw [if_neg (by omega)]
  refine ⟨rfl, rfl, fun _ => rfl, e1, fun j hj => ?_, (c_begin_I (b := pp) (n := n) (by omega)).1, ?_⟩
  · have h2 : mSt c n 0 2 = n := rfl
    rw [h2] at hj
    exact t3 j (by omega)
  · show 0 ≤ (0 : Int) ∧ (0 : Int) ≤ n ∧ n ≤ 600
    omega
theorem rr_tells (c : am_F) : (k_tellsNothing c 3 0 = 6 ∧ k_tellsNothing c 3 1 = 5 ∧ k_tellsNothing c 3 7 = 20 ∧ ∀ j, j < 11 → j ≠ 0 → j ≠ 1 → j ≠ 7 → k_tellsNothing c 3 j = 0) ∧ (∀ j, j < 81 → k_tellsNothing c 5 j = 0) ∧ ∀ k, k ≠ 3 → k ≠ 5 → k_tellsNothing c k = c k := by
  unfold k_tellsNothing
  have h9 := am_fold_inv (P := fun i (x : am_F) => (∀ j : Nat, (j : Int) < i → x 3 j = 0) ∧ ∀ k, k ≠ 3 → x k = c k) (g := g_k_tellsNothing_2) 11 0 c ⟨fun j a => by omega, fun _ _ => rfl⟩ (fun i x a1 a2 hx => by
    unfold g_k_tellsNothing_2
    refine ⟨fun j b1 => ?_, fun k hk => (am_put_kr hk).trans (hx.2 k hk)⟩
    by_cases e : j = i.toNat
    · rw [e, am_put_s]
    · rw [am_put_i e]; exact hx.1 j (by omega))
  generalize am_fold g_k_tellsNothing_2 0 11 c = d at *
  have h8 := am_fold_inv (P := fun i (x : am_F) => (∀ j : Nat, (j : Int) < i → x 5 j = 0) ∧ ∀ k, k ≠ 5 → x k = am_put (am_put (am_put d 3 0 6) 3 1 5) 3 7 20 k) (g := g_k_tellsNothing_47) 81 0 (am_put (am_put (am_put d 3 0 6) 3 1 5) 3 7 20) ⟨fun j a => by omega, fun _ _ => rfl⟩ (fun i x a1 a2 hx => by
    unfold g_k_tellsNothing_47
    refine ⟨fun j b1 => ?_, fun k hk => (am_put_kr hk).trans (hx.2 k hk)⟩
    by_cases e : j = i.toNat
    · rw [e, am_put_s]
    · rw [am_put_i e]; exact hx.1 j (by omega))
  generalize am_fold g_k_tellsNothing_47 0 81 (am_put (am_put (am_put d 3 0 6) 3 1 5) 3 7 20) = f at *
  have e3 : f 3 = am_put (am_put (am_put d 3 0 6) 3 1 5) 3 7 20 3 := h8.2 3 (by decide)
  rw [e3]
  refine ⟨⟨rfl, rfl, rfl, fun j j1 j2 j3 j4 => ?_⟩, fun j hj => h8.1 j (by omega), fun k k3 k5 => ?_⟩
  · rw [am_put_i j4, am_put_i j3, am_put_i j2]
    exact h9.1 j (by omega)
  · rw [h8.2 k k5, am_put_kr k3, am_put_kr k3, am_put_kr k3]
    exact h9.2 k k3
theorem rr_reset (s : am_F) : (c_resetS s 0 0 = 6 ∧ c_resetS s 0 1 = 5 ∧ c_resetS s 0 2 = 20) ∧ (c_resetS s 0 3 = 0 ∧ c_resetS s 0 4 = 0 ∧ c_resetS s 0 5 = 0 ∧ c_resetS s 0 6 = 0 ∧ c_resetS s 0 7 = 0 ∧ c_resetS s 0 8 = 0 ∧ c_resetS s 0 9 = 0 ∧ c_resetS s 0 10 = 0) ∧ ∀ j : Nat, j < 90 → c_resetS s 10 j = -1 ∧ c_resetS s 11 j = 0 := by
  refine ⟨⟨rfl, rfl, rfl⟩, ⟨rfl, rfl, rfl, rfl, rfl, rfl, rfl, rfl⟩, fun j hj => ⟨?_, ?_⟩⟩
  · unfold c_resetS
    rw [ti_row_k (by decide), ti_row_s]
    exact am_fill_at 90 _ _ _ hj
  · unfold c_resetS
    rw [ti_row_s]
    exact am_fill_at 90 _ _ _ hj
/-- a port's text, read by both -/
theorem rr_port {ee pp ss c : am_F} {n : Int} (hT : TP ee c) (t : TpI ee) (hS : SpI ss) (hn : 0 ≤ n ∧ n ≤ ee 0 7) : RR (am_put ee 0 7 0) (c_readInto (am_put ee 0 7 0) ss (c_begin pp n)).2 (am_wh w_k_port_52 62 (k_tellsNothing (am_put (am_put (k_starts c n) 0 56 0) 0 57 0))) ∧ (am_wh w_k_port_52 62 (k_tellsNothing (am_put (am_put (k_starts c n) 0 56 0) 0 57 0)) 0 5 = 0 → HR (c_readInto (am_put ee 0 7 0) ss (c_begin pp n)).1 (am_wh w_k_port_52 62 (k_tellsNothing (am_put (am_put (k_starts c n) 0 56 0) 0 57 0)))) ∧ SpI (c_readInto (am_put ee 0 7 0) ss (c_begin pp n)).1 ∧ KE (am_put (am_put c 0 1 0) 0 2 n) (am_wh w_k_port_52 62 (k_tellsNothing (am_put (am_put (k_starts c n) 0 56 0) 0 57 0))) := by
  have t' : TpI (am_put ee 0 7 0) := fun j => t j
  have h0 := rr_begin (pp := pp) hT hn
  have hX5 : mSt c n 0 5 = 0 := rfl
  obtain ⟨q1, q2⟩ := rr_peek h0 t' hX5
  have eS : k_starts c n = k_blanks (mSt c n) := rfl
  rw [eS]
  have hbx := (k_blanks_x h0.2.2.2.2.2.2).2
  have b5 : k_blanks (mSt c n) 0 5 = 0 := k_blanks_5
  obtain ⟨⟨u1, u2, u3, u4⟩, u5, u6⟩ := rr_tells (am_put (am_put (k_blanks (mSt c n)) 0 56 0) 0 57 0)
  have e0 : ∀ j, j ≠ 56 → j ≠ 57 → k_tellsNothing (am_put (am_put (k_blanks (mSt c n)) 0 56 0) 0 57 0) 0 j = k_blanks (mSt c n) 0 j := fun j j1 j2 => by rw [u6 0 (by decide) (by decide), am_put_i j2, am_put_i j1]
  have z56 : k_tellsNothing (am_put (am_put (k_blanks (mSt c n)) 0 56 0) 0 57 0) 0 56 = 0 := by rw [u6 0 (by decide) (by decide), am_put_i (by decide), am_put_s]
  have z57 : k_tellsNothing (am_put (am_put (k_blanks (mSt c n)) 0 56 0) 0 57 0) 0 57 = 0 := by rw [u6 0 (by decide) (by decide), am_put_s]
  have e1 : k_tellsNothing (am_put (am_put (k_blanks (mSt c n)) 0 56 0) 0 57 0) 1 = k_blanks (mSt c n) 1 := by rw [u6 1 (by decide) (by decide), am_put_kr (by decide), am_put_kr (by decide)]
  have hRR := rr_c (c' := k_tellsNothing (am_put (am_put (k_blanks (mSt c n)) 0 56 0) 0 57 0)) q1 e1 (fun j hj => e0 j (by omega) (by omega))
  have hby : k_byteAt (k_tellsNothing (am_put (am_put (k_blanks (mSt c n)) 0 56 0) 0 57 0)) (k_tellsNothing (am_put (am_put (k_blanks (mSt c n)) 0 56 0) 0 57 0) 0 4) = k_byteAt (k_blanks (mSt c n)) (k_blanks (mSt c n) 0 4) := by
    unfold k_byteAt
    rw [e0 4 (by decide) (by decide), e0 2 (by decide) (by decide), e1]
  have z7 : k_blanks (mSt c n) 0 7 = 0 := (hbx.2 7 (by decide) (by decide) (by decide)).trans rfl
  have hK0 : KE (am_put (am_put c 0 1 0) 0 2 n) (k_tellsNothing (am_put (am_put (k_blanks (mSt c n)) 0 56 0) 0 57 0)) := by
    refine ⟨fun k k0 hk => ?_, fun j j4 j5 j6 j7 j56 j57 => ?_⟩
    · rw [u6 k (fun e => hk (by unfold rdw; omega)) (fun e => hk (by unfold rdw; omega)), am_put_kr k0, am_put_kr k0, hbx.1 k k0]
      unfold mSt
      rw [am_put_kr k0, am_put_kr k0, am_put_kr k0, am_put_kr k0]
    · rw [e0 j j56 j57, hbx.2 j j4 j5 j6]
      unfold mSt
      rw [am_put_i j7, am_put_i j6, am_put_i j5, am_put_i j4]
  generalize k_tellsNothing (am_put (am_put (k_blanks (mSt c n)) 0 56 0) 0 57 0) = C at *
  obtain ⟨⟨s0, s1, s2⟩, s3, s4⟩ := rr_reset ss
  have hS9 : SpI (c_resetS ss) := c_resetS_I hS
  have hPD : PD (c_resetS ss) C := by
    unfold PD
    rw [s0, s1, s2, u1, u2, u3]
    decide
  have hEm : Em (c_resetS ss) C := ⟨s3, ⟨z56, z57⟩, ⟨u4 2 (by decide) (by decide) (by decide) (by decide), u4 3 (by decide) (by decide) (by decide) (by decide), u4 4 (by decide) (by decide) (by decide) (by decide), u4 5 (by decide) (by decide) (by decide) (by decide), u4 6 (by decide) (by decide) (by decide) (by decide), u4 8 (by decide) (by decide) (by decide) (by decide), u4 9 (by decide) (by decide) (by decide) (by decide), u4 10 (by decide) (by decide) (by decide) (by decide)⟩, s4, u5⟩
  have c5 : C 0 5 = 0 := (e0 5 (by decide) (by decide)).trans b5
  have c7 : C 0 7 = 0 := (e0 7 (by decide) (by decide)).trans z7
  exact rr_loop (c0 := am_put (am_put c 0 1 0) 0 2 n) t' 61 601 62 0 (c_resetS ss) (c_begin pp n) C (by decide) (by decide) ⟨⟨hS9, h0.2.2.2.2.2.1, hK0⟩, fun g => absurd c5 g, fun _ => ⟨⟨rfl, hRR, q2.trans hby.symm⟩, ⟨c7.symm, by omega, by omega⟩, HR_Em hEm hPD, fun _ => hEm⟩⟩
