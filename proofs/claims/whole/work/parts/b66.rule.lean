/-! THE TIE: a rule's text is read -/
theorem PG_L {e v k c k' c' : am_F} (h : PG e v k c) (hR : RR e k' c') (hl : Lx c c') (h5 : c' 0 5 = 0 → c 0 5 = 0) : PG e v k' c' := by
  obtain ⟨-, h2, h3⟩ := h
  refine ⟨hR, h2, fun g => ?_⟩
  obtain ⟨⟨a1, a2, a3, a4⟩, a5, a6⟩ := h3 (h5 g)
  have e47 : c' 0 47 = c 0 47 := hl.2 47 (by decide) (by decide) (by decide)
  have e49 : c' 0 49 = c 0 49 := hl.2 49 (by decide) (by decide) (by decide)
  have e50 : c' 0 50 = c 0 50 := hl.2 50 (by decide) (by decide) (by decide)
  rw [e47, e49, e50]
  refine ⟨⟨a1, a2, a3, a4⟩, fun i hi => by rw [hl.1 _ (by omega)]; exact a5 i hi, fun p p0 p1 => ?_⟩
  rw [hl.1 (278 + p.toNat) (by omega)]
  obtain ⟨b1, b2, b, b3, b4⟩ := a6 p p0 p1
  exact ⟨b1, b2, b, XX_c (fun i _ _ => by rw [hl.1 _ (by omega)]) b3, b4⟩
def LpG (e : am_F) (μ : Nat) (cs : Int) (v k c0 c : am_F) : Prop := (RvI v ∧ RdI k ∧ KR c0 c ∧ MI c ∧ 0 ≤ c 0 47 ∧ c 0 47 ≤ 8) ∧ (c 0 5 ≠ 0 → PG e v k c) ∧ (c 0 5 = 0 → (k 0 4 = 0 ∧ PG e v (c_peek e k).2 c ∧ (c_peek e k).1 = k_byteAt c (c 0 4)) ∧ cs = c 0 47 ∧ k_blanks c = c ∧ c 0 2 - c 0 4 ≤ μ)
theorem pp_loop {e c0 : am_F} (t : TpI e) : ∀ (μ F G : Nat) (cs : Int) (v k c : am_F), μ < F → μ < G → LpG e μ cs v k c0 c → PG e (am_wh (w_c_ruleInto_14 e) F (cs, v, k)).2.1 (am_wh (w_c_ruleInto_14 e) F (cs, v, k)).2.2 (am_wh w_k_rule_60 G c) ∧ KR c0 (am_wh w_k_rule_60 G c) ∧ MI (am_wh w_k_rule_60 G c) := by
  intro μ
  induction μ using Nat.strongRecOn with
  | _ μ ih =>
    intro F G cs v k c hF hG hR
    obtain ⟨⟨r1, r2, r3, r4, r6⟩, r7, r5⟩ := hR
    obtain ⟨F, rfl⟩ : ∃ F', F = F' + 1 := ⟨F - 1, by omega⟩
    obtain ⟨G, rfl⟩ : ∃ G', G = G' + 1 := ⟨G - 1, by omega⟩
    by_cases g5 : c 0 5 = 0
    · obtain ⟨⟨a1, a2, a3⟩, b1, b2, b3⟩ := r5 g5
      have w2 : w_k_rule_60 c = if c 0 2 ≤ c 0 4 then .inr c else .inl (k_blanks (k_partHere c)) := if_pos g5
      have w1 : w_c_ruleInto_14 e (cs, v, k) = if (c_peek e k).1 = -1 then .inr (cs, v, (c_peek e k).2) else .inl (cs + 1, (c_readPart e v (c_peek e k).2 cs).1, (c_readPart e v (c_peek e k).2 cs).2) := by
        unfold w_c_ruleInto_14
        dsimp only
        rw [if_neg (by omega), if_neg (by rw [c_fine_1 a1]; decide)]
      have hend := rr_end a2.1 t
      by_cases gE : c 0 2 ≤ c 0 4
      · rw [if_pos gE] at w2
        rw [if_pos (a3.trans (hend.2 gE))] at w1
        rw [am_wh_r w1, am_wh_r w2]
        exact ⟨a2, r3, r4⟩
      · rw [if_neg gE] at w2
        rw [if_neg (fun h => gE (hend.1 (a3.symm.trans h)))] at w1
        rw [am_wh_l w1, am_wh_l w2]
        obtain ⟨k1, k2, k3⟩ := pp_part t r4 a2 g5 b2
        obtain ⟨x1, x2⟩ := c_readPart_x t r1 a2.1.2.2.2.2.2.1 cs
        obtain ⟨m1, m2, m3, m4⟩ := k_partHere_x r4 r6
        rw [← b1] at k1
        generalize c_readPart e v (c_peek e k).2 cs = U at *
        generalize k_partHere c = D at *
        obtain ⟨y1, y2, y3, y4, y5⟩ := MI_blanks m1
        have hbx := (k_blanks_x m1.1).2
        refine ih (μ - 1) (by omega) F G (cs + 1) U.1 U.2 (k_blanks D) (by omega) (by omega) ⟨⟨x1, x2, KR_t r3 (KR_t k3 (KR_L hbx)), y1, by rw [y2]; exact m2⟩, fun g => ?_, fun g => ?_⟩
        · exact PG_L k1 (rr_blF k1.1 (by rw [← y3]; exact g)) hbx (fun g' => absurd g' g)
        · have g' : D 0 5 = 0 := y3.symm.trans g
          obtain ⟨q1, q2⟩ := rr_peek k1.1 t g'
          have h8 := m4 g'
          have h9 := y5 g'
          exact ⟨⟨k1.1.1.trans g', PG_L k1 q1 hbx (fun _ => g'), q2⟩, by rw [y2, k2 g', b1], rr_bb2 m1.1, by omega⟩
    · have w2 : w_k_rule_60 c = .inr c := if_neg g5
      have hp : c_fine k = 0 := c_fine_0 (by rw [(r7 g5).1.1]; exact g5)
      have w1 : w_c_ruleInto_14 e (cs, v, k) = .inr (cs, v, k) := by
        unfold w_c_ruleInto_14
        dsimp only
        rw [if_pos hp]
        split <;> rfl
      rw [am_wh_r w1, am_wh_r w2]
      exact ⟨r7 g5, r3, r4⟩
/-- the model behind a rule's text -/
def mRu (c : am_F) (n : Int) : am_F := am_wh w_k_rule_60 602 (am_put (am_put (am_put (k_starts c n) 0 47 0) 0 49 0) 0 50 0)
theorem pp_rule {ee vv kk c : am_F} {n : Int} (hT : TP ee c) (t : TpI ee) (hV : RvI vv) (hn : 0 ≤ n ∧ n ≤ ee 0 7) (h200 : n ≤ 200) : PG (am_put ee 0 7 0) (c_ruleInto (am_put ee 0 7 0) vv (c_begin kk n)).1 (c_ruleInto (am_put ee 0 7 0) vv (c_begin kk n)).2 (mRu c n) ∧ MI (mRu c n) ∧ (∀ k, k ≠ 0 → k < 508 → ¬ (278 ≤ k ∧ k < 286) → mRu c n k = c k) ∧ (∀ j, j ≠ 1 → j ≠ 2 → j ≠ 4 → j ≠ 5 → j ≠ 6 → j ≠ 7 → j ≠ 47 → j ≠ 49 → j ≠ 50 → mRu c n 0 j = c 0 j) ∧ mRu c n 0 1 = 0 := by
  have t' : TpI (am_put ee 0 7 0) := fun j => t j
  have h0 := rr_begin (pp := kk) hT hn
  have hX5 : mSt c n 0 5 = 0 := rfl
  obtain ⟨q1, q2⟩ := rr_peek h0 t' hX5
  have hVS := h0.2.2.2.2.2.2
  have hbx := (k_blanks_x hVS).2
  have hbb := rr_bb2 hVS
  have b5 : k_blanks (mSt c n) 0 5 = 0 := k_blanks_5
  have b2 : k_blanks (mSt c n) 0 2 = n := hbx.2 2 (by decide) (by decide) (by decide)
  have b1 : k_blanks (mSt c n) 0 1 = 0 := hbx.2 1 (by decide) (by decide) (by decide)
  have hBV : RdV (k_blanks (mSt c n)) := (k_blanks_x hVS).1
  have hMI := MI_start hBV (by rw [b2]; exact h200)
  have hKs : ∀ k, k ≠ 0 → k_blanks (mSt c n) k = c k := fun k k0 => by
    rw [hbx.1 k k0]
    unfold mSt
    rw [am_put_kr k0, am_put_kr k0, am_put_kr k0, am_put_kr k0, am_put_kr k0, am_put_kr k0]
  have hJs : ∀ j, j ≠ 1 → j ≠ 2 → j ≠ 4 → j ≠ 5 → j ≠ 6 → j ≠ 7 → k_blanks (mSt c n) 0 j = c 0 j := fun j j1 j2 j4 j5 j6 j7 => by
    rw [hbx.2 j j4 j5 j6]
    unfold mSt
    rw [am_put_i j7, am_put_i j6, am_put_i j5, am_put_i j4, am_put_i j2, am_put_i j1]
  have hbb3 : k_byteAt (k_blanks (mSt c n)) (k_blanks (mSt c n) 0 4) ≠ 32 := rr_nob2 hVS
  have eM : mRu c n = am_wh w_k_rule_60 602 (am_put (am_put (am_put (k_blanks (mSt c n)) 0 47 0) 0 49 0) 0 50 0) := rfl
  have eI : c_ruleInto (am_put ee 0 7 0) vv (c_begin kk n) = ((am_wh (w_c_ruleInto_14 (am_put ee 0 7 0)) 201 (0, am_put (am_put vv 0 0 0) 0 1 0, c_begin kk n)).2.1, (am_wh (w_c_ruleInto_14 (am_put ee 0 7 0)) 201 (0, am_put (am_put vv 0 0 0) 0 1 0, c_begin kk n)).2.2) := rfl
  rw [eM, eI]
  have hk1 : c_begin kk n 0 4 = 0 := rfl
  have hRk := h0.2.2.2.2.2.1
  generalize k_blanks (mSt c n) = B at *
  generalize c_begin kk n = K at *
  have e0 : ∀ j, j ≠ 47 → j ≠ 49 → j ≠ 50 → am_put (am_put (am_put B 0 47 0) 0 49 0) 0 50 0 0 j = B 0 j := fun j j1 j2 j3 => by rw [am_put_i j3, am_put_i j2, am_put_i j1]
  have ek : ∀ k, k ≠ 0 → am_put (am_put (am_put B 0 47 0) 0 49 0) 0 50 0 k = B k := fun k k0 => by rw [am_put_kr k0, am_put_kr k0, am_put_kr k0]
  have e47 : am_put (am_put (am_put B 0 47 0) 0 49 0) 0 50 0 0 47 = 0 := by rw [am_put_i (by decide), am_put_i (by decide), am_put_s]
  have e49 : am_put (am_put (am_put B 0 47 0) 0 49 0) 0 50 0 0 49 = 0 := by rw [am_put_i (by decide), am_put_s]
  have e50 : am_put (am_put (am_put B 0 47 0) 0 49 0) 0 50 0 0 50 = 0 := am_put_s
  generalize am_put (am_put (am_put B 0 47 0) 0 49 0) 0 50 0 = C at *
  have hRR : RR (am_put ee 0 7 0) (c_peek (am_put ee 0 7 0) K).2 C := rr_c q1 (ek 1 (by decide)) (fun j hj => e0 j (by omega) (by omega) (by omega))
  have hby : k_byteAt C (C 0 4) = k_byteAt B (B 0 4) := by
    unfold k_byteAt
    rw [e0 4 (by decide) (by decide) (by decide), e0 2 (by decide) (by decide) (by decide), ek 1 (by decide)]
  have hv0 : RvI (am_put (am_put vv 0 0 0) 0 1 0) := f_rreset_I hV.1
  have v00 : am_put (am_put vv 0 0 0) 0 1 0 0 0 = 0 := by rw [am_put_i (by decide), am_put_s]
  have v01 : am_put (am_put vv 0 0 0) 0 1 0 0 1 = 0 := am_put_s
  generalize am_put (am_put vv 0 0 0) 0 1 0 = v at *
  have hPG : PG (am_put ee 0 7 0) v (c_peek (am_put ee 0 7 0) K).2 C := ⟨hRR, hv0, fun _ => ⟨⟨⟨by rw [v00, e47], by omega, by omega⟩, by rw [v01, e49], e50, by unfold f_fr; rw [if_neg (by omega), e49]⟩, fun i hi => by omega, fun p p0 p1 => by omega⟩⟩
  have c5 : C 0 5 = 0 := (e0 5 (by decide) (by decide) (by decide)).trans b5
  have c2 : C 0 2 = n := (e0 2 (by decide) (by decide) (by decide)).trans b2
  have hCb : k_blanks C = C := rr_bb (by rw [hby]; exact hbb3)
  have hC4 := hMI.1.1
  obtain ⟨l1, l2, l3⟩ := pp_loop (c0 := C) t' 200 201 602 0 v K C (by decide) (by decide) ⟨⟨hv0, hRk, ⟨fun _ _ _ _ => rfl, fun _ _ _ _ _ _ _ => rfl⟩, hMI, by omega, by omega⟩, fun g => absurd c5 g, fun _ => ⟨⟨hk1, hPG, q2.trans hby.symm⟩, e47.symm, hCb, by omega⟩⟩
  refine ⟨l1, l3, fun k k0 k1 k2 => ?_, fun j j1 j2 j4 j5 j6 j7 j47 j49 j50 => ?_, ?_⟩
  · rw [l2.1 k k0 k1 k2, ek k k0, hKs k k0]
  · rw [l2.2 j j4 j5 j6 j47 j49 j50, e0 j j47 j49 j50, hJs j j1 j2 j4 j5 j6 j7]
  · rw [l2.2 1 (by decide) (by decide) (by decide) (by decide) (by decide) (by decide), e0 1 (by decide) (by decide) (by decide), b1]
/-- what is read of a rule leaves all but the rule -/
def KRu (c c' : am_F) : Prop := (∀ k, k ≠ 0 → k < 269 → c' k = c k) ∧ ∀ j, ¬ (1 ≤ j ∧ j ≤ 7) → ¬ (46 ≤ j ∧ j ≤ 50) → c' 0 j = c 0 j
/-- a rule's codes end in time -/
def RB (c : am_F) : Prop := ∀ p : Int, 0 ≤ p → p < c 0 46 → c (269 + p.toNat) 2 ≤ 200
theorem RuC_c {u c c' : am_F} (h1 : ∀ k, 269 ≤ k → k < 278 → c' k = c k) (h2 : ∀ k, 287 ≤ k → k < 508 → c' k = c k) (h3 : c' 0 46 = c 0 46) (hU : RuC u c) (hB : RB c) : RuC u c' ∧ RB c' := by
  obtain ⟨a1, a2⟩ := hU
  unfold RuC RB
  rw [h3]
  refine ⟨⟨a1, fun p p0 p1 => ?_⟩, fun p p0 p1 => ?_⟩
  · rw [h1 (269 + p.toNat) (by omega) (by omega)]
    obtain ⟨b1, b2, b3, ⟨g, b, n, b4, b5, b6⟩, b7⟩ := a2 p p0 p1
    have l9 := XE_lt g b5
    have l8 := hB p p0 p1
    refine ⟨b1, b2, b3, ⟨g, b, n, b4, XE_c g (fun k k0 k1 => by rw [h2 _ (by omega) (by omega)]) b5, b6⟩, fun k k0 k1 => ?_⟩
    rw [h2 (287 + k.toNat) (by omega) (by omega)]
    exact b7 k k0 k1
  · rw [h1 (269 + p.toNat) (by omega) (by omega)]
    exact hB p p0 p1
theorem dp_XE {c : am_F} {s : Int} (hs : 0 ≤ s) : ∀ (g : Nat) {b : Bool} {n : Nat} {i j : Int}, XE c g b n i j → s ≤ i → k_dp c s (j - s).toNat = k_dp c s (i - s).toNat + 1 ∧ ∀ k : Int, i ≤ k → k < j → (k_dp c s (i - s).toNat ≤ k_dp c s (k - s).toNat ∧ k_dp c s (k - s).toNat ≤ k_dp c s (i - s).toNat + n) ∧ (2 ≤ c (287 + k.toNat) 0 → k_dp c s (i - s).toNat + 1 ≤ k_dp c s (k - s).toNat ∧ (c (287 + k.toNat) 0 ≠ 9 → k_dp c s (i - s).toNat + 2 ≤ k_dp c s (k - s).toNat)) := by
  intro g
  induction g with
  | zero => intro b n i j h; exact h.elim
  | succ g ih =>
    intro b n i j h hi
    obtain ⟨h0, h⟩ := h
    have bin : ∀ {b1 b2 : Bool} {a k : Int} {m9 : Nat}, XE c g b1 n i a → XE c g b2 m9 a k → m9 + 1 ≤ n → j = k + 1 → (2 ≤ c (287 + k.toNat) 0 ∧ c (287 + k.toNat) 0 ≠ 9) → k_dp c s (j - s).toNat = k_dp c s (i - s).toNat + 1 ∧ ∀ k : Int, i ≤ k → k < j → (k_dp c s (i - s).toNat ≤ k_dp c s (k - s).toNat ∧ k_dp c s (k - s).toNat ≤ k_dp c s (i - s).toNat + n) ∧ (2 ≤ c (287 + k.toNat) 0 → k_dp c s (i - s).toNat + 1 ≤ k_dp c s (k - s).toNat ∧ (c (287 + k.toNat) 0 ≠ 9 → k_dp c s (i - s).toNat + 2 ≤ k_dp c s (k - s).toNat)) := by
      intro b1 b2 a k m9 x1 x2 hm hj hc
      subst hj
      have l1 := XE_lt g x1
      have l2 := XE_lt g x2
      obtain ⟨u1, u2⟩ := ih x1 hi
      obtain ⟨v1, v2⟩ := ih x2 (by omega)
      have e1 := k_dp_s (c := c) (s := s) (i := k) (by omega)
      rw [if_neg (by omega), if_neg hc.2] at e1
      refine ⟨by omega, fun k' a1 a2 => ?_⟩
      by_cases g1 : k' < a
      · exact u2 k' a1 g1
      · by_cases g2 : k' < k
        · obtain ⟨⟨w1, w2⟩, w3⟩ := v2 k' (by omega) g2
          refine ⟨⟨by omega, by omega⟩, fun w4 => ?_⟩
          obtain ⟨w5, w6⟩ := w3 w4
          exact ⟨by omega, fun w7 => by have := w6 w7; omega⟩
        · have e2 : k' = k := by omega
          subst e2
          exact ⟨⟨by omega, by omega⟩, fun _ => ⟨by omega, fun _ => by omega⟩⟩
    rcases h with ⟨hb, h1, hn, rfl⟩ | ⟨a, k, m9, x1, x2, hm9, hj, hc⟩ | ⟨hb, k, x1, h9, rfl⟩ | ⟨hb, a, k, m9, x1, x2, hm9, hj, hc⟩
    · have e1 := k_dp_s (c := c) (s := s) (i := i) hi
      rw [if_pos h1] at e1
      refine ⟨e1, fun k a1 a2 => ?_⟩
      have e2 : k = i := by omega
      subst e2
      exact ⟨⟨by omega, by omega⟩, fun h2 => by omega⟩
    · exact bin x1 x2 hm9 hj ⟨by omega, by omega⟩
    · have l1 := XE_lt g x1
      obtain ⟨u1, u2⟩ := ih x1 hi
      have e1 := k_dp_s (c := c) (s := s) (i := k) (by omega)
      rw [if_neg (by omega), if_pos h9] at e1
      refine ⟨by omega, fun k' a1 a2 => ?_⟩
      by_cases g1 : k' < k
      · exact u2 k' a1 g1
      · have e2 : k' = k := by omega
        subst e2
        exact ⟨⟨by omega, by omega⟩, fun _ => ⟨by omega, fun h8 => absurd h9 h8⟩⟩
    · exact bin x1 x2 hm9 hj ⟨by omega, by omega⟩
theorem RuC_P {u c : am_F} (hU : RuC u c) (hB : RB c) : MdP c := by
  refine ⟨hU.1.2, fun p p0 p1 => ?_⟩
  obtain ⟨-, -, -, ⟨g, b, n, b4, b5, -⟩, -⟩ := hU.2 p p0 p1
  have l9 := XE_lt g b5
  have l8 := hB p p0 p1
  refine ⟨⟨by omega, by omega, by omega⟩, fun m hm => ?_⟩
  obtain ⟨-, h2⟩ := dp_XE l9.1 g b5 (Int.le_refl _)
  have h3 := h2 (c (269 + p.toNat) 1 + m) (by omega) hm
  rw [show (c (269 + p.toNat) 1 + (m : Int) - c (269 + p.toNat) 1).toNat = m by omega, show (c (269 + p.toNat) 1 - c (269 + p.toNat) 1).toNat = 0 by omega] at h3
  have e0 : k_dp c (c (269 + p.toNat) 1) 0 = 0 := rfl
  rw [e0] at h3
  obtain ⟨⟨w1, w2⟩, w3⟩ := h3
  exact ⟨⟨w1, by omega⟩, fun w4 => ⟨by have := (w3 w4).1; omega, fun w5 => by have := (w3 w4).2 w5; omega⟩⟩
