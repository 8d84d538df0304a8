/-! THE TIE: the start of a sale by rule; ruled, brings -/
def RS (c u0 q0 : am_F) (k t th : Int) (i : Int) (x : am_F × am_F) (y : am_F) : Prop := (∀ j, j ≠ 4 → x.1 j = u0 j) ∧ AuR x.2 c k t th th ∧ (∀ m : Int, 0 ≤ m → m < i → (x.2 5 m.toNat ≠ 0 ↔ c (133 + m.toNat) 0 = k ∧ ti_Lv c t th m ≠ 0) ∧ (x.2 5 m.toNat ≠ 0 → x.2 2 m.toNat = ti_Fv c t th m)) ∧ ((∀ m : Int, i ≤ m → m < 12 → x.2 5 m.toNat = 0) ∧ ∀ m : Nat, m < 12 → x.2 3 m = 0 ∧ x.2 4 m = 0) ∧ (∀ m : Int, 0 ≤ m → m < i → y 732 m.toNat = 0 ∧ y 733 m.toNat = 0) ∧ ∀ j, j ≠ 732 → j ≠ 733 → y j = q0 j
theorem ti_ruleStep {c u0 q0 b : am_F} {k t th : Int} (hb : BC b c) (hU : RuC u0 c) (h12 : 0 ≤ c 0 30 ∧ c 0 30 ≤ 12) {i : Int} {x : am_F × am_F} {y : am_F} (hi : 0 ≤ i ∧ i < c 0 30) (hR : RS c u0 q0 k t th i x y) : RS c u0 q0 k t th (i + 1) (g_c_sellByRule_6 b i x) (g_k_rules_16 i y) := by
  obtain ⟨uu, aa⟩ := x
  obtain ⟨r1, r2, r3, ⟨r4, r5⟩, r6, r7⟩ := hR
  dsimp only at r1 r2 r3 r4 r5 r6 r7
  have hUu : RuC uu c := RuC_4 r1 hU
  obtain ⟨m1, m2, m3⟩ := hb.2.1.2 i hi.1 hi.2
  have Lk : ∀ m, m ≠ 1 → f_look aa (b 0 2) (b 1) i m = aa m := fun m hm => by
    unfold f_look
    rw [am_put_kr hm, am_put_kr hm, am_put_kr hm]
  have L1j : ∀ j, j ≠ 1 → j ≠ 2 → j ≠ 7 → f_look aa (b 0 2) (b 1) i 1 j = aa 1 j := fun j j1 j2 j7 => by
    unfold f_look
    rw [am_put_i j2, am_put_i j1, am_put_i j7]
  have L2 : f_look aa (b 0 2) (b 1) i 1 2 = c (133 + i.toNat) 2 := by rw [← m3]; exact am_put_s
  have hf := fun hk => ti_facts hb r2 hi hk
  have key : ∀ (U : am_F) (A : am_F) (V W : Int), (∀ m, m ≠ 1 → A m = aa m) → (∀ j, j ≠ 1 → j ≠ 2 → j ≠ 7 → A 1 j = aa 1 j) → (∀ j, j ≠ 4 → U j = u0 j) → (V ≠ 0 ↔ c (133 + i.toNat) 0 = k ∧ ti_Lv c t th i ≠ 0) → (V ≠ 0 → W = ti_Fv c t th i) → RS c u0 q0 k t th (i + 1) (U, am_put (am_put A 5 i.toNat V) 2 i.toNat W) (g_k_rules_16 i y) := by
    intro U A V W ha ha1 hu hV hW
    have e1 : ∀ j, j ≠ 1 → j ≠ 2 → j ≠ 7 → am_put (am_put A 5 i.toNat V) 2 i.toNat W 1 j = aa 1 j := fun j j1 j2 j7 => by
      rw [am_put_k (by decide), am_put_k (by decide), ha1 j j1 j2 j7]
    have e3 : ∀ m, m ≠ 1 → m ≠ 2 → m ≠ 5 → am_put (am_put A 5 i.toNat V) 2 i.toNat W m = aa m := fun m h1 h2 h5 => by
      rw [am_put_kr h2, am_put_kr h5, ha m h1]
    have e5 : ∀ j, am_put (am_put A 5 i.toNat V) 2 i.toNat W 5 j = am_put A 5 i.toNat V 5 j := fun j => am_put_k (by decide)
    refine ⟨hu, ⟨?_, fun j a1 a2 a3 => ?_⟩, fun m a1 a2 => ⟨?_, fun g => ?_⟩, ⟨fun m a1 a2 => ?_, fun m a1 => ?_⟩, fun m a1 a2 => ⟨?_, ?_⟩, fun j j2 j3 => ?_⟩
    · dsimp only
      rw [e1 0 (by decide) (by decide) (by decide), e1 3 (by decide) (by decide) (by decide), e1 4 (by decide) (by decide) (by decide), e1 5 (by decide) (by decide) (by decide), e1 6 (by decide) (by decide) (by decide)]
      exact r2.1
    · dsimp only
      rw [e1 8 (by decide) (by decide) (by decide)]
      exact r2.2 j a1 a2 a3
    · dsimp only
      rw [e5]
      by_cases e : m = i
      · rw [e, am_put_s]; exact hV
      · rw [am_put_i (by omega), ha 5 (by decide)]; exact (r3 m a1 (by omega)).1
    · dsimp only at g ⊢
      rw [e5] at g
      by_cases e : m = i
      · rw [e, am_put_s] at g
        rw [e, am_put_s]; exact hW g
      · rw [am_put_i (by omega), ha 5 (by decide)] at g
        rw [am_put_i (by omega), am_put_k (by decide), ha 2 (by decide)]; exact (r3 m a1 (by omega)).2 g
    · dsimp only
      rw [e5, am_put_i (by omega), ha 5 (by decide)]
      exact r4 m (by omega) a2
    · dsimp only
      rw [e3 3 (by decide) (by decide) (by decide), e3 4 (by decide) (by decide) (by decide)]
      exact r5 m a1
    · unfold g_k_rules_16
      rw [am_put_k (by decide)]
      by_cases e : m = i
      · rw [e, am_put_s]
      · rw [am_put_i (by omega)]; exact (r6 m a1 (by omega)).1
    · unfold g_k_rules_16
      by_cases e : m = i
      · rw [e, am_put_s]
      · rw [am_put_i (by omega), am_put_k (by decide)]; exact (r6 m a1 (by omega)).2
    · unfold g_k_rules_16
      rw [am_put_kr j3, am_put_kr j2]; exact r7 j j2 j3
  generalize hA : f_look aa (b 0 2) (b 1) i = A at Lk L1j L2 hf
  have e0 : A 1 0 = k := (L1j 0 (by decide) (by decide) (by decide)).trans r2.1.1
  unfold g_c_sellByRule_6
  dsimp only
  rw [hA, m1, e0]
  by_cases g : c (133 + i.toNat) 0 = k
  · have hF := hf g
    obtain ⟨l1, l2, -⟩ := ti_isLetV (q := fun _ _ => 0) hUu hF
    have l1' : (c_isLetIn uu A).1 = ti_Lv c t th i := l1
    have l2' : ∀ j, j ≠ 4 → (c_isLetIn uu A).2 j = uu j := l2
    rw [if_pos g, if_pos g, am_put_s, l1']
    by_cases g2 : ti_Lv c t th i = 0
    · rw [if_pos g2, if_pos rfl, if_pos rfl]
      exact key _ _ _ _ Lk L1j (fun j hj => (l2' j hj).trans (r1 j hj)) ⟨fun h => absurd rfl h, fun h => absurd g2 h.2⟩ (fun h => absurd rfl h)
    · rw [if_neg g2, if_neg (by decide), if_neg (by decide)]
      have eP : am_put A 5 i.toNat 1 1 = A 1 := am_put_kr (by decide)
      obtain ⟨s1, s2, -⟩ := ti_firstV (q := fun _ _ => 0) (RuC_4 l2' hUu) hF
      have s1' : (c_standing (c_isLetIn uu A).2 (am_put A 5 i.toNat 1)).1 = ti_Fv c t th i := by
        unfold c_standing
        dsimp only
        rw [eP, L2]
        exact s1
      have s2' : ∀ j, j ≠ 4 → (c_standing (c_isLetIn uu A).2 (am_put A 5 i.toNat 1)).2 j = (c_isLetIn uu A).2 j := by
        unfold c_standing
        dsimp only
        rw [eP, L2]
        exact s2
      exact key _ _ _ _ Lk L1j (fun j hj => ((s2' j hj).trans (l2' j hj)).trans (r1 j hj)) ⟨fun _ => ⟨g, g2⟩, fun _ => (by decide)⟩ (fun _ => s1')
  · rw [if_neg g, if_neg g, am_put_s, if_pos rfl, if_pos rfl]
    exact key _ _ _ _ Lk L1j r1 ⟨fun h => absurd rfl h, fun h => absurd h.1 g⟩ (fun h => absurd rfl h)
/-- a sale by rule on both sides -/
theorem ti_rules {h c r b aa q uu : am_F} {k t : Int} (hC : HC h c) (hB : BaseI h c r) (hb : BC b c) (hU : RuC uu c) (hk : 0 ≤ k ∧ k < c 4 3) (ht : 0 ≤ t ∧ t < 40) : BaseI h c (c_sellRule h uu r aa b k t).2.1 ∧ (∀ j, j ≠ 4 → (c_sellRule h uu r aa b k t).1 j = uu j) ∧ (∀ i : Int, 0 ≤ i → i < c 0 30 → f_got (c_sellRule h uu r aa b k t).2.2 i = k_rules c (k_goes c q) k t 732 i.toNat ∧ f_paid (c_sellRule h uu r aa b k t).2.2 i = k_rules c (k_goes c q) k t 733 i.toNat) ∧ ∀ j, j ≠ 728 → j ≠ 732 → j ≠ 733 → k_rules c (k_goes c q) k t j = k_goes c q j := by
  have hV := hC.2.1
  have h12 := hV.2.2.2.2.2.2.2.2.2.2.2.2.1
  obtain ⟨u1, u2⟩ := ti_tellAu (aa := aa) (q := q) hC hB hb hk ht
  unfold c_sellRule k_rules
  dsimp only
  generalize k_goes c q = Q at *
  generalize c_tellAuction h r aa b k t = U at u1 u2
  generalize k_yardsOf c Q k t = th at u2
  unfold c_sellByRule
  dsimp only
  have hAw := ti_away U.2
  have h0 : RS c uu Q k t th 0 (uu, f_away U.2) Q := by
    refine ⟨fun _ _ => rfl, ?_, fun m a1 a2 => by omega, ⟨fun m a1 a2 => (hAw.1 m.toNat (by omega)).2.2, fun m a1 => ⟨(hAw.1 m a1).1, (hAw.1 m a1).2.1⟩⟩, fun m a1 a2 => by omega, fun _ _ _ => rfl⟩
    unfold AuR
    dsimp only
    rw [hAw.2 1 (by decide) (by decide) (by decide)]
    exact u2
  have h1 := ti_rel (R := RS c uu Q k t th) (f := g_c_sellByRule_6 b) (g := g_k_rules_16) (c 0 30).toNat 0 (uu, f_away U.2) Q h0 (fun j x y a1 a2 hR => ti_ruleStep hb hU h12 ⟨a1, by omega⟩ hR)
  rw [show (b 0 2).toNat = (c 0 30).toNat by rw [hb.2.1.1]]
  rw [show (0 : Int) + ((c 0 30).toNat : Int) = c 0 30 by omega] at h1
  generalize am_fold (g_c_sellByRule_6 b) 0 (c 0 30).toNat (uu, f_away U.2) = X at h1
  generalize am_fold g_k_rules_16 0 (c 0 30).toNat Q = Y at h1
  obtain ⟨r1, r2, r3, ⟨r4, r5⟩, r6, r7⟩ := h1
  have h2 : RU c uu Q k t th (0, X.1, X.2) (th, 0, Y) := by
    refine ⟨r1, r2, ⟨fun i a1 a2 => ?_, fun i a1 a2 a3 => (r3 i a1 a2).2 a3, r4⟩, fun i a1 a2 => ⟨?_, ?_⟩, fun j _ j2 j3 => r7 j j2 j3⟩
    · dsimp only
      exact (r3 i a1 a2).1.trans ⟨fun h => ⟨ti_bv0 i, h⟩, fun h => h.2⟩
    · dsimp only
      rw [(r5 i.toNat (by omega)).1, (r6 i a1 a2).1]
    · dsimp only
      rw [(r5 i.toNat (by omega)).2, (r6 i a1 a2).2]
  have h3 := ti_ruleLoop hb hU h12 12 0 X.1 X.2 (th, 0, Y) 13 (by decide) (by decide) (ti_cnt_le _ _) (by decide) h2
  generalize am_wh (w_c_sellByRule_92 b) (12 + 1) (0, X.1, X.2) = A at h3
  generalize am_wh (w_k_rules_47 c k t th) 13 (th, 0, Y) = B at h3
  obtain ⟨s1, s2, s3, s4, s5⟩ := h3
  refine ⟨u1, s1, fun i a1 a2 => ⟨?_, ?_⟩, s5⟩
  · unfold f_got
    rw [if_pos (by omega)]; exact (s4 i a1 a2).1
  · unfold f_paid
    rw [if_pos (by omega)]; exact (s4 i a1 a2).2
theorem KQ_rules {e c Q q' : am_F} (h : ∀ j, j ≠ 728 → j ≠ 732 → j ≠ 733 → q' j = Q j) (hR : RE e Q) : RE e q' ∧ q' 0 0 = Q 0 0 := ⟨fun j hj => by rw [h 2 (by decide) (by decide) (by decide)]; exact hR j hj, by rw [h 0 (by decide) (by decide) (by decide)]⟩
theorem to_ruled {e h c r q aa b uu : am_F} {i t w : Int} (hC : HC h c) (hB : BaseI h c r) (hR : RE e q) (hb : BC b c) (hU : RuC uu c) : TO 2 (c_ruled e h uu r aa b i t w).1 (c_ruled e h uu r aa b i t w).2.1 e (c_ruled e h uu r aa b i t w).2.2.1 (k_ruled c q i t w).1 (k_ruled c q i t w).2 ∧ BaseI h c (c_ruled e h uu r aa b i t w).2.2.2.2.1 ∧ ∀ k, k ≠ 4 → (c_ruled e h uu r aa b i t w).2.2.2.1 k = uu k := by
  obtain ⟨hHI, hV, hT, hN, hW, hWt, hSh, hL⟩ := id hC
  unfold c_ruled k_ruled k_badBid
  rcases ti_rw hb.2.1.1 i with ⟨a3, b3, c3⟩ | ⟨a3, b3⟩
  · rcases ti_stp t with ⟨a1, b1, c1⟩ | ⟨a1, b1, d1⟩
    · rcases ti_rng w 0 1 with ⟨a2, b2, c2⟩ | ⟨a2, b2, d2⟩
      · simp only [a1, b1, a2, b2, a3, b3, reduceIte, Int.reduceEq, k_refuse0]
        obtain ⟨m1, m2, m3⟩ := hb.2.1.2 i c3.1 c3.2
        have hk := (hb.2.2 i c3.1 c3.2).1
        rw [m1]
        obtain ⟨v1, v2, v3, v4⟩ := ti_rules (aa := aa) (q := am_put q 0 0 0) hC hB hb hU hk (t := t) (by omega)
        have hq0 : k_goes c (am_put q 0 0 0) 0 0 = 0 := by rw [ti_go_0 hV, am_put_s]
        have ek := KQ_rules (c := c) v4 (RE_go hV (RE_put hR))
        obtain ⟨x1, x2⟩ := v3 i c3.1 c3.2
        refine ⟨TO_ok (ek.2.trans hq0) ?_ ek.1, v1, v2⟩
        rw [x1, x2]
      · simp only [a1, b1, a2, b2, a3, b3, reduceIte, Int.reduceEq, k_refuse0]
        exact ⟨TO_ref (by decide) (by decide) (by decide) hR, hB, fun _ _ => trivial⟩
    · simp only [a1, b1, a3, b3, reduceIte, Int.reduceEq, k_refuse0]
      exact ⟨TO_ref (by decide) (by decide) (by decide) hR, hB, fun _ _ => trivial⟩
  · simp only [a3, b3, reduceIte, Int.reduceEq, k_refuse0]
    exact ⟨TO_ref (by decide) (by decide) (by decide) hR, hB, fun _ _ => trivial⟩
theorem to_brings {e h c r q aa b uu : am_F} {k t w : Int} (hC : HC h c) (hB : BaseI h c r) (hR : RE e q) (hb : BC b c) (hU : RuC uu c) : TO 2 (c_brings e h uu r aa b k t w).1 (c_brings e h uu r aa b k t w).2.1 e (c_brings e h uu r aa b k t w).2.2.1 (k_brings c q k t w).1 (k_brings c q k t w).2 ∧ BaseI h c (c_brings e h uu r aa b k t w).2.2.2.2.1 ∧ ∀ j, j ≠ 4 → (c_brings e h uu r aa b k t w).2.2.2.1 j = uu j := by
  obtain ⟨hHI, hV, hT, hN, hW, hWt, hSh, hL⟩ := id hC
  unfold c_brings k_brings
  rcases ti_rw hT.2.2.2.2.2 k with ⟨a3, b3, c3⟩ | ⟨a3, b3⟩
  · rcases ti_stp t with ⟨a1, b1, c1⟩ | ⟨a1, b1, d1⟩
    · rcases ti_rng w 0 2 with ⟨a2, b2, c2⟩ | ⟨a2, b2, d2⟩
      · simp only [a1, b1, a2, b2, a3, b3, k_isLot, reduceIte, Int.reduceEq, k_refuse0]
        obtain ⟨v1, v2, v3, v4⟩ := ti_rules (aa := aa) (q := am_put q 0 0 0) hC hB hb hU c3 (t := t) (by omega)
        have hq0 : k_goes c (am_put q 0 0 0) 0 0 = 0 := by rw [ti_go_0 hV, am_put_s]
        have ek := KQ_rules (c := c) v4 (RE_go hV (RE_put hR))
        have hV2 := hV.2.2.2.2.2.2.2.2.2.2.2.2.1
        refine ⟨TO_ok (ek.2.trans hq0) ?_ ek.1, v1, v2⟩
        rw [show (b 0 2).toNat = (c 0 30).toNat by rw [hb.2.1.1]]
        refine ti_rel0 (R := fun (x y : Int) => x = y) _ 0 0 0 rfl fun i x y a1 a2 hxy => ?_
        obtain ⟨x1, x2⟩ := v3 i a1 (by omega)
        unfold g_c_brings_36 g_k_brings_75
        dsimp only
        rw [x1, x2, hxy]
      · simp only [a1, b1, a2, b2, a3, b3, k_isLot, reduceIte, Int.reduceEq, k_refuse0]
        exact ⟨TO_ref (by decide) (by decide) (by decide) hR, hB, fun _ _ => trivial⟩
    · simp only [a1, b1, a3, b3, k_isLot, reduceIte, Int.reduceEq, k_refuse0]
      exact ⟨TO_ref (by decide) (by decide) (by decide) hR, hB, fun _ _ => trivial⟩
  · simp only [a3, b3, k_isLot, reduceIte, Int.reduceEq, k_refuse0]
    exact ⟨TO_ref (by decide) (by decide) (by decide) hR, hB, fun _ _ => trivial⟩
