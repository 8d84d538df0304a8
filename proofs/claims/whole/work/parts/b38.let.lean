/-! THE TIE: the facts of a bid; let -/
def AuR (A c : am_F) (k t th le : Int) : Prop := (A 1 0 = k ∧ A 1 3 = t ∧ A 1 4 = th ∧ A 1 5 = le ∧ A 1 6 = c (96 + k.toNat) 4) ∧ ∀ i : Int, 0 ≤ i → i < c 0 30 → c (133 + i.toNat) 0 = k → A 1 8 = am_fold (g_k_known_107 c i) 0 (c 0 30).toNat 0
theorem ti_facts {A b c : am_F} {k t th le i : Int} (hb : BC b c) (hA : AuR A c k t th le) (hi : 0 ≤ i ∧ i < c 0 30) (hk : c (133 + i.toNat) 0 = k) : FaR (f_look A (b 0 2) (b 1) i 1) c i t th le := by
  obtain ⟨⟨a0, a3, a4, a5, a6⟩, a8⟩ := hA
  have e8 := a8 i hi.1 hi.2 hk
  obtain ⟨m1, m2, m3⟩ := hb.2.1.2 i hi.1 hi.2
  have ef : ∀ j : Nat, f_look A (b 0 2) (b 1) i 1 j = if j = 2 then f_at (b 0 2) (b 1) i 2 else if j = 1 then f_at (b 0 2) (b 1) i 1 else if j = 7 then i else A 1 j := fun j => by
    unfold f_look
    by_cases g2 : j = 2
    · rw [if_pos g2, g2, am_put_s]
    · rw [if_neg g2, am_put_i g2]
      by_cases g1 : j = 1
      · rw [if_pos g1, g1, am_put_s]
      · rw [if_neg g1, am_put_i g1]
        by_cases g7 : j = 7
        · rw [if_pos g7, g7, am_put_s]
        · rw [if_neg g7, am_put_i g7]
  intro n h0 h1
  have h9 : n = 0 ∨ n = 1 ∨ n = 2 ∨ n = 3 ∨ n = 4 ∨ n = 5 ∨ n = 6 ∨ n = 7 ∨ n = 8 := by omega
  rw [ef]
  rcases h9 with rfl | rfl | rfl | rfl | rfl | rfl | rfl | rfl | rfl
  · exact m3
  · exact m2
  · show A 1 0 = c (133 + i.toNat) 0; rw [a0, hk]
  · exact a3
  · exact a4
  · exact a5
  · show A 1 6 = c (96 + (c (133 + i.toNat) 0).toNat) 4; rw [a6, hk]
  · rfl
  · exact e8
theorem ti_count {b c q : am_F} {i : Int} (hV : MdV c) (hb : BC b c) (h0 : q 1 0 = c (133 + i.toNat) 0) : f_count (b 0 2) (b 1) q 1 8 = am_fold (g_k_known_107 c i) 0 (c 0 30).toNat 0 ∧ ∀ k j, ¬ (k = 1 ∧ j = 8) → f_count (b 0 2) (b 1) q k j = q k j := by
  have hn := hb.2.1.1
  have h12 := hV.2.2.2.2.2.2.2.2.2.2.2.2.1
  have h9 := ti_rel (R := fun j (x : am_F) (m : Int) => (x 1 8 = m ∧ 0 ≤ m ∧ m ≤ j) ∧ ∀ k j, ¬ (k = 1 ∧ j = 8) → x k j = q k j) (f := g_count (b 0 2) (b 1)) (g := g_k_known_107 c i) (c 0 30).toNat 0 (am_put q 1 8 0) 0 ⟨⟨am_put_s, by decide, by decide⟩, fun k j hkj => by
    by_cases hk : k = 1
    · rw [hk, am_put_i (fun e => hkj ⟨hk, e⟩)]
    · rw [am_put_k hk]⟩ (fun j x m a1 a2 hR => by
    obtain ⟨⟨r1, r2, r3⟩, r4⟩ := hR
    have e1 := (hb.2.1.2 j a1 (by omega)).1
    have e0 : x 1 0 = c (133 + i.toNat) 0 := (r4 1 0 (by omega)).trans h0
    unfold g_count g_k_known_107
    dsimp only
    rw [e1, e0]
    by_cases g : c (133 + j.toNat) 0 = c (133 + i.toNat) 0
    · rw [if_pos g, if_pos g]
      refine ⟨⟨?_, by omega, by omega⟩, fun k' j' hkj => ?_⟩
      · rw [am_put_s, r1]
        exact ti_w ⟨by omega, by omega⟩
      · by_cases hk : k' = 1
        · rw [hk, am_put_i (fun e => hkj ⟨hk, e⟩)]; exact r4 1 j' (fun e => hkj ⟨hk, e.2⟩)
        · rw [am_put_k hk]; exact r4 k' j' hkj
    · rw [if_neg g, if_neg g]
      exact ⟨⟨by omega, by omega, by omega⟩, r4⟩)
  unfold f_count
  rw [show (b 0 2).toNat = (c 0 30).toNat by rw [hn]]
  exact ⟨h9.1.1, h9.2⟩
theorem ti_tellAu {h c r b aa q : am_F} {k t : Int} (hC : HC h c) (hB : BaseI h c r) (hb : BC b c) (hk : 0 ≤ k ∧ k < c 4 3) (ht : 0 ≤ t ∧ t < 40) : BaseI h c (c_tellAuction h r aa b k t).1 ∧ AuR (c_tellAuction h r aa b k t).2 c k t (k_yardsOf c (k_goes c q) k t) (k_yardsOf c (k_goes c q) k t) := by
  obtain ⟨hHI, hV, hT, hN, hW, hWt, hSh, hL⟩ := id hC
  obtain ⟨y1, y2⟩ := ti_inLot hC (Base_fog hHI.1 hT hB (st := t) (s := t) (by omega) (by omega) q) hk
  unfold c_tellAuction
  dsimp only
  rw [y1, ti_floor hL hk]
  refine ⟨(Base_upTo hHI.1 hT hB (st := t) (by omega)).1, ?_⟩
  have hc0 : ∀ (q9 : am_F) (k' j : Nat), ¬ (k' = 1 ∧ j = 8) → f_count (b 0 2) (b 1) q9 k' j = q9 k' j := fun q9 k' j hkj => by
    unfold f_count
    refine (ti_inv0 (P := fun (x : am_F) => x k' j = q9 k' j) _ 0 _ ?_ fun i x a1 a2 hx => ?_ : _)
    · by_cases g : k' = 1
      · rw [g, am_put_i (fun e => hkj ⟨g, e⟩)]
      · rw [am_put_k g]
    · unfold g_count
      split
      · by_cases g : k' = 1
        · rw [g, am_put_i (fun e => hkj ⟨g, e⟩), ← g]; exact hx
        · rw [am_put_k g]; exact hx
      · exact hx
  refine ⟨⟨?_, ?_, ?_, ?_, ?_⟩, fun i a1 a2 a3 => ?_⟩
  · rw [hc0 _ 1 0 (by omega)]; rfl
  · rw [hc0 _ 1 3 (by omega)]; rfl
  · rw [hc0 _ 1 4 (by omega)]; rfl
  · rw [hc0 _ 1 5 (by omega)]; rfl
  · rw [hc0 _ 1 6 (by omega)]; rfl
  · exact (ti_count (i := i) hV hb (by rw [a3]; rfl)).1
theorem KQ_728 {q q' : am_F} (h : ∀ k, k ≠ 728 → q' k = q k) (e : am_F) (hR : RE e q) : RE e q' ∧ q' 0 0 = q 0 0 := ⟨fun j hj => by rw [h 2 (by decide)]; exact hR j hj, by rw [h 0 (by decide)]⟩
theorem to_let {e h c r q aa b uu : am_F} {i t w : Int} (hC : HC h c) (hB : BaseI h c r) (hR : RE e q) (hb : BC b c) (hU : RuC uu c) : TO 2 (c_let e h uu r aa b i t w).1 (c_let e h uu r aa b i t w).2.1 e (c_let e h uu r aa b i t w).2.2.1 (k_let c q i t w).1 (k_let c q i t w).2 ∧ BaseI h c (c_let e h uu r aa b i t w).2.2.2.2.1 ∧ ∀ k, k ≠ 4 → (c_let e h uu r aa b i t w).2.2.2.1 k = uu k := by
  obtain ⟨hHI, hV, hT, hN, hW, hWt, hSh, hL⟩ := id hC
  unfold c_let k_let k_badBid
  rcases ti_rw hb.2.1.1 i with ⟨a3, b3, c3⟩ | ⟨a3, b3⟩
  · rcases ti_stp t with ⟨a1, b1, c1⟩ | ⟨a1, b1, d1⟩
    · rcases ti_rng w 0 1 with ⟨a2, b2, c2⟩ | ⟨a2, b2, d2⟩
      · simp only [a1, b1, a2, b2, a3, b3, reduceIte, Int.reduceEq, k_refuse0]
        obtain ⟨m1, m2, m3⟩ := hb.2.1.2 i c3.1 c3.2
        have hk := (hb.2.2 i c3.1 c3.2).1
        rw [m1]
        obtain ⟨u1, u2⟩ := ti_tellAu (aa := aa) (q := am_put q 0 0 0) hC hB hb hk (t := t) (by omega)
        have hf := ti_facts hb u2 c3 rfl
        have hq0 : k_goes c (am_put q 0 0 0) 0 0 = 0 := by rw [ti_go_0 hV, am_put_s]
        have hRg : RE e (k_goes c (am_put q 0 0 0)) := RE_go hV (RE_put hR)
        generalize c_tellAuction h r aa b (c (133 + i.toNat) 0) t = U at u1 u2 hf
        by_cases g : w = 1
        · rw [if_pos g, if_pos g, if_pos g]
          obtain ⟨s1, s2, s3⟩ := ti_tellsV (q := k_goes c (am_put q 0 0 0)) (kd := 1) (wo := c (133 + i.toNat) 2) hU hf
          have e2 : f_look U.2 (b 0 2) (b 1) i 1 2 = c (133 + i.toNat) 2 := by rw [← m3]; exact am_put_s
          have ek := KQ_728 s3 e hRg
          unfold c_standing
          dsimp only
          rw [e2]
          exact ⟨TO_ok (ek.2.trans hq0) s1 ek.1, u1, s2⟩
        · rw [if_neg g, if_neg g, if_neg g]
          obtain ⟨s1, s2, s3⟩ := ti_isLetV (q := k_goes c (am_put q 0 0 0)) hU hf
          have ek := KQ_728 s3 e hRg
          unfold c_isLetIn
          dsimp only
          rw [s1]
          exact ⟨TO_ok (ek.2.trans hq0) rfl ek.1, u1, s2⟩
      · simp only [a1, b1, a2, b2, a3, b3, reduceIte, Int.reduceEq, k_refuse0]
        exact ⟨TO_ref (by decide) (by decide) (by decide) hR, hB, fun _ _ => trivial⟩
    · simp only [a1, b1, a3, b3, reduceIte, Int.reduceEq, k_refuse0]
      exact ⟨TO_ref (by decide) (by decide) (by decide) hR, hB, fun _ _ => trivial⟩
  · simp only [a3, b3, reduceIte, Int.reduceEq, k_refuse0]
    exact ⟨TO_ref (by decide) (by decide) (by decide) hR, hB, fun _ _ => trivial⟩
