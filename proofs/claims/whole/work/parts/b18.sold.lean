/-! THE TIE: what lots bring -/
def BC (b c : am_F) : Prop := BdI b ∧ TBd b c ∧ MdB c
theorem ti_away (q : am_F) : (∀ i : Nat, i < 12 → f_away q 3 i = 0 ∧ f_away q 4 i = 0 ∧ f_away q 5 i = 0) ∧ ∀ k, k ≠ 3 → k ≠ 4 → k ≠ 5 → f_away q k = q k := by
  have h9 := am_fold_inv (P := fun i x => (∀ k, k ≠ 5 → x k = am_row (am_row q 3 (am_fill 12 (q 3) 0)) 4 (am_fill 12 (q 4) 0) k) ∧ ∀ j : Nat, (j : Int) < i → x 5 j = 0) (g := g_away) 12 0 (am_row (am_row q 3 (am_fill 12 (q 3) 0)) 4 (am_fill 12 (q 4) 0)) ⟨fun _ _ => rfl, fun j hj => by omega⟩ (fun i x a1 a2 hP => ⟨fun k hk => (am_put_kr (c := x) hk).trans (hP.1 k hk), fun j hj => by
    unfold g_away
    by_cases e : j = i.toNat
    · rw [e, am_put_s]
    · rw [am_put_i e]; exact hP.2 j (by omega)⟩)
  refine ⟨fun i hi => ⟨?_, ?_, ?_⟩, fun k k3 k4 k5 => ?_⟩
  · refine (congrFun (h9.1 3 (by decide)) i).trans ?_
    rw [ti_row_k (by decide), ti_row_s]
    exact am_fill_at 12 _ _ _ hi
  · refine (congrFun (h9.1 4 (by decide)) i).trans ?_
    rw [ti_row_s]
    exact am_fill_at 12 _ _ _ hi
  · exact h9.2 i (by omega)
  · refine (h9.1 k k5).trans ?_
    rw [ti_row_k k4, ti_row_k k3]
theorem ti_ask {q : am_F} {nb : Int} {f : Nat → Int} {l fl : Int} (hnb : 0 ≤ nb ∧ nb ≤ 12) : (∀ i : Int, 0 ≤ i → i < nb → am_fold (g_ask nb f l fl) 0 nb.toNat q 2 i.toNat = f_at nb f i 2 ∧ am_fold (g_ask nb f l fl) 0 nb.toNat q 5 i.toNat = f_asks nb f l fl i) ∧ (∀ i : Int, nb ≤ i → am_fold (g_ask nb f l fl) 0 nb.toNat q 5 i.toNat = q 5 i.toNat) ∧ ∀ k, k ≠ 2 → k ≠ 5 → am_fold (g_ask nb f l fl) 0 nb.toNat q k = q k := by
  have h9 := am_fold_inv (P := fun j x => (∀ i : Int, 0 ≤ i → i < j → x 2 i.toNat = f_at nb f i 2 ∧ x 5 i.toNat = f_asks nb f l fl i) ∧ (∀ i : Int, j ≤ i → x 5 i.toNat = q 5 i.toNat) ∧ ∀ k, k ≠ 2 → k ≠ 5 → x k = q k) (g := g_ask nb f l fl) nb.toNat 0 q ⟨fun i h1 h2 => by omega, fun _ _ => rfl, fun _ _ _ => rfl⟩ (fun j x a1 a2 hP => by
    unfold g_ask
    refine ⟨fun i h1 h2 => ?_, fun i h1 => ?_, fun k k2 k5 => (am_put_kr k5).trans ((am_put_kr k2).trans (hP.2.2 k k2 k5))⟩
    · by_cases e : i = j
      · rw [e]
        simp (disch := omega) only [am_put_k, am_put_s, and_self]
      · simp (disch := omega) only [am_put_k, am_put_i]
        exact hP.1 i h1 (by omega)
    · simp (disch := omega) only [am_put_k, am_put_i]
      exact hP.2.1 i (by omega))
  exact ⟨fun i h1 h2 => h9.1 i h1 (by omega), fun i h1 => h9.2.1 i (by omega), h9.2.2⟩
theorem ti_got0 {q : am_F} {n : Int} (hn : 0 ≤ n) : (∀ i : Int, 0 ≤ i → i < n → am_fold g_k_sells_19 0 n.toNat q 732 i.toNat = 0) ∧ ∀ k, k ≠ 732 → am_fold g_k_sells_19 0 n.toNat q k = q k := by
  have h9 := am_fold_inv (P := fun j x => (∀ i : Int, 0 ≤ i → i < j → x 732 i.toNat = 0) ∧ ∀ k, k ≠ 732 → x k = q k) (g := g_k_sells_19) n.toNat 0 q ⟨fun i h1 h2 => by omega, fun _ _ => rfl⟩ (fun j x a1 a2 hP => by
    unfold g_k_sells_19
    refine ⟨fun i h1 h2 => ?_, fun k hk => (am_put_kr hk).trans (hP.2 k hk)⟩
    by_cases e : i = j
    · rw [e, am_put_s]
    · rw [am_put_i (by omega)]; exact hP.1 i h1 (by omega))
  exact ⟨fun i h1 h2 => h9.1 i h1 (by omega), h9.2⟩
/-- what a sale of the model leaves as it was -/
def KQ (q q' : am_F) : Prop := (∀ m, m ≠ 732 → m ≠ 733 → m ≠ 728 → m ≠ 0 → q' m = q m) ∧ ∀ j, j ≠ 67 → q' 0 j = q 0 j
theorem KQ_r {q : am_F} : KQ q q := ⟨fun _ _ _ _ _ => rfl, fun _ _ => rfl⟩
theorem KQ_t {q q1 q2 : am_F} (h1 : KQ q q1) (h2 : KQ q1 q2) : KQ q q2 := ⟨fun m a b c d => (h2.1 m a b c d).trans (h1.1 m a b c d), fun j hj => (h2.2 j hj).trans (h1.2 j hj)⟩
theorem KQ_FQ {q q' r : am_F} {s : Int} (h : KQ q q') (hs : -1 ≤ s ∧ s < 40) (hQ : FQ s r q) : FQ s r q' := FQ_row hQ (h.1 _ (by omega) (by omega) (by omega) (by omega))
theorem KQ_RE {e q q' : am_F} (h : KQ q q') (hR : RE e q) : RE e q' := fun j hj => by rw [h.1 2 (by decide) (by decide) (by decide) (by decide)]; exact hR j hj
theorem ti_sell {b c aa q : am_F} {k fl t : Int} (hV : MdV c) (hB : BC b c) (hy : 0 ≤ k_yardsOf c q k t ∧ k_yardsOf c q k t ≤ 9000) : (∀ i : Int, 0 ≤ i → i < c 0 30 → f_sell (b 0 2) (b 1) k (k_yardsOf c q k t) fl aa 3 i.toNat = k_sells c q k t fl 732 i.toNat) ∧ f_sell (b 0 2) (b 1) k (k_yardsOf c q k t) fl aa 0 5 = k_sells c q k t fl 0 67 ∧ KQ q (k_sells c q k t fl) := by
  have h12 := hV.2.2.2.2.2.2.2.2.2.2.2.2.1
  obtain ⟨hBd, hT, hM⟩ := hB
  have hT1 := hT.1
  obtain ⟨w1, w2⟩ := ti_away aa
  obtain ⟨u1, u2, u3⟩ := ti_ask (q := f_away aa) (nb := b 0 2) (f := b 1) (l := k) (fl := fl) (by rw [hT.1]; exact h12)
  obtain ⟨g1, g2⟩ := ti_got0 (q := am_put q 0 67 0) h12.1
  have hR : SR c q k fl (k_yardsOf c q k t, am_put (am_fold (g_ask (b 0 2) (b 1) k fl) 0 (b 0 2).toNat (f_away aa)) 0 5 0) (k_yardsOf c q k t, 0, am_fold g_k_sells_19 0 (c 0 30).toNat (am_put q 0 67 0)) := by
    refine ⟨⟨rfl, hy⟩, fun i a1 a2 => ⟨?_, fun _ => g1 i a1 a2, ?_⟩, ?_, fun _ i a1 a2 => ?_, fun i a1 a2 => ?_, fun m m1 m2 => ?_, fun j hj => ?_⟩
    · dsimp only
      rw [am_put_k (by decide), g1 i a1 a2, u3 3 (by decide) (by decide)]
      exact (w1 i.toNat (by omega)).1
    · dsimp only
      rw [am_put_k (by decide), (u1 i a1 (by omega)).1]
      exact (hT.2 i a1 a2).2.2
    · dsimp only
      rw [am_put_s, g2 0 (by decide), am_put_s]
    · dsimp only
      rw [am_put_k (by decide), (u1 i a1 (by omega)).2]
      obtain ⟨t1, t2, t3⟩ := hT.2 i a1 a2
      unfold f_asks
      rw [t1, t3]
      by_cases g : c (133 + i.toNat) 0 = k ∧ fl ≤ c (133 + i.toNat) 2
      · rw [if_pos g]; exact ⟨fun _ => ⟨ti_bv0 i, g⟩, fun _ => by decide⟩
      · rw [if_neg g]; exact ⟨fun h => absurd rfl h, fun h => absurd h.2 g⟩
    · dsimp only
      rw [am_put_k (by decide), u2 i (by omega)]
      exact (w1 i.toNat (by omega)).2.2
    · dsimp only
      rw [g2 m m1, am_put_kr m2]
    · dsimp only
      rw [g2 0 (by decide), am_put_i hj]
  have h9 := ti_sellLoop (k := k) (fl := fl) h12 hM hT 12 0 13 _ _ hR (ti_cnt_le _ 12) (by decide)
  exact ⟨fun i a1 a2 => (h9.2.1 i a1 a2).1, h9.2.2.1, fun m m1 _ _ m2 => h9.2.2.2.2.2.1 m m1 m2, h9.2.2.2.2.2.2⟩
theorem ti_takings {b c Q q : am_F} {wy : Int} (hV : MdV c) (hB : BC b c) (h3 : ∀ i : Int, 0 ≤ i → i < c 0 30 → Q 3 i.toNat = q 732 i.toNat) (h5 : Q 0 5 = q 0 67) : f_takings Q (b 0 2) (b 1) wy = am_fold (g_k_soldBy_14 c q wy) 0 (c 0 30).toNat 0 := by
  have h12 := hV.2.2.2.2.2.2.2.2.2.2.2.2.1
  obtain ⟨hBd, hT, hM⟩ := hB
  unfold f_takings
  have e9 := hT.1
  have h8 : ∀ x : Int, x = b 0 2 → am_fold (g_takings Q (b 0 2) (b 1) wy) 0 (b 0 2).toNat 0 = am_fold (g_k_soldBy_14 c q wy) 0 (c 0 30).toNat 0 := fun _ _ => by
    rw [show (b 0 2).toNat = (c 0 30).toNat by rw [e9]]
    refine am_fold_eq _ 0 0 fun i v a1 a2 => ?_
    unfold g_takings g_k_soldBy_14 f_got f_priceOf
    rw [if_pos (by omega), h3 i a1 (by omega), (hT.2 i a1 (by omega)).2.2, h5]
  exact h8 _ rfl
theorem ti_soldBy {b h c r aa q : am_F} {k s wy fl : Int} (hC : HC h c) (hB : BC b c) (hQ : FQ s r q) (hk : 0 ≤ k ∧ k < c 4 3) : f_takings (f_sell (b 0 2) (b 1) k (f_inLot r h k s) fl aa) (b 0 2) (b 1) wy = (k_soldBy c q k s wy fl).1 ∧ KQ q (k_soldBy c q k s wy fl).2 := by
  obtain ⟨y1, y2⟩ := ti_inLot hC hQ hk
  rw [y1] at y2 ⊢
  have h9 := ti_sell (aa := aa) (fl := fl) hC.2.1 hB y2
  exact ⟨ti_takings hC.2.1 hB h9.1 h9.2.1, h9.2.2⟩
theorem ti_floor {h c : am_F} (hL : TLt h c) {k : Int} (hk : 0 ≤ k ∧ k < c 4 3) : f_floor h k = c (96 + k.toNat) 4 := (hL.2.1 k hk.1 hk.2).1
theorem to_sold {e h c r q aa b : am_F} {k t w : Int} (hC : HC h c) (hB : BaseI h c r) (hR : RE e q) (hb : BC b c) : TO 2 (c_sold e h r aa b k t w).1 (c_sold e h r aa b k t w).2.1 e (c_sold e h r aa b k t w).2.2.1 (k_sold c q k t w).1 (k_sold c q k t w).2 ∧ BaseI h c (c_sold e h r aa b k t w).2.2.2.1 := by
  obtain ⟨hHI, hV, hT, hN, hW, hWt, hSh, hL⟩ := id hC
  unfold c_sold k_sold
  rcases ti_rw hT.2.2.2.2.2 k with ⟨a0, b0, c0⟩ | ⟨a0, b0⟩
  · rcases ti_stp t with ⟨a1, b1, c1⟩ | ⟨a1, b1, d1⟩
    · rcases ti_rng w 0 1 with ⟨a2, b2, c2⟩ | ⟨a2, b2, d2⟩
      · simp only [a0, b0, a1, b1, a2, b2, k_isLot, reduceIte, Int.reduceEq, k_refuse0]
        have h9 := ti_soldBy (aa := aa) (wy := w) (fl := f_floor h k) hC hb (Base_fog hHI.1 hT hB (st := t) (s := t) (by omega) (by omega) (am_put q 0 0 0)) c0
        rw [ti_floor hL c0] at h9 ⊢
        exact ⟨TO_ok (by rw [h9.2.2 0 (by decide), ti_go_0 hV, am_put_s]) h9.1 (KQ_RE h9.2 (RE_go hV (RE_put hR))), (Base_upTo hHI.1 hT hB (st := t) (by omega)).1⟩
      · simp only [a0, b0, a1, b1, a2, b2, k_isLot, reduceIte, Int.reduceEq, k_refuse0]
        exact ⟨TO_ref (by decide) (by decide) (by decide) hR, hB⟩
    · simp only [a0, b0, a1, b1, k_isLot, reduceIte, Int.reduceEq, k_refuse0]
      exact ⟨TO_ref (by decide) (by decide) (by decide) hR, hB⟩
  · simp only [a0, b0, k_isLot, reduceIte, Int.reduceEq, k_refuse0]
    exact ⟨TO_ref (by decide) (by decide) (by decide) hR, hB⟩
theorem to_when {e h c r q aa b : am_F} {k w : Int} (hC : HC h c) (hB : BaseI h c r) (hR : RE e q) (hb : BC b c) : TO 2 (c_when e h r aa b k w).1 (c_when e h r aa b k w).2.1 e (c_when e h r aa b k w).2.2.1 (k_when c q k w).1 (k_when c q k w).2 ∧ BaseI h c (c_when e h r aa b k w).2.2.2.1 := by
  obtain ⟨hHI, hV, hT, hN, hW, hWt, hSh, hL⟩ := id hC
  unfold c_when k_when
  rcases ti_rw hT.2.2.2.2.2 k with ⟨a0, b0, c0⟩ | ⟨a0, b0⟩
  · rcases ti_rng w 0 1 with ⟨a2, b2, c2⟩ | ⟨a2, b2, d2⟩
    · simp only [a0, b0, a2, b2, k_isLot, reduceIte, Int.reduceEq, k_refuse0]
      have h9 := ti_rel (R := fun i (x : Int × Int × am_F × am_F) (y : Int × Int × am_F) => x.1 = y.2.1 ∧ x.2.1 = y.1 ∧ BaseI h c x.2.2.1 ∧ KQ (k_goes c (am_put q 0 0 0)) y.2.2) (f := g_c_when_27 h b k w) (g := g_k_when_64 c k w) 40 0 (0, -1, r, aa) (-1, 0, k_goes c (am_put q 0 0 0)) ⟨rfl, rfl, hB, KQ_r⟩ (fun j x y j1 j2 hr => by
        obtain ⟨r1, r2, r3, r4⟩ := hr
        have hQ := KQ_FQ r4 (s := j) (by omega) (Base_fog hHI.1 hT r3 (st := j) (s := j) (by omega) (by omega) (am_put q 0 0 0))
        have h8 := ti_soldBy (aa := x.2.2.2) (wy := w) (fl := f_floor h k) hC hb hQ c0
        unfold g_c_when_27 g_k_when_64 c_takings
        simp only []
        rw [ti_floor hL c0] at h8
        simp only [ti_floor hL c0, h8.1, r1, r2]
        refine ⟨?_, ?_, (Base_upTo hHI.1 hT r3 (st := j) (by omega)).1, KQ_t r4 h8.2⟩
        · split <;> split <;> first | rfl | omega
        · split <;> split <;> first | rfl | omega)
      obtain ⟨r1, r2, r3, r4⟩ := h9
      exact ⟨TO_ok (by rw [r4.2 0 (by decide), ti_go_0 hV, am_put_s]) r2 (KQ_RE r4 (RE_go hV (RE_put hR))), r3⟩
    · simp only [a0, b0, a2, b2, k_isLot, reduceIte, Int.reduceEq, k_refuse0]
      exact ⟨TO_ref (by decide) (by decide) (by decide) hR, hB⟩
  · simp only [a0, b0, k_isLot, reduceIte, Int.reduceEq, k_refuse0]
    exact ⟨TO_ref (by decide) (by decide) (by decide) hR, hB⟩
theorem to_asked {e h c r q aa b : am_F} {k t w v : Int} (hC : HC h c) (hB : BaseI h c r) (hR : RE e q) (hb : BC b c) : TO 2 (c_asked e h r aa b k t w v).1 (c_asked e h r aa b k t w v).2.1 e (c_asked e h r aa b k t w v).2.2.1 (k_asked c q k t w v).1 (k_asked c q k t w v).2 ∧ BaseI h c (c_asked e h r aa b k t w v).2.2.2.1 := by
  obtain ⟨hHI, hV, hT, hN, hW, hWt, hSh, hL⟩ := id hC
  unfold c_asked k_asked
  rcases ti_rw hT.2.2.2.2.2 k with ⟨a0, b0, c0⟩ | ⟨a0, b0⟩
  · rcases ti_stp t with ⟨a1, b1, c1⟩ | ⟨a1, b1, d1⟩
    · rcases ti_rng w 0 1 with ⟨a2, b2, c2⟩ | ⟨a2, b2, d2⟩
      · rcases ti_rng v 0 1 with ⟨a3, b3, c3⟩ | ⟨a3, b3, d3⟩
        · simp only [a0, b0, a1, b1, a2, b2, a3, b3, k_isLot, reduceIte, Int.reduceEq, k_refuse0]
          have h9 := ti_rel (R := fun i (x : Int × Int × am_F × am_F) (y : Int × Int × am_F) => x.1 = y.2.1 ∧ x.2.1 = y.1 ∧ BaseI h c x.2.2.1 ∧ KQ (k_goes c (am_put q 0 0 0)) y.2.2) (f := g_c_asked_41 h b k t w) (g := g_k_asked_82 c k t w) 10 0 (-1, 0, r, aa) (0, -1, k_goes c (am_put q 0 0 0)) ⟨rfl, rfl, hB, KQ_r⟩ (fun j x y j1 j2 hr => by
            obtain ⟨r1, r2, r3, r4⟩ := hr
            have hQ := KQ_FQ r4 (s := t) (by omega) (Base_fog hHI.1 hT r3 (st := t) (s := t) (by omega) (by omega) (am_put q 0 0 0))
            have h8 := ti_soldBy (aa := x.2.2.2) (wy := w) (fl := j) hC hb hQ c0
            unfold g_c_asked_41 g_k_asked_82 c_takings
            simp only []
            simp only [h8.1, r1, r2]
            refine ⟨?_, ?_, (Base_upTo hHI.1 hT r3 (st := t) (by omega)).1, KQ_t r4 h8.2⟩
            · split <;> split <;> first | rfl | omega
            · split <;> split <;> first | rfl | omega)
          obtain ⟨r1, r2, r3, r4⟩ := h9
          exact ⟨TO_ok (by rw [r4.2 0 (by decide), ti_go_0 hV, am_put_s]) (by rw [r1, r2]) (KQ_RE r4 (RE_go hV (RE_put hR))), r3⟩
        · simp only [a0, b0, a1, b1, a2, b2, a3, b3, k_isLot, reduceIte, Int.reduceEq, k_refuse0]
          exact ⟨TO_ref (by decide) (by decide) (by decide) hR, hB⟩
      · simp only [a0, b0, a1, b1, a2, b2, k_isLot, reduceIte, Int.reduceEq, k_refuse0]
        exact ⟨TO_ref (by decide) (by decide) (by decide) hR, hB⟩
    · simp only [a0, b0, a1, b1, k_isLot, reduceIte, Int.reduceEq, k_refuse0]
      exact ⟨TO_ref (by decide) (by decide) (by decide) hR, hB⟩
  · simp only [a0, b0, k_isLot, reduceIte, Int.reduceEq, k_refuse0]
    exact ⟨TO_ref (by decide) (by decide) (by decide) hR, hB⟩
theorem to_gets {e h c r q aa b : am_F} {i t w : Int} (hC : HC h c) (hB : BaseI h c r) (hR : RE e q) (hb : BC b c) : TO 3 (c_gets e h r aa b i t w).1 (c_gets e h r aa b i t w).2.1 e (c_gets e h r aa b i t w).2.2.1 (k_gets c q i t w).1 (k_gets c q i t w).2 ∧ BaseI h c (c_gets e h r aa b i t w).2.2.2.1 := by
  obtain ⟨hHI, hV, hT, hN, hW, hWt, hSh, hL⟩ := id hC
  have h12 := hV.2.2.2.2.2.2.2.2.2.2.2.2.1
  unfold c_gets k_gets
  rcases ti_stp t with ⟨a1, b1, c1⟩ | ⟨a1, b1, d1⟩
  · rcases ti_rng w 0 2 with ⟨a2, b2, c2⟩ | ⟨a2, b2, d2⟩
    · rcases ti_rw hb.2.1.1 i with ⟨a3, b3, c3⟩ | ⟨a3, b3⟩
      · have c4 : 0 ≤ i ∧ i < b 0 2 := by have := hb.2.1.1; omega
        simp only [a1, b1, a2, b2, b3, c4, and_self, reduceIte, Int.reduceEq, k_refuse0]
        obtain ⟨m1, m2, m3⟩ := hb.2.1.2 i c3.1 c3.2
        have hk := (hb.2.2 i c3.1 c3.2).1
        rw [m1, ti_floor hL hk]
        obtain ⟨y1, y2⟩ := ti_inLot hC (Base_fog hHI.1 hT hB (st := t) (s := t) (by omega) (by omega) (am_put q 0 0 0)) hk
        rw [y1] at y2 ⊢
        obtain ⟨s1, s2, s3⟩ := ti_sell (aa := aa) (fl := c (96 + (c (133 + i.toNat) 0).toNat) 4) hV hb y2
        refine ⟨TO_ok (by rw [s3.2 0 (by decide), ti_go_0 hV, am_put_s]) ?_ (KQ_RE s3 (RE_go hV (RE_put hR))), (Base_upTo hHI.1 hT hB (st := t) (by omega)).1⟩
        have eg : f_got (f_sell (b 0 2) (b 1) (c (133 + i.toNat) 0) (k_yardsOf c (k_goes c (am_put q 0 0 0)) (c (133 + i.toNat) 0) t) (c (96 + (c (133 + i.toNat) 0).toNat) 4) aa) i = k_sells c (k_goes c (am_put q 0 0 0)) (c (133 + i.toNat) 0) t (c (96 + (c (133 + i.toNat) 0).toNat) 4) 732 i.toNat := by
          unfold f_got
          rw [if_pos (by omega)]
          exact s1 i c3.1 c3.2
        have ep : ∀ wy, f_priceOf (f_sell (b 0 2) (b 1) (c (133 + i.toNat) 0) (k_yardsOf c (k_goes c (am_put q 0 0 0)) (c (133 + i.toNat) 0) t) (c (96 + (c (133 + i.toNat) 0).toNat) 4) aa) (b 0 2) (b 1) i wy = if wy = 0 then c (133 + i.toNat) 2 else k_sells c (k_goes c (am_put q 0 0 0)) (c (133 + i.toNat) 0) t (c (96 + (c (133 + i.toNat) 0).toNat) 4) 0 67 := fun wy => by
          unfold f_priceOf
          rw [s2, m3]
        rw [eg, ep]
        have h3 : w = 0 ∨ w = 1 ∨ w = 2 := by omega
        rcases h3 with rfl | rfl | rfl
        · rfl
        · rfl
        · rfl
      · have c4 : ¬ (0 ≤ i ∧ i < b 0 2) := fun g => by
          unfold n_row at a3
          rw [if_pos g] at a3
          cases a3
        simp only [a1, b1, a2, b2, b3, c4, reduceIte, Int.reduceEq, k_refuse0]
        exact ⟨TO_ok am_put_s rfl (RE_put hR), hB⟩
    · simp only [a1, b1, a2, b2, reduceIte, Int.reduceEq, k_refuse0]
      exact ⟨TO_ref (by decide) (by decide) (by decide) hR, hB⟩
  · simp only [a1, b1, reduceIte, Int.reduceEq, k_refuse0]
    exact ⟨TO_ref (by decide) (by decide) (by decide) hR, hB⟩
