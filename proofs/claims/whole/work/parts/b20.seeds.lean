/-! THE TIE: seeds -/
/-- how many of the first n needs are enough with y -/
def ti_cn (N : Int → Int) (n : Nat) (y : Int) : Int := am_fold (fun i m => m + (if y < N i then 0 else 1)) 0 n 0
theorem ti_cn_s (N : Int → Int) (n : Nat) (y : Int) : ti_cn N (n + 1) y = ti_cn N n y + (if y < N n then 0 else 1) := by
  unfold ti_cn
  rw [ti_last, show (0 : Int) + (n : Int) = n by omega]
theorem ti_cn_b (N : Int → Int) (y : Int) : ∀ n : Nat, 0 ≤ ti_cn N n y ∧ ti_cn N n y ≤ n := by
  intro n
  induction n with
  | zero => exact ⟨Int.le_refl _, Int.le_refl _⟩
  | succ n ih => rw [ti_cn_s]; split <;> omega
theorem ti_cn_all {N : Int → Int} (hN : ∀ i, 0 ≤ N i ∧ N i ≤ 99) : ∀ n : Nat, ti_cn N n 99 = n := by
  intro n
  induction n with
  | zero => rfl
  | succ n ih => rw [ti_cn_s, ih, if_neg (by have := hN n; omega)]; omega
/-- what is tallied up to n, not with it -/
def ti_tl (e : am_F) (n : Nat) : Int := am_fold (fun v a => a + e 3 v.toNat) 0 n 0
theorem ti_tl_s (e : am_F) (n : Nat) : ti_tl e (n + 1) = ti_tl e n + e 3 n := by
  unfold ti_tl
  rw [ti_last, show ((0 : Int) + (n : Int)).toNat = n by omega]
theorem ti_tl_put {e : am_F} {v : Nat} : ∀ n : Nat, ti_tl (am_put e 3 v (e 3 v + 1)) n = ti_tl e n + (if v < n then 1 else 0) := by
  intro n
  induction n with
  | zero => rfl
  | succ n ih =>
    rw [ti_tl_s, ti_tl_s, ih]
    by_cases g : n = v
    · rw [g, am_put_s, if_neg (by omega), if_pos (by omega)]; omega
    · rw [am_put_i g]
      by_cases g2 : v < n
      · rw [if_pos g2, if_pos (by omega)]; omega
      · rw [if_neg g2, if_neg (by omega)]; omega
/-- the tally of the first i seeds -/
def TaR (N : Int → Int) (e0 e : am_F) (i : Nat) : Prop := (∀ y : Nat, y ≤ 100 → ti_tl e y = ti_cn N i ((y : Int) - 1)) ∧ (∀ v : Nat, v < 100 → 0 ≤ e 3 v ∧ e 3 v ≤ i) ∧ ∀ k, k ≠ 3 → e k = e0 k
theorem TaR_0 {N : Int → Int} {e : am_F} : TaR N e (am_row e 3 (am_fill 100 (e 3) 0)) 0 := by
  have ez : ∀ v : Nat, v < 100 → am_row e 3 (am_fill 100 (e 3) 0) 3 v = 0 := fun v hv => by
    rw [ti_row_s]; exact am_fill_at 100 _ _ _ hv
  refine ⟨fun y hy => ?_, fun v hv => by rw [ez v hv]; omega, fun k hk => ti_row_k hk⟩
  induction y with
  | zero => rfl
  | succ y ih => rw [ti_tl_s, ih (by omega), ez y (by omega)]; rfl
theorem TaR_s {N : Int → Int} {e0 e : am_F} {i : Nat} (hN : ∀ i, 0 ≤ N i ∧ N i ≤ 99) (hi : i < 40) (h : TaR N e0 e i) : TaR N e0 (am_put e 3 (N i).toNat (am_w32 (e 3 (N i).toNat + 1))) (i + 1) := by
  obtain ⟨h1, h2, h3⟩ := h
  have hn := hN i
  have hb := h2 (N i).toNat (by omega)
  rw [ti_w ⟨by omega, by omega⟩]
  refine ⟨fun y hy => ?_, fun v hv => ?_, fun k hk => (am_put_kr hk).trans (h3 k hk)⟩
  · rw [ti_tl_put, h1 y hy, ti_cn_s]
    by_cases g : (N i).toNat < y
    · rw [if_pos g, if_neg (by omega)]
    · rw [if_neg g, if_pos (by omega)]
  · by_cases g : v = (N i).toNat
    · rw [g, am_put_s]; omega
    · rw [am_put_i g]; have := h2 v hv; omega
/-- the least that is enough by so many -/
theorem ti_tallied {N : Int → Int} {e0 e : am_F} {i : Nat} {k : Int} (hi : i ≤ 40) (h : TaR N e0 e i) : ∀ (n : Nat) (m : Int) (F : Nat), m + n = 99 → 0 ≤ m → n + 1 ≤ F → ti_cn N i (m - 1) < k → (m ≤ am_wr (w_c_tallied_4 e k) 0 F (ti_tl e m.toNat, m) ∧ am_wr (w_c_tallied_4 e k) 0 F (ti_tl e m.toNat, m) ≤ 99) ∧ (am_wr (w_c_tallied_4 e k) 0 F (ti_tl e m.toNat, m) < 99 → k ≤ ti_cn N i (am_wr (w_c_tallied_4 e k) 0 F (ti_tl e m.toNat, m))) ∧ ti_cn N i (am_wr (w_c_tallied_4 e k) 0 F (ti_tl e m.toNat, m) - 1) < k := by
  obtain ⟨h1, h2, h3⟩ := h
  intro n
  induction n with
  | zero =>
    intro m F a1 a2 a3 a4
    obtain ⟨F', rfl⟩ : ∃ F', F = F' + 1 := ⟨F - 1, by omega⟩
    rw [am_wr_r (y := 99) (by unfold w_c_tallied_4; simp only []; rw [if_pos (by omega)])]
    have em : m = 99 := by omega
    rw [em] at a4 ⊢
    exact ⟨⟨by decide, by decide⟩, fun h => absurd h (by decide), a4⟩
  | succ n ih =>
    intro m F a1 a2 a3 a4
    obtain ⟨F', rfl⟩ : ∃ F', F = F' + 1 := ⟨F - 1, by omega⟩
    have e1 := h1 m.toNat (by omega)
    have e2 := h1 (m.toNat + 1) (by omega)
    rw [ti_tl_s] at e2
    have hb := h2 m.toNat (by omega)
    have hc := ti_cn_b N ((m.toNat : Int) - 1) i
    have e3 : am_w32 (ti_tl e m.toNat + e 3 m.toNat) = ti_cn N i m := by
      rw [e2, show ((m.toNat + 1 : Nat) : Int) - 1 = m by omega]
      have := ti_cn_b N m i
      exact ti_w ⟨by omega, by omega⟩
    have e4 : ti_tl e (m + 1).toNat = ti_cn N i m := by
      rw [show (m + 1).toNat = m.toNat + 1 by omega, ti_tl_s, e2, show ((m.toNat + 1 : Nat) : Int) - 1 = m by omega]
    by_cases g : ti_cn N i m < k
    · rw [am_wr_l (y := (ti_tl e (m + 1).toNat, m + 1)) (by unfold w_c_tallied_4; simp only []; rw [if_neg (by omega), e3, if_pos g, e4])]
      have h9 := ih (m + 1) F' (by omega) (by omega) (by omega) (by rw [show m + 1 - 1 = m by omega]; exact g)
      exact ⟨⟨by omega, h9.1.2⟩, h9.2⟩
    · rw [am_wr_r (y := m) (by unfold w_c_tallied_4; simp only []; rw [if_neg (by omega), e3, if_neg g])]
      exact ⟨⟨Int.le_refl _, by omega⟩, fun _ => by omega, a4⟩
theorem ti_cn_mono (N : Int → Int) {y z : Int} (h : y ≤ z) : ∀ n : Nat, ti_cn N n y ≤ ti_cn N n z := by
  intro n
  induction n with
  | zero => exact Int.le_refl _
  | succ n ih => rw [ti_cn_s, ti_cn_s]; split <;> split <;> omega
theorem ti_cn_neg {N : Int → Int} (hN : ∀ i, 0 ≤ N i ∧ N i ≤ 99) : ∀ n : Nat, ti_cn N n (-1) = 0 := by
  intro n
  induction n with
  | zero => rfl
  | succ n ih => rw [ti_cn_s, ih, if_pos (by have := hN n; omega)]; rfl
/-- tallied is the only one -/
theorem ti_tal_eq {N : Int → Int} {e0 e : am_F} {i : Nat} {k r : Int} (hN : ∀ i, 0 ≤ N i ∧ N i ≤ 99) (hi : i ≤ 40) (h : TaR N e0 e i) (hk : 1 ≤ k ∧ k ≤ i) (h1 : k ≤ ti_cn N i r) (h2 : ti_cn N i (r - 1) < k) : c_tallied e k = r := by
  have h9 := ti_tallied (k := k) hi h 99 0 100 (by decide) (by decide) (by decide) (by rw [show (0 : Int) - 1 = -1 by decide, ti_cn_neg hN]; omega)
  have ec : c_tallied e k = am_wr (w_c_tallied_4 e k) 0 100 (ti_tl e (0 : Int).toNat, 0) := rfl
  rw [← ec] at h9
  generalize c_tallied e k = t at *
  have h5 : k ≤ ti_cn N i t := by
    by_cases g : t < 99
    · exact h9.2.1 g
    · rw [show t = 99 by omega, ti_cn_all hN]; exact hk.2
  by_cases g1 : t < r
  · have := ti_cn_mono N (show t ≤ r - 1 by omega) i; omega
  · by_cases g2 : r < t
    · have := ti_cn_mono N (show r ≤ t - 1 by omega) i; omega
    · omega
/-- what a walker needs by the i-th seed -/
def ti_N (h : am_F) (w sd dq : Int) (i : Int) : Int := f_least (f_upTo h (am_put (am_put (f_beginT 0 h (fun _ _ => 0)) 0 2 (am_w32 (sd + i))) 0 3 dq) (f_leaves h w)) h w (f_comes h w)
theorem TrI_z : TrI (fun _ _ => 0) := ⟨⟨⟨Int.le_refl 0, (by decide : (0 : Int) ≤ 40)⟩, fun j => ⟨Int.le_refl 0, (by decide : (0 : Int) ≤ 99)⟩, ⟨(by decide : (-1 : Int) ≤ 0), (by decide : (0 : Int) ≤ 88)⟩, Or.inr ⟨Int.le_refl 0, (by decide : (0 : Int) ≤ 99)⟩⟩, rfl, rfl, rfl, fun _ _ _ => rfl⟩
theorem ti_leaves {h : am_F} (hW : HbW h) (w : Int) : (-1 ≤ f_leaves h w ∧ f_leaves h w < 40) ∧ ∀ s : Int, f_comes h w ≤ s → s ≤ f_comes h w + f_moves h w → s < 40 → -1 ≤ s ∧ s ≤ f_leaves h w := by
  have := hW w
  unfold f_leaves
  split
  · exact ⟨by omega, fun s a b c => by omega⟩
  · exact ⟨by omega, fun s a b c => by omega⟩
theorem ti_N_m {h c : am_F} {w sd dq : Int} (hC : HC h c) (hTb : TLb h c) (hFs : TFs h c) (hq : 0 ≤ dq ∧ dq ≤ 8) (hd : c 0 58 = -1) (hw : 0 ≤ w ∧ w < c 4 4) (i : Int) : (∀ q, k_needsAll c (k_goesD c q (am_w32 (sd + i)) dq) w = ti_N h w sd dq i) ∧ (∀ (t : am_F) (hb : Nat), TrI t → f_least (f_upTo h (am_put (am_put (f_beginT hb h t) 0 2 (am_w32 (sd + i))) 0 3 dq) (f_leaves h w)) h w (f_comes h w) = ti_N h w sd dq i) ∧ 0 ≤ ti_N h w sd dq i ∧ ti_N h w sd dq i ≤ 99 := by
  have hl := ti_leaves hC.1.2.1 w
  have key : ∀ (t : am_F) (hb : Nat), TrI t → ∀ q, f_least (f_upTo h (am_put (am_put (f_beginT hb h t) 0 2 (am_w32 (sd + i))) 0 3 dq) (f_leaves h w)) h w (f_comes h w) = k_needsAll c (k_goesD c q (am_w32 (sd + i)) dq) w := fun t hb ht q => by
    obtain ⟨u1, u2⟩ := ti_doubtTo (hb := hb) (sd := am_w32 (sd + i)) (st := f_leaves h w) hC hTb hFs ht hq hd hl.1
    exact (ti_needsAll hC u1.1.2.1 hw (fun s a1 a2 a3 => u2 s q (hl.2 s a1 a2 a3).1 (hl.2 s a1 a2 a3).2)).1
  have k0 := key _ 0 TrI_z
  refine ⟨fun q => (k0 q).symm, fun t hb ht => (key t hb ht (fun _ _ => 0)).trans (k0 _).symm, ?_⟩
  obtain ⟨u1, -⟩ := ti_doubtTo (hb := 0) (sd := am_w32 (sd + i)) (st := f_leaves h w) hC hTb hFs TrI_z hq hd hl.1
  exact f_least_b _ h w _ hC.1.1.1 u1.1.2.1
theorem ti_tallySeeds {e h c t : am_F} {hb : Nat} {w sd dq : Int} {mn : Nat} (hC : HC h c) (hTb : TLb h c) (hFs : TFs h c) (ht : TrI t) (hq : 0 ≤ dq ∧ dq ≤ 8) (hd : c 0 58 = -1) (hw : 0 ≤ w ∧ w < c 4 4) (hm : mn ≤ 40) : TaR (ti_N h w sd dq) e (c_tallySeeds hb e h t w sd dq mn).1 mn ∧ TrI (c_tallySeeds hb e h t w sd dq mn).2 := by
  have hN := ti_N_m (sd := sd) hC hTb hFs hq hd hw
  unfold c_tallySeeds
  simp only []
  rw [Int.toNat_natCast]
  have h9 := am_fold_inv (P := fun i (x : am_F × am_F) => TaR (ti_N h w sd dq) e x.1 i.toNat ∧ TrI x.2) (g := g_c_tallySeeds_21 hb h w sd dq (f_leaves h w)) mn 0 (am_row e 3 (am_fill 100 (e 3) 0), t) ⟨TaR_0, ht⟩ (fun i x a1 a2 hx => by
    obtain ⟨x1, x2⟩ := hx
    have hl := ti_leaves hC.1.2.1 w
    have u1 := (ti_doubtTo (hb := hb) (sd := am_w32 (sd + i)) (st := f_leaves h w) hC hTb hFs x2 hq hd hl.1).1
    obtain ⟨n1, n2, n3⟩ := hN i
    unfold g_c_tallySeeds_21
    simp only []
    rw [n2 x.2 hb x2, if_neg (by omega), if_neg (by omega)]
    refine ⟨?_, u1⟩
    have := TaR_s (N := ti_N h w sd dq) (fun i => (hN i).2.2) (by omega) x1
    rw [show ((i.toNat : Nat) : Int) = i by omega] at this
    rw [show (i + 1).toNat = i.toNat + 1 by omega]
    exact this)
  rw [show ((0 : Int) + (mn : Int)).toNat = mn by omega] at h9
  exact h9
theorem ti_needed {h c q : am_F} {w sd dq : Int} {mn : Nat} (hN : ∀ i q, k_needsAll c (k_goesD c q (am_w32 (sd + i)) dq) w = ti_N h w sd dq i) (hV : MdV c) : (∀ i : Nat, i < mn → k_laysNeeded c q w sd dq mn 734 i = ti_N h w sd dq i) ∧ k_laysNeeded c q w sd dq mn 2 = q 2 ∧ k_laysNeeded c q w sd dq mn 0 0 = q 0 0 := by
  unfold k_laysNeeded
  rw [Int.toNat_natCast]
  have h9 := am_fold_inv (P := fun i x => (∀ j : Nat, (j : Int) < i → x 734 j = ti_N h w sd dq j) ∧ x 2 = q 2 ∧ x 0 0 = q 0 0) (g := g_k_laysNeeded_3 c w sd dq) mn 0 q ⟨fun j hj => by omega, rfl, rfl⟩ (fun i x a1 a2 hx => by
    obtain ⟨x1, x2, x3⟩ := hx
    obtain ⟨w1, w2, w3⟩ := ti_goD_0 (q := x) (sd := am_w32 (sd + i)) (dq := dq) hV
    unfold g_k_laysNeeded_3
    refine ⟨fun j hj => ?_, ?_, ?_⟩
    · by_cases g : j = i.toNat
      · rw [g, am_put_s, hN, show ((i.toNat : Nat) : Int) = i by omega]
      · rw [am_put_i g, w3 734 (by decide)]
        exact x1 j (by omega)
    · rw [am_put_kr (by decide), w2, x2]
    · rw [am_put_k (by decide), w1, x3])
  exact ⟨fun i hi => h9.1 i (by omega), h9.2⟩
theorem ti_enoughOf {N : Int → Int} {q : am_F} {y : Int} {mn : Nat} (h : ∀ i : Nat, i < mn → q 734 i = N i) : k_enoughOf q y mn = ti_cn N mn y := by
  unfold k_enoughOf ti_cn
  rw [Int.toNat_natCast]
  refine am_fold_eq mn 0 0 fun i m a1 a2 => ?_
  unfold g_k_enoughOf_5
  simp only []
  rw [h i.toNat (by omega), show ((i.toNat : Nat) : Int) = i by omega]
theorem ti_sds (dq mn : Int) : (n_seeds dq mn = 0 ∧ k_areSeeds dq mn = 1 ∧ (0 ≤ dq ∧ dq ≤ 8) ∧ 1 ≤ mn ∧ mn ≤ 40) ∨ (n_seeds dq mn = 3 ∧ k_areSeeds dq mn = 0) := by
  unfold n_seeds k_areSeeds
  rcases ti_rng dq 0 8 with ⟨a, b, c1⟩ | ⟨a, b, c1⟩
  · rcases ti_rng mn 1 40 with ⟨a2, b2, c2⟩ | ⟨a2, b2, c2⟩
    · simp only [a, b, a2, b2, reduceIte, Int.reduceEq]
      exact Or.inl ⟨trivial, trivial, c1, c2⟩
    · simp only [a, b, a2, b2, reduceIte, Int.reduceEq]
      exact Or.inr ⟨trivial, trivial⟩
  · simp only [a, b, reduceIte, Int.reduceEq]
    exact Or.inr ⟨trivial, trivial⟩
/-- of the model: the least or the greatest need -/
theorem ti_spanM {h c q : am_F} {w sd dq v : Int} {mn : Nat} (hN : ∀ i q, k_needsAll c (k_goesD c q (am_w32 (sd + i)) dq) w = ti_N h w sd dq i) (hN9 : ∀ i, 0 ≤ ti_N h w sd dq i ∧ ti_N h w sd dq i ≤ 99) (hV : MdV c) (hv : v = 0 ∨ v = 1) (hm : 1 ≤ mn) : (∀ y : Int, (am_fold (g_k_span_68 c w sd dq v) 0 mn (-1, q)).1 ≤ y ↔ (if v = 0 then 1 else (mn : Int)) ≤ ti_cn (ti_N h w sd dq) mn y) ∧ (am_fold (g_k_span_68 c w sd dq v) 0 mn (-1, q)).2 2 = q 2 ∧ (am_fold (g_k_span_68 c w sd dq v) 0 mn (-1, q)).2 0 0 = q 0 0 := by
  have h9 := am_fold_inv (P := fun i (x : Int × am_F) => (i = 0 → x.1 = -1) ∧ (0 < i → 0 ≤ x.1 ∧ ∀ y : Int, x.1 ≤ y ↔ (if v = 0 then 1 else i) ≤ ti_cn (ti_N h w sd dq) i.toNat y) ∧ x.2 2 = q 2 ∧ x.2 0 0 = q 0 0) (g := g_k_span_68 c w sd dq v) mn 0 (-1, q) ⟨fun _ => rfl, fun h => by omega, rfl, rfl⟩ (fun i x a1 a2 hx => by
    obtain ⟨x1, x2, x3, x4⟩ := hx
    obtain ⟨w1, w2, w3⟩ := ti_goD_0 (q := x.2) (sd := am_w32 (sd + i)) (dq := dq) hV
    have hn := hN9 i
    unfold g_k_span_68
    simp only []
    rw [hN]
    refine ⟨fun h => by omega, fun _ => ?_, by rw [w2, x3], by rw [w1, x4]⟩
    have es : ∀ y, ti_cn (ti_N h w sd dq) (i + 1).toNat y = ti_cn (ti_N h w sd dq) i.toNat y + (if y < ti_N h w sd dq i then 0 else 1) := fun y => by
      rw [show (i + 1).toNat = i.toNat + 1 by omega, ti_cn_s, show ((i.toNat : Nat) : Int) = i by omega]
    by_cases g0 : i = 0
    · rw [x1 g0, if_pos rfl]
      refine ⟨hn.1, fun y => ?_⟩
      rw [es, g0]
      have e0 : ti_cn (ti_N h w sd dq) (0 : Int).toNat y = 0 := rfl
      rw [e0]
      rcases hv with rfl | rfl
      · rw [if_pos rfl]; split <;> omega
      · rw [if_neg (by decide)]; split <;> omega
    · obtain ⟨p1, p2⟩ := x2 (by omega)
      rw [if_neg (by omega)]
      rcases hv with rfl | rfl
      · rw [if_pos rfl]
        simp only [if_true] at p2 ⊢
        by_cases g : x.1 ≤ ti_N h w sd dq i
        · rw [if_pos g]
          refine ⟨p1, fun y => ?_⟩
          have p3 := p2 y
          have p4 := ti_cn_b (ti_N h w sd dq) y i.toNat
          rw [es]
          split <;> omega
        · rw [if_neg g]
          refine ⟨hn.1, fun y => ?_⟩
          have p3 := p2 y
          have p4 := ti_cn_b (ti_N h w sd dq) y i.toNat
          rw [es]
          split <;> omega
      · rw [if_neg (by decide)]
        simp only [show ¬ (1 : Int) = 0 by decide, if_false] at p2 ⊢
        by_cases g : ti_N h w sd dq i ≤ x.1
        · rw [if_pos g]
          refine ⟨p1, fun y => ?_⟩
          have p3 := p2 y
          have p4 := ti_cn_b (ti_N h w sd dq) y i.toNat
          rw [es]
          split <;> omega
        · rw [if_neg g]
          refine ⟨hn.1, fun y => ?_⟩
          have p3 := p2 y
          have p4 := ti_cn_b (ti_N h w sd dq) y i.toNat
          rw [es]
          split <;> omega)
  rw [show (0 : Int) + (mn : Int) = mn by omega] at h9
  obtain ⟨x1, x2, x3, x4⟩ := h9
  rw [Int.toNat_natCast] at x2
  exact ⟨(x2 (by omega)).2, x3, x4⟩
theorem ti_span {h c e t q : am_F} {hb : Nat} {w sd dq v : Int} {mn : Nat} (hC : HC h c) (hTb : TLb h c) (hFs : TFs h c) (ht : TrI t) (hq : 0 ≤ dq ∧ dq ≤ 8) (hd : c 0 58 = -1) (hw : 0 ≤ w ∧ w < c 4 4) (hm : 1 ≤ mn ∧ mn ≤ 40) (hv : v = 0 ∨ v = 1) : (if v = 0 then c_tallied (c_tallySeeds hb e h t w sd dq mn).1 1 else c_tallied (c_tallySeeds hb e h t w sd dq mn).1 mn) = (am_fold (g_k_span_68 c w sd dq v) 0 mn (-1, q)).1 := by
  have hN := ti_N_m (sd := sd) hC hTb hFs hq hd hw
  obtain ⟨t1, t2⟩ := ti_tallySeeds (e := e) (hb := hb) (sd := sd) (mn := mn) hC hTb hFs ht hq hd hw hm.2
  obtain ⟨s1, -⟩ := ti_spanM (q := q) (v := v) (mn := mn) (fun i q => (hN i).1 q) (fun i => (hN i).2.2) hC.2.1 hv hm.1
  generalize (am_fold (g_k_span_68 c w sd dq v) 0 mn (-1, q)).1 = r at *
  rcases hv with rfl | rfl
  · rw [if_pos rfl]
    simp only [if_true] at s1
    exact ti_tal_eq (fun i => (hN i).2.2) hm.2 t1 ⟨by decide, by omega⟩ ((s1 r).mp (Int.le_refl _)) (by
      have := s1 (r - 1); omega)
  · rw [if_neg (by decide)]
    simp only [show ¬ (1 : Int) = 0 by decide, if_false] at s1
    exact ti_tal_eq (fun i => (hN i).2.2) hm.2 t1 ⟨by omega, by omega⟩ ((s1 r).mp (Int.le_refl _)) (by
      have := s1 (r - 1); omega)
/-- the class's header but the tally -/
def TO3 (a code v : Int) (e e' : am_F) (kv : Int) (q' : am_F) : Prop := (code = 0 ∧ q' 0 0 = 0 ∧ v = kv ∧ (∀ k, k ≠ 3 → e' k = e k) ∧ RE e' q') ∨ ((code = 1 ∨ code = 2 ∨ code = 3) ∧ q' 0 0 = (if code = a then 1 else 2) ∧ e' = n_ref e code ∧ RE (n_ref e code) q')
theorem TO3_ok {a v kv : Int} {e e' q' : am_F} (h0 : q' 0 0 = 0) (hv : v = kv) (he : ∀ k, k ≠ 3 → e' k = e k) (hR : RE e q') : TO3 a 0 v e e' kv q' := Or.inl ⟨rfl, h0, hv, he, fun j hj => by rw [he 2 (by decide)]; exact hR j hj⟩
theorem TO3_ref {a code v kv what rs : Int} {e q : am_F} (hc : code = 1 ∨ code = 2 ∨ code = 3) (hw : what = if code = a then 1 else 2) (hr : rs = code - 1) (hR : RE e q) : TO3 a code v e (n_ref e code) kv (k_refuse (am_put q 0 0 0) 1 what rs) := by
  rcases TO_ref (a := a) (v := v) (kv := kv) hc hw hr hR with h | h
  · rcases hc with rfl | rfl | rfl <;> exact absurd h.1 (by decide)
  · exact Or.inr h
theorem to_span {e h c t q : am_F} {hb : Nat} {w sd dq mn v : Int} (hC : HC h c) (hTb : TLb h c) (hFs : TFs h c) (hd : c 0 58 = -1) (ht : TrI t) (hR : RE e q) : TO3 2 (c_span hb e h t w sd dq mn v).1 (c_span hb e h t w sd dq mn v).2.1 e (c_span hb e h t w sd dq mn v).2.2.1 (k_span c q w sd dq mn v).1 (k_span c q w sd dq mn v).2 ∧ TrI (c_span hb e h t w sd dq mn v).2.2.2 := by
  obtain ⟨hHI, hV, hT, hN, hW, hWt, hSh, hL⟩ := id hC
  unfold c_span k_span
  rcases ti_rw hW.1 w with ⟨a0, b0, c0⟩ | ⟨a0, b0⟩
  · rcases ti_sds dq mn with ⟨a1, b1, c1⟩ | ⟨a1, b1⟩
    · rcases ti_rng v 0 1 with ⟨a2, b2, c2⟩ | ⟨a2, b2, d2⟩
      · simp only [a0, b0, a1, b1, a2, b2, k_isWalker, reduceIte, Int.reduceEq, k_refuse0]
        obtain ⟨m, rfl⟩ : ∃ m : Nat, mn = m := ⟨mn.toNat, by omega⟩
        have hn := ti_N_m (sd := sd) hC hTb hFs c1.1 hd c0
        obtain ⟨t1, t2⟩ := ti_tallySeeds (e := e) (hb := hb) (sd := sd) (mn := m) hC hTb hFs ht c1.1 hd c0 (by omega)
        obtain ⟨s1, s2, s3⟩ := ti_spanM (q := am_put q 0 0 0) (v := v) (mn := m) (fun i q => (hn i).1 q) (fun i => (hn i).2.2) hV (by omega) (by omega)
        rw [Int.toNat_natCast]
        refine ⟨TO3_ok (by rw [s3, am_put_s]) (ti_span hC hTb hFs ht c1.1 hd c0 (by omega) (by omega)) t1.2.2 (fun j hj => by rw [s2]; exact RE_put hR j hj), t2⟩
      · simp only [a0, b0, a1, b1, a2, b2, k_isWalker, reduceIte, Int.reduceEq, k_refuse0]
        exact ⟨TO3_ref (by decide) (by decide) (by decide) hR, ht⟩
    · simp only [a0, b0, a1, b1, k_isWalker, reduceIte, Int.reduceEq, k_refuse0]
      exact ⟨TO3_ref (by decide) (by decide) (by decide) hR, ht⟩
  · simp only [a0, b0, k_isWalker, reduceIte, Int.reduceEq, k_refuse0]
    exact ⟨TO3_ref (by decide) (by decide) (by decide) hR, ht⟩
theorem to_enough {e h c t q : am_F} {hb : Nat} {w yd sd dq mn : Int} (hC : HC h c) (hTb : TLb h c) (hFs : TFs h c) (hd : c 0 58 = -1) (ht : TrI t) (hR : RE e q) : TO3 2 (c_enough hb e h t w yd sd dq mn).1 (c_enough hb e h t w yd sd dq mn).2.1 e (c_enough hb e h t w yd sd dq mn).2.2.1 (k_enough c q w yd sd dq mn).1 (k_enough c q w yd sd dq mn).2 ∧ TrI (c_enough hb e h t w yd sd dq mn).2.2.2 := by
  obtain ⟨hHI, hV, hT, hN, hW, hWt, hSh, hL⟩ := id hC
  unfold c_enough k_enough
  rcases ti_rw hW.1 w with ⟨a0, b0, c0⟩ | ⟨a0, b0⟩
  · rcases ti_rng yd 0 99 with ⟨a2, b2, c2⟩ | ⟨a2, b2, d2⟩
    · rcases ti_sds dq mn with ⟨a1, b1, c1⟩ | ⟨a1, b1⟩
      · simp only [a0, b0, a1, b1, a2, b2, k_isWalker, reduceIte, Int.reduceEq, k_refuse0]
        obtain ⟨m, rfl⟩ : ∃ m : Nat, mn = m := ⟨mn.toNat, by omega⟩
        have hn := ti_N_m (sd := sd) hC hTb hFs c1.1 hd c0
        obtain ⟨t1, t2⟩ := ti_tallySeeds (e := e) (hb := hb) (sd := sd) (mn := m) hC hTb hFs ht c1.1 hd c0 (by omega)
        obtain ⟨n1, n2, n3⟩ := ti_needed (q := am_put q 0 0 0) (mn := m) (fun i q => (hn i).1 q) hV
        refine ⟨TO3_ok (by rw [n3, am_put_s]) ?_ t1.2.2 (fun j hj => by rw [n2]; exact RE_put hR j hj), t2⟩
        rw [ti_enoughOf n1]
        have e1 := t1.1 (yd + 1).toNat (by omega)
        rw [show (((yd + 1).toNat : Nat) : Int) - 1 = yd by omega] at e1
        rw [← e1]
        have hw : ∀ n : Nat, n ≤ 100 → am_fold (g_c_enough_44 (c_tallySeeds hb e h t w sd dq m).1) 0 n 0 = ti_tl (c_tallySeeds hb e h t w sd dq m).1 n := by
          intro n
          induction n with
          | zero => intro _; rfl
          | succ n ih =>
            intro hn9
            rw [ti_last, ih (by omega), ti_tl_s]
            unfold g_c_enough_44
            rw [show ((0 : Int) + (n : Int)).toNat = n by omega]
            have q1 := t1.1 n (by omega)
            have q2 := ti_cn_b (ti_N h w sd dq) ((n : Int) - 1) m
            have q3 := t1.2.1 n (by omega)
            exact ti_w ⟨by omega, by omega⟩
        exact hw _ (by omega)
      · simp only [a0, b0, a1, b1, a2, b2, k_isWalker, reduceIte, Int.reduceEq, k_refuse0]
        exact ⟨TO3_ref (by decide) (by decide) (by decide) hR, ht⟩
    · simp only [a0, b0, a2, b2, k_isWalker, reduceIte, Int.reduceEq, k_refuse0]
      exact ⟨TO3_ref (by decide) (by decide) (by decide) hR, ht⟩
  · simp only [a0, b0, k_isWalker, reduceIte, Int.reduceEq, k_refuse0]
    exact ⟨TO3_ref (by decide) (by decide) (by decide) hR, ht⟩
/-- the model's search for the least -/
theorem ti_sureM {N : Int → Int} {q : am_F} {k : Int} {mn : Nat} (hN : ∀ i, 0 ≤ N i ∧ N i ≤ 99) (h : ∀ i : Nat, i < mn → q 734 i = N i) (hk : k ≤ mn) : ∀ (n : Nat) (m : Int) (F : Nat), m + n = 99 → n + 1 ≤ F → ti_cn N mn (m - 1) < k → k ≤ ti_cn N mn (am_wh (w_k_sure_76 q k mn) F m) ∧ ti_cn N mn (am_wh (w_k_sure_76 q k mn) F m - 1) < k := by
  intro n
  induction n with
  | zero =>
    intro m F a1 a2 a3
    obtain ⟨F', rfl⟩ : ∃ F', F = F' + 1 := ⟨F - 1, by omega⟩
    have e : ti_cn N mn m = mn := by rw [show m = 99 by omega]; exact ti_cn_all hN mn
    rw [am_wh_r (y := m) (by unfold w_k_sure_76; rw [ti_enoughOf h, if_pos (by omega)])]
    exact ⟨by omega, a3⟩
  | succ n ih =>
    intro m F a1 a2 a3
    obtain ⟨F', rfl⟩ : ∃ F', F = F' + 1 := ⟨F - 1, by omega⟩
    by_cases g : k ≤ ti_cn N mn m
    · rw [am_wh_r (y := m) (by unfold w_k_sure_76; rw [ti_enoughOf h, if_pos g])]
      exact ⟨g, a3⟩
    · rw [am_wh_l (y := m + 1) (by unfold w_k_sure_76; rw [ti_enoughOf h, if_neg g])]
      exact ih (m + 1) F' (by omega) (by omega) (by rw [show m + 1 - 1 = m by omega]; omega)
theorem to_sure {e h c t q : am_F} {hb : Nat} {w k sd dq mn : Int} (hC : HC h c) (hTb : TLb h c) (hFs : TFs h c) (hd : c 0 58 = -1) (ht : TrI t) (hR : RE e q) : TO3 2 (c_sure hb e h t w k sd dq mn).1 (c_sure hb e h t w k sd dq mn).2.1 e (c_sure hb e h t w k sd dq mn).2.2.1 (k_sure c q w k sd dq mn).1 (k_sure c q w k sd dq mn).2 ∧ TrI (c_sure hb e h t w k sd dq mn).2.2.2 := by
  obtain ⟨hHI, hV, hT, hN, hW, hWt, hSh, hL⟩ := id hC
  unfold c_sure k_sure
  rcases ti_rw hW.1 w with ⟨a0, b0, c0⟩ | ⟨a0, b0⟩
  · rcases ti_sds dq mn with ⟨a1, b1, c1⟩ | ⟨a1, b1⟩
    · rcases ti_rng k 1 mn with ⟨a2, b2, c2⟩ | ⟨a2, b2, d2⟩
      · simp only [a0, b0, a1, b1, a2, b2, k_isWalker, reduceIte, Int.reduceEq, k_refuse0]
        obtain ⟨m, rfl⟩ : ∃ m : Nat, mn = m := ⟨mn.toNat, by omega⟩
        have hn := ti_N_m (sd := sd) hC hTb hFs c1.1 hd c0
        obtain ⟨t1, t2⟩ := ti_tallySeeds (e := e) (hb := hb) (sd := sd) (mn := m) hC hTb hFs ht c1.1 hd c0 (by omega)
        obtain ⟨n1, n2, n3⟩ := ti_needed (q := am_put q 0 0 0) (mn := m) (fun i q => (hn i).1 q) hV
        refine ⟨TO3_ok (by rw [n3, am_put_s]) ?_ t1.2.2 (fun j hj => by rw [n2]; exact RE_put hR j hj), t2⟩
        have h9 := ti_sureM (k := k) (fun i => (hn i).2.2) n1 c2.2 99 0 101 (by decide) (by decide) (by rw [show (0 : Int) - 1 = -1 by decide, ti_cn_neg (fun i => (hn i).2.2)]; omega)
        exact ti_tal_eq (fun i => (hn i).2.2) (by omega) t1 ⟨c2.1, c2.2⟩ h9.1 h9.2
      · simp only [a0, b0, a1, b1, a2, b2, k_isWalker, reduceIte, Int.reduceEq, k_refuse0]
        exact ⟨TO3_ref (by decide) (by decide) (by decide) hR, ht⟩
    · simp only [a0, b0, a1, b1, k_isWalker, reduceIte, Int.reduceEq, k_refuse0]
      exact ⟨TO3_ref (by decide) (by decide) (by decide) hR, ht⟩
  · simp only [a0, b0, k_isWalker, reduceIte, Int.reduceEq, k_refuse0]
    exact ⟨TO3_ref (by decide) (by decide) (by decide) hR, ht⟩
