/-! THE TIE: a lamp more for a ship -/
theorem ti_find_split {β : Type} {p : Int → Option β} : ∀ (m n : Nat) (i : Int), am_find p i (m + n) = match am_find p i m with | some r => some r | none => am_find p (i + m) n := by
  intro m
  induction m with
  | zero => intro n i; simp [am_find]
  | succ m ih =>
    intro n i
    rw [show m + 1 + n = (m + n) + 1 by omega]
    cases e : p i with
    | none => rw [am_find_n e, am_find_n e, ih, show i + 1 + (m : Int) = i + ((m + 1 : Nat) : Int) by omega]
    | some r => rw [am_find_y e, am_find_y e]
theorem ti_comes_lt {c q : am_F} {k : Int} {n : Nat} (hn : n ≤ 40) : ((am_find (p_k_comesIn_2 c q k) 0 40).elim (-1) (fun r9 => r9) = -1 ∧ (am_find (p_k_comesIn_2 c q k) 0 n).elim (-1) (fun r9 => r9) = -1) ∨ (0 ≤ (am_find (p_k_comesIn_2 c q k) 0 40).elim (-1) (fun r9 => r9) ∧ (am_find (p_k_comesIn_2 c q k) 0 40).elim (-1) (fun r9 => r9) < 40 ∧ (am_find (p_k_comesIn_2 c q k) 0 n).elim (-1) (fun r9 => r9) = if (am_find (p_k_comesIn_2 c q k) 0 40).elim (-1) (fun r9 => r9) < n then (am_find (p_k_comesIn_2 c q k) 0 40).elim (-1) (fun r9 => r9) else -1) := by
  have e := ti_find_split (p := p_k_comesIn_2 c q k) n (40 - n) 0
  rw [show n + (40 - n) = 40 by omega] at e
  cases h1 : am_find (p_k_comesIn_2 c q k) 0 n with
  | some r =>
    rw [h1] at e
    obtain ⟨j, a1, a2, a3⟩ := am_find_spec _ _ h1
    have hr := ti_comes_some a3
    rw [e]
    show (r = -1 ∧ r = -1) ∨ (0 ≤ r ∧ r < 40 ∧ r = if r < n then r else -1)
    rw [if_pos (by omega)]
    exact Or.inr ⟨by omega, by omega, rfl⟩
  | none =>
    rw [h1] at e
    simp only [] at e
    rw [e]
    cases h2 : am_find (p_k_comesIn_2 c q k) (0 + (n : Int)) (40 - n) with
    | none => exact Or.inl ⟨rfl, rfl⟩
    | some r =>
      obtain ⟨j, a1, a2, a3⟩ := am_find_spec _ _ h2
      have hr := ti_comes_some a3
      show (r = -1 ∧ (-1 : Int) = -1) ∨ (0 ≤ r ∧ r < 40 ∧ (-1 : Int) = if r < n then r else -1)
      rw [if_neg (by omega)]
      exact Or.inr ⟨by omega, by omega, rfl⟩
/-- the model's state with one lamp more -/
def ti_cp (c : am_F) (x y r : Int) : am_F := am_put (am_put (am_put (am_put c (67 + (c 0 45).toNat) 0 x) (67 + (c 0 45).toNat) 1 y) (67 + (c 0 45).toNat) 2 r) 0 45 (c 0 45 + 1)
theorem ti_cp_k {c : am_F} {x y r : Int} {k : Nat} (h0 : k ≠ 0) (h : k ≠ 67 + (c 0 45).toNat) : ti_cp c x y r k = c k := by
  unfold ti_cp
  rw [am_put_kr h0, am_put_kr h, am_put_kr h, am_put_kr h]
theorem ti_cp_0 {c : am_F} {x y r : Int} {j : Nat} (h : j ≠ 45) : ti_cp c x y r 0 j = c 0 j := by
  unfold ti_cp
  rw [am_put_i h, am_put_k (by omega), am_put_k (by omega), am_put_k (by omega)]
def LiE (c c' : am_F) : Prop := (∀ k, k ≠ 0 → k ≠ 67 + (c 0 45).toNat → c' k = c k) ∧ c' 0 = c 0
theorem LiE_cp {c c' : am_F} {x y r : Int} (h : LiE c c') : LiE c (am_put (ti_cp c' x y r) 0 45 (c' 0 45 + 1 - 1)) := by
  have e45 : c' 0 45 = c 0 45 := congrFun h.2 45
  refine ⟨fun k h0 hk => ?_, funext fun j => ?_⟩
  · rw [am_put_kr h0, ti_cp_k h0 (by rw [e45]; exact hk)]
    exact h.1 k h0 hk
  · by_cases g : j = 45
    · rw [g, am_put_s, e45]; omega
    · rw [am_put_i g, ti_cp_0 g, h.2]
theorem LiE_told {c c' : am_F} (h : LiE c c') (h45 : c 0 45 = c 4 2) (hL : c 0 45 ≤ 7) : Told c c' := fun k hk => h.1 k (by omega) (by omega)
theorem LiE_V {c c' : am_F} (h : LiE c c') (hV : MdV c) (hL : c 0 45 ≤ 7) : MdV c' := by
  unfold MdV
  rw [h.1 4 (by decide) (by omega), h.2]
  exact hV
theorem ti_lightI {h c t : am_F} {hb : Nat} {x y bu : Int} (hC : HC h c) (hTb : TLb h c) (hFs : TFs h c) (hd : c 0 58 = -1 ∧ c 0 61 = -1) (ht : TrI t) (hx : 0 ≤ x ∧ x < c 4 0) (hy : 0 ≤ y ∧ y < c 4 1) (hbu : 0 ≤ bu ∧ bu ≤ 20) : RunAt False h (ti_cp c x y bu) (fun _ => True) 0 0 (am_put (am_put (f_beginT hb h t) 0 4 (x + 10 * y)) 0 5 bu) ∧ RnZ (am_put (am_put (f_beginT hb h t) 0 4 (x + 10 * y)) 0 5 bu) ∧ TH h (ti_cp c x y bu) := by
  obtain ⟨hHI, hV, hH, hN, hW, hWt, hSh, hL⟩ := hC
  have v1 := hV.1
  have v2 := hV.2.1
  have v3 := hV.2.2.1
  have h45 := hN.2.2
  have h5 := hN.2.1
  have er : ∀ k, k ≠ 0 → am_put (am_put (f_beginT hb h t) 0 4 (x + 10 * y)) 0 5 bu k = f_begin h t k := fun k hk => by
    rw [am_put_kr hk, am_put_kr hk]
    unfold f_beginT
    exact am_put_kr hk
  obtain ⟨g1, g3, g4⟩ := f_begin_01 h t
  have e4 : am_put (am_put (f_beginT hb h t) 0 4 (x + 10 * y)) 0 5 bu 0 4 = x + 10 * y := by rw [am_put_i (by decide), am_put_s]
  have e5 : am_put (am_put (f_beginT hb h t) 0 4 (x + 10 * y)) 0 5 bu 0 5 = bu := am_put_s
  have e1 : am_put (am_put (f_beginT hb h t) 0 4 (x + 10 * y)) 0 5 bu 0 1 = 0 := by
    rw [am_put_i (by decide), am_put_i (by decide)]
    unfold f_beginT
    rw [am_put_i (by decide)]; exact g1
  have e3 : am_put (am_put (f_beginT hb h t) 0 4 (x + 10 * y)) 0 5 bu 0 3 = 0 := by
    rw [am_put_i (by decide), am_put_i (by decide)]
    unfold f_beginT
    rw [am_put_i (by decide)]; exact g3
  have eL : (67 + (h 0 5).toNat) = 67 + (c 0 45).toNat := by rw [h5, h45]
  have p0 : ti_cp c x y bu (67 + (c 0 45).toNat) 0 = x := by
    unfold ti_cp
    rw [am_put_k (by omega), am_put_i (by decide), am_put_i (by decide), am_put_s]
  have p1 : ti_cp c x y bu (67 + (c 0 45).toNat) 1 = y := by
    unfold ti_cp
    rw [am_put_k (by omega), am_put_i (by decide), am_put_s]
  have p2 : ti_cp c x y bu (67 + (c 0 45).toNat) 2 = bu := by
    unfold ti_cp
    rw [am_put_k (by omega), am_put_s]
  have hTold : Told c (ti_cp c x y bu) := fun k hk => ti_cp_k (by omega) (by omega)
  refine ⟨RunAt_begin (r := t) er e1 ⟨by rw [e4]; omega, Or.inr (by rw [e5]; omega)⟩ ?_ hHI.1.1 (fun q _ => ?_) ht.1.2.1 hHI.2.2.2.2.1 ⟨?_, hFs.2⟩ ht.2, ?_, Told_TH hTold hV hH⟩
  · unfold TLp
    rw [e4, e5, eL, p0, p1, p2]
    refine ⟨fun i a1 a2 => ?_, Or.inr ⟨by omega, ?_, rfl, by omega, rfl, hbu.1⟩⟩
    · rw [ti_cp_k (by omega) (by omega)]
      exact hTb i a1 a2
    · unfold ti_cp
      rw [am_put_s]; omega
  · refine Or.inl ⟨?_, by omega⟩
    rw [ti_cp_0 (by decide)]; exact hd.2
  · intro a b a1 a2 a3 a4
    rw [ti_cp_k (by decide) (by omega)]
    exact hFs.1 a b a1 a2 a3 a4
  · have hz := RnZ_begin (h := h) ht.2
    unfold RnZ
    rw [er 3 (by decide), er 4 (by decide), er 5 (by decide), er 7 (by decide)]
    exact hz
theorem ti_lightStep {h c t q : am_F} {hb : Nat} {x y bu k soon : Int} (hC : HC h c) (hTb : TLb h c) (hFs : TFs h c) (hd : c 0 58 = -1 ∧ c 0 61 = -1) (ht : TrI t) (hk : 0 ≤ k ∧ k < c 4 6) (hx : 0 ≤ x ∧ x < c 4 0) (hy : 0 ≤ y ∧ y < c 4 1) (hbu : 0 ≤ bu ∧ bu ≤ 20) (hs : 0 ≤ soon ∧ soon ≤ 40) (c2 : am_F) (hC2 : HC h c2) (hk2 : 0 ≤ k ∧ k < c2 4 6) : TrI (c_firstClear64 h (am_put (am_put (f_beginT hb h t) 0 4 (x + 10 * y)) 0 5 bu) k soon).2 ∧ (c_firstClear64 h (am_put (am_put (f_beginT hb h t) 0 4 (x + 10 * y)) 0 5 bu) k soon).1 = (am_find (p_k_comesIn_2 c2 (k_goes (ti_cp c x y bu) q) k) 0 soon.toNat).elim (-1) (fun r9 => r9) := by
  obtain ⟨r1, r2, r3⟩ := ti_lightI (hb := hb) hC hTb hFs hd ht hx hy hbu
  have hA := hC.1.1
  have h9 := ti_firstClear (I := fun r => (∃ k', RunAt False h (ti_cp c x y bu) (fun _ => True) 0 k' r) ∧ RnZ r) (q := k_goes (ti_cp c x y bu) q) hC2 hk2 hs.2 (fun r s i1 i2 i3 => by
    obtain ⟨⟨k', i1⟩, iz⟩ := i1
    have hu := RunAt_upTo hA r3 i1 (st := s) (by omega) (by rw [ti_cp_0 (by decide)]; have := i1.1; omega)
    refine ⟨⟨⟨_, hu⟩, RnZ_upTo hA iz⟩, FQ_of hu.2.2.1 (by omega) (RunAt_read (q := q) hA r3 hu trivial (p := s + 1) (by split <;> omega)).1⟩) soon.toNat 0 _ 41 (by omega) (by decide) ⟨⟨_, r1⟩, r2⟩ (by omega)
  obtain ⟨⟨⟨k', i1⟩, iz⟩, e⟩ := h9
  exact ⟨⟨RunAt_I i1, iz⟩, e⟩
def LiR (h c q0 : am_F) (x : Int × Int × am_F) (y : Int × Int × am_F × am_F) : Prop := x.2.1 = y.1 ∧ (x.2.1 = -1 → x.1 = 40) ∧ (x.2.1 ≠ -1 → x.1 = y.2.1 ∧ 0 ≤ x.1 ∧ x.1 ≤ 39) ∧ TrI x.2.2 ∧ LiE c y.2.2.1 ∧ y.2.2.2 2 = q0 2 ∧ y.2.2.2 0 0 = q0 0 0
theorem ti_lightCell {h c q0 : am_F} {hb : Nat} {k bu y x : Int} {a : Int × Int × am_F} {b : Int × Int × am_F × am_F} (hC : HC h c) (hTb : TLb h c) (hFs : TFs h c) (hd : c 0 58 = -1 ∧ c 0 61 = -1) (hk : 0 ≤ k ∧ k < c 4 6) (hx : 0 ≤ x ∧ x < c 4 0) (hy : 0 ≤ y ∧ y < c 4 1) (hbu : 0 ≤ bu ∧ bu ≤ 20) (hR : LiR h c q0 a b) : LiR h c q0 (g_c_light_67 hb h k bu y x a) (g_k_light_98 k bu y x b) := by
  obtain ⟨r1, r2, r3, r4, r5, r6, r7⟩ := hR
  obtain ⟨soon, bst, t⟩ := a
  obtain ⟨mb, ms, c', q⟩ := b
  dsimp only at r1 r2 r3 r4 r5 r6 r7
  subst r1
  have hN := hC.2.2.2.1
  have v2 := hC.2.1.2.2.1
  have hL7 : c 0 45 ≤ 7 := by have := hN.2.2; omega
  have e45 : c' 0 45 = c 0 45 := congrFun r5.2 45
  have hC' : HC h c' := HC_told (LiE_told r5 hN.2.2 hL7) (LiE_V r5 hC.2.1 hL7) e45 hC
  have hR9 := LiE_cp (x := x) (y := y) (r := bu) r5
  have hV9 := LiE_V hR9 hC.2.1 hL7
  have hC9 : HC h (am_put (ti_cp c' x y bu) 0 45 (c' 0 45 + 1 - 1)) := HC_told (LiE_told hR9 hN.2.2 hL7) hV9 (congrFun hR9.2 45) hC
  have e4 : c' 4 = c 4 := r5.1 4 (by decide) (by omega)
  have e49 : am_put (ti_cp c' x y bu) 0 45 (c' 0 45 + 1 - 1) 4 = c 4 := hR9.1 4 (by decide) (by omega)
  have hTb' : TLb h c' := fun i a1 a2 => by
    rw [r5.1 (67 + i.toNat) (by omega) (by have := hN.2.1; have := hN.2.2; omega)]
    exact hTb i a1 a2
  have hFs' : TFs h c' := ⟨fun a b a1 a2 a3 a4 => by rw [r5.1 6 (by decide) (by omega)]; exact hFs.1 a b a1 a2 a3 a4, hFs.2⟩
  have hd' : c' 0 58 = -1 ∧ c' 0 61 = -1 := by rw [r5.2]; exact hd
  have hs : 0 ≤ soon ∧ soon ≤ 40 := by
    by_cases g : bst = -1
    · have := r2 g; omega
    · have := r3 g; omega
  have hS := ti_lightStep (q := q) (hb := hb) (x := x) (y := y) (bu := bu) (k := k) (soon := soon) hC' hTb' hFs' hd' r4 (by rw [e4]; exact hk) (by rw [e4]; exact hx) (by rw [e4]; exact hy) hbu hs _ hC9 (by rw [e49]; exact hk)
  have hcl := ti_comes_lt (c := am_put (ti_cp c' x y bu) 0 45 (c' 0 45 + 1 - 1)) (q := k_goes (ti_cp c' x y bu) q) (k := k) (n := soon.toNat) (by omega)
  rw [← hS.2] at hcl
  have hVp : MdV (ti_cp c' x y bu) := by
    unfold MdV
    have e : ti_cp c' x y bu 0 45 = c 0 45 + 1 := by
      unfold ti_cp
      rw [am_put_s, e45]
    rw [ti_cp_k (by decide) (by omega), e4, e, ti_cp_0 (j := 30) (by decide), ti_cp_0 (j := 31) (by decide), r5.2]
    have hV := hC.2.1
    obtain ⟨w1, w2, w3, w4, w5, w6, w7, w8, w9, w10, w11, w12, w13, w14⟩ := hV
    have := hN.2.2
    exact ⟨w1, w2, w3, w4, w5, w6, w7, w8, w9, w10, w11, by omega, w13, w14⟩
  have hK := KF_goes (q := q) hVp
  have ek : g_k_light_98 k bu y x (bst, ms, c', q) = (if k_comesIn (am_put (ti_cp c' x y bu) 0 45 (c' 0 45 + 1 - 1)) (k_goes (ti_cp c' x y bu) q) k = -1 then bst else if bst = -1 then x + 10 * y else if k_comesIn (am_put (ti_cp c' x y bu) 0 45 (c' 0 45 + 1 - 1)) (k_goes (ti_cp c' x y bu) q) k < ms then x + 10 * y else bst, if k_comesIn (am_put (ti_cp c' x y bu) 0 45 (c' 0 45 + 1 - 1)) (k_goes (ti_cp c' x y bu) q) k = -1 then ms else if bst = -1 then k_comesIn (am_put (ti_cp c' x y bu) 0 45 (c' 0 45 + 1 - 1)) (k_goes (ti_cp c' x y bu) q) k else if k_comesIn (am_put (ti_cp c' x y bu) 0 45 (c' 0 45 + 1 - 1)) (k_goes (ti_cp c' x y bu) q) k < ms then k_comesIn (am_put (ti_cp c' x y bu) 0 45 (c' 0 45 + 1 - 1)) (k_goes (ti_cp c' x y bu) q) k else ms, am_put (ti_cp c' x y bu) 0 45 (c' 0 45 + 1 - 1), k_goes (ti_cp c' x y bu) q) := rfl
  have ec : g_c_light_67 hb h k bu y x (soon, bst, t) = (if (c_firstClear64 h (am_put (am_put (f_beginT hb h t) 0 4 (x + 10 * y)) 0 5 bu) k soon).1 = -1 then soon else (c_firstClear64 h (am_put (am_put (f_beginT hb h t) 0 4 (x + 10 * y)) 0 5 bu) k soon).1, if (c_firstClear64 h (am_put (am_put (f_beginT hb h t) 0 4 (x + 10 * y)) 0 5 bu) k soon).1 = -1 then bst else x + 10 * y, (c_firstClear64 h (am_put (am_put (f_beginT hb h t) 0 4 (x + 10 * y)) 0 5 bu) k soon).2) := rfl
  rw [ek, ec]
  have et : k_comesIn (am_put (ti_cp c' x y bu) 0 45 (c' 0 45 + 1 - 1)) (k_goes (ti_cp c' x y bu) q) k = (am_find (p_k_comesIn_2 (am_put (ti_cp c' x y bu) 0 45 (c' 0 45 + 1 - 1)) (k_goes (ti_cp c' x y bu) q) k) 0 40).elim (-1) (fun r9 => r9) := rfl
  rw [← et] at hcl
  generalize k_comesIn (am_put (ti_cp c' x y bu) 0 45 (c' 0 45 + 1 - 1)) (k_goes (ti_cp c' x y bu) q) k = T at *
  generalize (c_firstClear64 h (am_put (am_put (f_beginT hb h t) 0 4 (x + 10 * y)) 0 5 bu) k soon) = U at *
  have hx10 : x + 10 * y ≠ -1 := by omega
  rw [show ((soon.toNat : Nat) : Int) = soon by omega] at hcl
  refine ⟨?_, ?_, ?_, hS.1, hR9, ?_, ?_⟩
  · dsimp only
    rcases hcl with ⟨g1, g2⟩ | ⟨g1, g2, g3⟩
    · rw [if_pos g2, if_pos g1]
    · rw [if_neg (show ¬ T = -1 by omega)]
      by_cases g4 : bst = -1
      · have := r2 g4
        rw [if_pos (by omega)] at g3
        rw [if_neg (by omega), if_pos g4]
      · have := r3 g4
        rw [if_neg g4]
        by_cases g5 : T < soon
        · rw [if_pos g5] at g3
          rw [if_neg (by omega), if_pos (by omega)]
        · rw [if_neg g5] at g3
          rw [if_pos g3, if_neg (by omega)]
  · dsimp only
    rcases hcl with ⟨g1, g2⟩ | ⟨g1, g2, g3⟩
    · rw [if_pos g2, if_pos g2]; exact r2
    · by_cases g5 : T < soon
      · rw [if_pos g5] at g3
        rw [if_neg (by omega)]
        intro g; exact absurd g hx10
      · rw [if_neg g5] at g3
        rw [if_pos g3, if_pos g3]; exact r2
  · dsimp only
    rcases hcl with ⟨g1, g2⟩ | ⟨g1, g2, g3⟩
    · rw [if_pos g2, if_pos g2, if_pos g1]; exact r3
    · rw [if_neg (show ¬ T = -1 by omega)]
      by_cases g4 : bst = -1
      · have := r2 g4
        rw [if_pos (by omega)] at g3
        rw [if_neg (show ¬ U.1 = -1 by omega), if_neg (show ¬ U.1 = -1 by omega), if_pos g4]
        exact fun _ => ⟨g3, by omega, by omega⟩
      · have h3 := r3 g4
        rw [if_neg g4]
        by_cases g5 : T < soon
        · rw [if_pos g5] at g3
          rw [if_neg (show ¬ U.1 = -1 by omega), if_neg (show ¬ U.1 = -1 by omega), if_pos (show T < ms by omega)]
          exact fun _ => ⟨g3, by omega, by omega⟩
        · rw [if_neg g5] at g3
          rw [if_pos g3, if_pos g3, if_neg (show ¬ T < ms by omega)]
          exact r3
  · dsimp only
    rw [hK.1 2 (Or.inl rfl)]; exact r6
  · dsimp only
    rw [hK.2 0 (by decide)]; exact r7
theorem to_light {e h c t q : am_F} {hb : Nat} {k bu w : Int} (hC : HC h c) (hTb : TLb h c) (hFs : TFs h c) (hd : c 0 58 = -1 ∧ c 0 61 = -1) (ht : TrI t) (hR : RE e q) : TO 2 (c_light hb e h t k bu w).1 (c_light hb e h t k bu w).2.1 e (c_light hb e h t k bu w).2.2.1 (k_light c q k bu w).1 (k_light c q k bu w).2.2 ∧ TrI (c_light hb e h t k bu w).2.2.2 ∧ LiE c (k_light c q k bu w).2.1 := by
  obtain ⟨hHI, hV, hT, hN, hW, hWt, hSh, hL⟩ := id hC
  have v1 := hV.1
  have v2 := hV.2.1
  have v3 := hV.2.2.1
  have hz : LiE c c := ⟨fun _ _ _ => rfl, rfl⟩
  unfold c_light k_light
  rcases ti_rw hSh.1 k with ⟨a0, b0, c0⟩ | ⟨a0, b0⟩
  · rcases ti_rng bu 1 20 with ⟨a1, b1, c1⟩ | ⟨a1, b1, d1⟩
    · rcases ti_rng w 0 1 with ⟨a2, b2, c2⟩ | ⟨a2, b2, d2⟩
      · by_cases g : c 4 2 = 6
        · have g' : 6 ≤ h 0 5 := by have := hN.2.1; omega
          simp only [a0, b0, a1, b1, a2, b2, g, g', k_isShip, reduceIte, Int.reduceEq, k_refuse0]
          exact ⟨TO_ok am_put_s rfl (RE_put hR), ht, hz⟩
        · have g' : ¬ 6 ≤ h 0 5 := by have := hN.2.1; omega
          simp only [a0, b0, a1, b1, a2, b2, g, g', k_isShip, reduceIte, Int.reduceEq, k_refuse0]
          have h9 := ti_rel0 (R := LiR h c (am_put q 0 0 0)) (f := g_c_light_52 hb h k bu) (g := g_k_light_84 k bu c) (c 4 1).toNat 0 (40, -1, t) (-1, 0, c, am_put q 0 0 0) ⟨rfl, fun _ => rfl, fun h => absurd rfl h, ht, hz, rfl, rfl⟩ (fun y a b a1 a2 hr => by
            have e1 : g_c_light_52 hb h k bu y a = am_fold (g_c_light_67 hb h k bu y) 0 (h 0 0).toNat a := rfl
            have e2 : g_k_light_84 k bu c y b = am_fold (g_k_light_98 k bu y) 0 (c 4 0).toNat b := rfl
            rw [e1, e2, hT.1.1]
            exact ti_rel0 (R := LiR h c (am_put q 0 0 0)) _ 0 a b hr fun x a b b1 b2 hr => ti_lightCell hC hTb hFs hd c0 ⟨b1, by omega⟩ ⟨a1, by omega⟩ ⟨by omega, by omega⟩ hr)
          rw [hT.1.2]
          obtain ⟨r1, r2, r3, r4, r5, r6, r7⟩ := h9
          refine ⟨TO_ok (by rw [r7, am_put_s]) ?_ (fun j hj => by rw [r6]; exact RE_put hR j hj), r4, r5⟩
          rw [← r1]
          by_cases gw : w = 0
          · rw [if_pos gw, if_pos gw]
          · rw [if_neg gw, if_neg gw]
            by_cases gb : (am_fold (g_c_light_52 hb h k bu) 0 (c 4 1).toNat (40, -1, t)).2.1 = -1
            · rw [if_pos gb, if_pos gb]
            · rw [if_neg gb, if_neg gb]
              exact (r3 gb).1
      · simp only [a0, b0, a1, b1, a2, b2, k_isShip, reduceIte, Int.reduceEq, k_refuse0]
        exact ⟨TO_ref (by decide) (by decide) (by decide) hR, ht, hz⟩
    · simp only [a0, b0, a1, b1, k_isShip, reduceIte, Int.reduceEq, k_refuse0]
      exact ⟨TO_ref (by decide) (by decide) (by decide) hR, ht, hz⟩
  · simp only [a0, b0, k_isShip, reduceIte, Int.reduceEq, k_refuse0]
    exact ⟨TO_ref (by decide) (by decide) (by decide) hR, ht, hz⟩
