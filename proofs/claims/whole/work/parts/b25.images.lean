/-! THE TIE: images -/
theorem BC_m {b c c' : am_F} (h30 : c' 0 30 = c 0 30) (hr : ∀ i j : Nat, i < 12 → j < 3 → c' (133 + i) j = c (133 + i) j) (h4 : c' 4 = c 4) (hn : c 0 30 ≤ 12) (h : BC b c) : BC b c' := by
  obtain ⟨h1, h2, h3⟩ := h
  refine ⟨h1, ⟨by rw [h30]; exact h2.1, fun i a1 a2 => ?_⟩, fun i a1 a2 => ?_⟩
  · rw [h30] at a2
    rw [hr i.toNat 0 (by omega) (by decide), hr i.toNat 1 (by omega) (by decide), hr i.toNat 2 (by omega) (by decide)]
    exact h2.2 i a1 a2
  · rw [h30] at a2
    rw [hr i.toNat 0 (by omega) (by decide), hr i.toNat 1 (by omega) (by decide), hr i.toNat 2 (by omega) (by decide), h4]
    exact h3 i a1 a2
theorem GC_m {g c c' : am_F} (h31 : c' 0 31 = c 0 31) (hr : ∀ i j : Nat, i < 8 → j < 3 → c' (146 + i) j = c (146 + i) j) (h4 : c' 4 = c 4) (hn : c 0 31 ≤ 8) (h : GC g c) : GC g c' := by
  obtain ⟨h1, h2⟩ := h
  refine ⟨h1, ⟨by rw [h31]; exact h2.1, fun i a1 a2 => ?_⟩⟩
  rw [h31] at a2
  rw [hr i.toNat 0 (by omega) (by decide), hr i.toNat 1 (by omega) (by decide), hr i.toNat 2 (by omega) (by decide), h4]
  exact h2.2 i a1 a2
theorem f_at_c {n : Int} {f g : Nat → Int} (hn : n ≤ 12) (h : ∀ j, j < 48 → f j = g j) (r k : Int) : f_at n f r k = f_at n g r k := by
  unfold f_at
  split
  · exact h _ (by omega)
  · rfl
theorem BC_b {b b' c : am_F} (h0 : b' 0 0 = b 0 0) (h2 : b' 0 2 = b 0 2) (hr : ∀ j, j < 48 → b' 1 j = b 1 j) (h : BC b c) : BC b' c := by
  obtain ⟨⟨i1, i2, i3⟩, ⟨t1, t2⟩, h3⟩ := h
  refine ⟨⟨by rw [h0]; exact i1, by rw [h2]; exact i2, fun k => ?_⟩, ⟨by rw [h2]; exact t1, fun i a1 a2 => ?_⟩, h3⟩
  · rw [h2, f_at_c i2.2 hr]; exact i3 k
  · rw [h2, f_at_c i2.2 hr, f_at_c i2.2 hr, f_at_c i2.2 hr]; exact t2 i a1 a2
theorem GC_b {g g' c : am_F} (h0 : g' 0 0 = g 0 0) (h2 : g' 0 2 = g 0 2) (hr : ∀ j, j < 48 → g' 1 j = g 1 j) (h : GC g c) : GC g' c := by
  obtain ⟨⟨i1, i2, i3⟩, ⟨t1, t2⟩⟩ := h
  have h8 : g 0 2 ≤ 12 := by omega
  refine ⟨⟨by rw [h0]; exact i1, by rw [h2]; exact i2, fun k => ?_⟩, ⟨by rw [h2]; exact t1, fun i a1 a2 => ?_⟩⟩
  · rw [h2, f_at_c h8 hr, f_at_c h8 hr]; exact i3 k
  · rw [h2, f_at_c h8 hr, f_at_c h8 hr, f_at_c h8 hr]; exact t2 i a1 a2
/-- the tables that an image keeps; the model's state as its row keeps it -/
def ti_vb (most m : Int) (f : Nat → Int) : am_F := fun k j => if k = 0 then (if j = 0 then most else m) else f j
def ti_vc (i : Nat) (c : am_F) : am_F := fun k j => if k = 0 then (if j = 30 then c (155 + i) 0 else if j = 31 then c (155 + i) 1 else c 0 j) else if 133 ≤ k ∧ k ≤ 144 then c (155 + i) (83 + 3 * (k - 133) + j) else if 146 ≤ k ∧ k ≤ 153 then c (155 + i) (119 + 3 * (k - 146) + j) else c k j
def ImR (i : Nat) (im c : am_F) : Prop := ((∀ x y : Int, 0 ≤ x → x < 9 → 0 ≤ y → y < 9 → im (10 * i + 1) (x + 10 * y).toNat = c (155 + i) (2 + (x + 9 * y).toNat)) ∧ ∀ y : Int, 0 ≤ y → y < 9 → im (10 * i + 1) (9 + 10 * y).toNat = 0) ∧ BC (ti_vb 12 (im (10 * i) 0) (im (10 * i + 2))) (ti_vc i c) ∧ GC (ti_vb 8 (im (10 * i) 1) (im (10 * i + 3))) (ti_vc i c)
def ImT (im c : am_F) (n : Int) : Prop := ∀ i : Nat, (i : Int) < n → ImR i im c
theorem ImR_k {i : Nat} {im im' c c' : am_F} (hi : i < 3) (h0 : im' (10 * i) = im (10 * i)) (h1 : im' (10 * i + 1) = im (10 * i + 1)) (h2 : im' (10 * i + 2) = im (10 * i + 2)) (h3 : im' (10 * i + 3) = im (10 * i + 3)) (hk : c' (155 + i) = c (155 + i)) (h4 : c' 4 = c 4) (h : ImR i im c) : ImR i im' c' := by
  obtain ⟨a1, a2, a3⟩ := h
  have b30 : c (155 + i) 0 ≤ 12 := by
    have e : (ti_vb 12 (im (10 * i) 0) (im (10 * i + 2))) 0 2 = im (10 * i) 0 := rfl
    have e2 : ti_vc i c 0 30 = c (155 + i) 0 := rfl
    have := a2.2.1.1
    have := a2.1.2.1
    rw [e] at this
    omega
  have b31 : c (155 + i) 1 ≤ 8 := by
    have e : (ti_vb 8 (im (10 * i) 1) (im (10 * i + 3))) 0 2 = im (10 * i) 1 := rfl
    have e2 : ti_vc i c 0 31 = c (155 + i) 1 := rfl
    have := a3.2.1
    have := a3.1.2.1
    rw [e] at this
    omega
  unfold ImR
  rw [h0, h1, h2, h3, hk]
  have e30 : ti_vc i c' 0 30 = ti_vc i c 0 30 := congrFun hk 0
  have e31 : ti_vc i c' 0 31 = ti_vc i c 0 31 := congrFun hk 1
  refine ⟨a1, BC_m e30 (fun m j hm hj => ?_) h4 b30 a2, GC_m e31 (fun m j hm hj => ?_) h4 b31 a3⟩
  · unfold ti_vc
    rw [if_neg (by omega), if_pos (by omega), if_neg (by omega), if_pos (by omega), hk]
  · unfold ti_vc
    rw [if_neg (by omega), if_neg (by omega), if_pos (by omega), if_neg (by omega), if_neg (by omega), if_pos (by omega), hk]
def c_takeN (i : Nat) (h b g im : am_F) : am_F := am_put (am_row (am_put (am_row (am_row im (10 * i + 1) (am_cpy (h 11) (im (10 * i + 1)) 0 0 90)) (10 * i + 2) (am_cpy (b 1) (im (10 * i + 2)) 0 0 48)) (10 * i) 0 (b 0 2)) (10 * i + 3) (am_cpy (g 1) (im (10 * i + 3)) 0 0 48)) (10 * i) 1 (g 0 2)
theorem c_takeN_0 (h b g im : am_F) : c_take0 h b g im = c_takeN 0 h b g im := rfl
theorem c_takeN_1 (h b g im : am_F) : c_take1 h b g im = c_takeN 1 h b g im := rfl
theorem c_takeN_2 (h b g im : am_F) : c_take2 h b g im = c_takeN 2 h b g im := rfl
theorem c_takeN_k {i : Nat} {h b g im : am_F} : (∀ m, m ≠ 10 * i → m ≠ 10 * i + 1 → m ≠ 10 * i + 2 → m ≠ 10 * i + 3 → c_takeN i h b g im m = im m) ∧ (∀ j, j < 90 → c_takeN i h b g im (10 * i + 1) j = h 11 j) ∧ (∀ j, j < 48 → c_takeN i h b g im (10 * i + 2) j = b 1 j) ∧ (∀ j, j < 48 → c_takeN i h b g im (10 * i + 3) j = g 1 j) ∧ c_takeN i h b g im (10 * i) 0 = b 0 2 ∧ c_takeN i h b g im (10 * i) 1 = g 0 2 ∧ c_takeN i h b g im (10 * i + 1) = am_cpy (h 11) (im (10 * i + 1)) 0 0 90 := by
  have e1 : c_takeN i h b g im (10 * i + 1) = am_cpy (h 11) (im (10 * i + 1)) 0 0 90 := by
    unfold c_takeN
    rw [am_put_kr (by omega), ti_row_k (by omega), am_put_kr (by omega), ti_row_k (by omega), ti_row_s]
  have ec : ∀ (f g : Nat → Int) (n j : Nat), j < n → am_cpy f g 0 0 n j = f j := fun f g n j hj => by
    unfold am_cpy
    rw [if_pos (by omega)]
    congr 1
    omega
  refine ⟨fun m m0 m1 m2 m3 => ?_, fun j hj => by rw [e1]; exact ec _ _ _ _ hj, fun j hj => ?_, fun j hj => ?_, ?_, ?_, e1⟩
  · unfold c_takeN
    rw [am_put_kr m0, ti_row_k m3, am_put_kr m0, ti_row_k m2, ti_row_k m1]
  · unfold c_takeN
    rw [am_put_kr (by omega), ti_row_k (by omega), am_put_kr (by omega), ti_row_s]
    exact ec _ _ _ _ hj
  · unfold c_takeN
    rw [am_put_kr (by omega), ti_row_s]
    exact ec _ _ _ _ hj
  · unfold c_takeN
    rw [am_put_i (by decide), ti_row_k (by omega), am_put_s]
  · unfold c_takeN
    rw [am_put_s]
theorem ti_vc_4 {i : Nat} {c : am_F} : ti_vc i c 4 = c 4 := funext fun j => by
  unfold ti_vc
  rw [if_neg (by decide), if_neg (by decide), if_neg (by decide)]
theorem to_image {e h b g im c q : am_F} (hC : HC h c) (hFs : TFs h c) (hb : BC b c) (hg : GC g c) (hn : (0 ≤ e 0 17 ∧ e 0 17 ≤ 3) ∧ e 0 17 = c 0 32) (hI : ImI im) (hT : ImT im c (c 0 32)) : (c_image e h b g im).1 = (k_image c q).1 ∧ ImT (c_image e h b g im).2.2 (k_image c q).2.1 ((k_image c q).2.1 0 32) ∧ ImI (c_image e h b g im).2.2 ∧ ((c_image e h b g im).2.1 0 17 = (k_image c q).2.1 0 32 ∧ (∀ m j, ¬ (m = 0 ∧ j = 17) → (c_image e h b g im).2.1 m j = e m j) ∧ 0 ≤ (k_image c q).2.1 0 32 ∧ (k_image c q).2.1 0 32 ≤ 3) ∧ (∀ m j, ¬ (155 ≤ m ∧ m ≤ 157) → ¬ (m = 0 ∧ (j = 32 ∨ j = 33)) → (k_image c q).2.1 m j = c m j) ∧ (k_image c q).2.2 = am_put q 0 0 0 := by
  obtain ⟨hHI, hV, -⟩ := hC
  have h12 := hV.2.2.2.2.2.2.2.2.2.2.2.2.1
  have h8 := hV.2.2.2.2.2.2.2.2.2.2.2.2.2
  have key : ∀ i : Nat, i < 3 → c 0 32 = i → ∀ im', im' = c_takeN i h b g im → ImT im' (am_put (k_movesAll c 0 i) 0 32 ((i : Int) + 1)) ((i : Int) + 1) ∧ ImI im' ∧ (∀ m j, ¬ (155 ≤ m ∧ m ≤ 157) → ¬ (m = 0 ∧ (j = 32 ∨ j = 33)) → am_put (k_movesAll c 0 i) 0 32 ((i : Int) + 1) m j = c m j) ∧ k_movesAll c 0 i 0 32 = c 0 32 := by
    intro i hi hci im' him
    obtain ⟨s1, s2, s3, s4⟩ := ti_saved c i
    generalize k_movesAll c 0 i = M at s1 s2 s3 s4 ⊢
    obtain ⟨t1, t2, t3, t4, t5, t6, t7⟩ := c_takeN_k (i := i) (h := h) (b := b) (g := g) (im := im)
    rw [← him] at t1 t2 t3 t4 t5 t6 t7
    have e32 : M 0 32 = c 0 32 := s2 0 32 (by omega) (by omega)
    have hkeep : ∀ m j, ¬ (155 ≤ m ∧ m ≤ 157) → ¬ (m = 0 ∧ (j = 32 ∨ j = 33)) → am_put (M) 0 32 ((i : Int) + 1) m j = c m j := fun m j h1 h2 => by
      by_cases g0 : m = 0
      · rw [g0, am_put_i (by omega)]; exact s2 0 j (by omega) (by omega)
      · rw [am_put_k g0]; exact s2 m j (by omega) (by omega)
    have e4 : am_put (M) 0 32 ((i : Int) + 1) 4 = c 4 := funext fun j => hkeep 4 j (by omega) (by omega)
    have ekr : ∀ t, t < 143 → am_put (M) 0 32 ((i : Int) + 1) (155 + i) t = c (ti_loc t).1 (ti_loc t).2 := fun t ht => by
      rw [am_put_k (by omega)]; exact s3 t ht
    refine ⟨fun j hj => ?_, ?_, hkeep, e32⟩
    · by_cases gj : j = i
      · subst gj
        have c30 : ti_vc j (am_put (M) 0 32 ((j : Int) + 1)) 0 30 = c 0 30 := by
          show am_put (M) 0 32 ((j : Int) + 1) (155 + j) 0 = c 0 30
          rw [ekr 0 (by decide)]; rfl
        have c31 : ti_vc j (am_put (M) 0 32 ((j : Int) + 1)) 0 31 = c 0 31 := by
          show am_put (M) 0 32 ((j : Int) + 1) (155 + j) 1 = c 0 31
          rw [ekr 1 (by decide)]; rfl
        refine ⟨⟨fun x y a1 a2 a3 a4 => ?_, fun y a3 a4 => ?_⟩, ?_, ?_⟩
        · rw [t2 _ (by omega), ekr _ (by omega), hFs.1 x y a1 a2 a3 a4]
          have el : ti_loc (2 + (x + 9 * y).toNat) = (6, (x + 9 * y).toNat) := by
            unfold ti_loc
            rw [if_neg (by omega), if_neg (by omega), if_pos (by omega)]
            refine Prod.ext rfl ?_
            dsimp only; omega
          rw [el]
        · rw [t2 _ (by omega)]; exact hFs.2 y a3 a4
        · refine BC_m (c := c) c30 (fun m k hm hk => ?_) (ti_vc_4.trans e4) h12.2 (BC_b (b := b) hb.1.1.symm t5 t3 hb)
          have el : ti_loc (83 + 3 * (133 + m - 133) + k) = (133 + m, k) := by
            unfold ti_loc
            rw [if_neg (by omega), if_neg (by omega), if_neg (by omega), if_pos (by omega)]
            refine Prod.ext ?_ ?_
            · dsimp only; omega
            · dsimp only; omega
          unfold ti_vc
          rw [if_neg (by omega), if_pos (by omega), ekr _ (by omega), el]
        · refine GC_m (c := c) c31 (fun m k hm hk => ?_) (ti_vc_4.trans e4) h8.2 (GC_b (g := g) hg.1.1.symm t6 t4 hg)
          have el : ti_loc (119 + 3 * (146 + m - 146) + k) = (146 + m, k) := by
            unfold ti_loc
            rw [if_neg (by omega), if_neg (by omega), if_neg (by omega), if_neg (by omega)]
            refine Prod.ext ?_ ?_
            · dsimp only; omega
            · dsimp only; omega
          unfold ti_vc
          rw [if_neg (by omega), if_neg (by omega), if_pos (by omega), ekr _ (by omega), el]
      · refine ImR_k (by omega) (t1 _ (by omega) (by omega) (by omega) (by omega)) (t1 _ (by omega) (by omega) (by omega) (by omega)) (t1 _ (by omega) (by omega) (by omega) (by omega)) (t1 _ (by omega) (by omega) (by omega) (by omega)) (funext fun t => ?_) e4 (hT j (by omega))
        rw [am_put_k (by omega)]
        exact s2 (155 + j) t (by omega) (by omega)
    · have hc9 : ∀ (f : Nat → Int), (∀ j, 0 ≤ f j ∧ f j ≤ 99) → ∀ j, 0 ≤ am_cpy (h 11) f 0 0 90 j ∧ am_cpy (h 11) f 0 0 90 j ≤ 99 := fun f hf => am_cpy_b hHI.2.2.2.2.1 hf
      have hrow : ∀ k : Nat, k < 3 → (∀ j, 0 ≤ im (10 * k + 1) j ∧ im (10 * k + 1) j ≤ 99) → ∀ j, 0 ≤ im' (10 * k + 1) j ∧ im' (10 * k + 1) j ≤ 99 := fun k hk hf => by
        by_cases gk : k = i
        · subst gk; rw [t7]; exact hc9 _ hf
        · rw [t1 _ (by omega) (by omega) (by omega) (by omega)]; exact hf
      exact ⟨hrow 0 (by decide) hI.1, hrow 1 (by decide) hI.2.1, hrow 2 (by decide) hI.2.2⟩
  unfold c_image k_image
  by_cases g3 : c 0 32 = 3
  · rw [if_neg (by omega), if_neg (by omega), if_pos g3]
    dsimp only
    exact ⟨rfl, hT, hI, ⟨hn.2, fun _ _ _ => rfl, by omega, by omega⟩, fun _ _ _ _ => rfl, rfl⟩
  · rw [if_neg (by omega), if_pos (by omega), if_neg g3]
    generalize hM : k_movesAll c 0 (c 0 32) = M
    have hfin : ∀ i : Nat, i < 3 → c 0 32 = i → ∀ im', im' = c_takeN i h b g im → (e 0 17 + 1 = am_w32 (M 0 32 + 1)) ∧ ImT im' (am_put M 0 32 (am_w32 (M 0 32 + 1))) (am_put M 0 32 (am_w32 (M 0 32 + 1)) 0 32) ∧ ImI im' ∧ (am_put e 0 17 (e 0 17 + 1) 0 17 = am_put M 0 32 (am_w32 (M 0 32 + 1)) 0 32 ∧ (∀ m j, ¬ (m = 0 ∧ j = 17) → am_put e 0 17 (e 0 17 + 1) m j = e m j) ∧ 0 ≤ am_put M 0 32 (am_w32 (M 0 32 + 1)) 0 32 ∧ am_put M 0 32 (am_w32 (M 0 32 + 1)) 0 32 ≤ 3) ∧ (∀ m j, ¬ (155 ≤ m ∧ m ≤ 157) → ¬ (m = 0 ∧ (j = 32 ∨ j = 33)) → am_put M 0 32 (am_w32 (M 0 32 + 1)) m j = c m j) ∧ am_put q 0 0 0 = am_put q 0 0 0 := by
      intro i hi hci im' him
      obtain ⟨w1, w2, w3, w4⟩ := key i hi hci im' him
      have ek : k_movesAll c 0 i = M := by rw [← hci]; exact hM
      rw [ek] at w1 w3 w4
      have ew : am_w32 (M 0 32 + 1) = (i : Int) + 1 := by rw [w4, hci]; exact ti_w ⟨by omega, by omega⟩
      rw [ew, am_put_s, am_put_s]
      refine ⟨by omega, w1, w2, ⟨by omega, fun m j hmj => ?_, by omega, by omega⟩, w3, rfl⟩
      by_cases g0 : m = 0
      · rw [g0, am_put_i (fun e => hmj ⟨g0, e⟩)]
      · rw [am_put_k g0]
    clear key hM
    by_cases g0 : e 0 17 = 0
    · rw [if_pos g0, c_takeN_0]
      dsimp only
      exact hfin 0 (by decide) (by omega) _ rfl
    · rw [if_neg g0]
      by_cases g1 : e 0 17 = 1
      · rw [if_pos g1, c_takeN_1]
        dsimp only
        exact hfin 1 (by decide) (by omega) _ rfl
      · rw [if_neg g1, c_takeN_2]
        dsimp only
        exact hfin 2 (by decide) (by omega) _ rfl
