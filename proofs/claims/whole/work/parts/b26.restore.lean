/-! back to an image -/
def c_giveH (i : Nat) (h im : am_F) : am_F := am_row h 11 (am_cpy (im (10 * i + 1)) (h 11) 0 0 90)
def c_giveT (m : Int) (f : Nat → Int) (b : am_F) : am_F := am_put (am_row b 1 (am_cpy f (b 1) 0 0 48)) 0 2 m
theorem c_giveT_k (m : Int) (f : Nat → Int) (b : am_F) (most : Int) (h : b 0 0 = most) : c_giveT m f b 0 0 = ti_vb most m f 0 0 ∧ c_giveT m f b 0 2 = ti_vb most m f 0 2 ∧ ∀ j, j < 48 → c_giveT m f b 1 j = ti_vb most m f 1 j := by
  unfold c_giveT
  refine ⟨?_, ?_, fun j hj => ?_⟩
  · rw [am_put_i (by decide), ti_row_k (by decide), h]; rfl
  · rw [am_put_s]; rfl
  · rw [am_put_k (by decide), ti_row_s]
    unfold am_cpy
    rw [if_pos (by omega)]
    show f (0 + (j - 0)) = f j
    congr 1; omega
theorem c_give_0 (h b g im : am_F) : c_give0 h b g im = (c_giveH 0 h im, c_giveT (im (10 * 0) 0) (im (10 * 0 + 2)) b, c_giveT (im (10 * 0) 1) (im (10 * 0 + 3)) g) := rfl
theorem c_give_1 (h b g im : am_F) : c_give1 h b g im = (c_giveH 1 h im, c_giveT (im (10 * 1) 0) (im (10 * 1 + 2)) b, c_giveT (im (10 * 1) 1) (im (10 * 1 + 3)) g) := rfl
theorem c_give_2 (h b g im : am_F) : c_give2 h b g im = (c_giveH 2 h im, c_giveT (im (10 * 2) 0) (im (10 * 2 + 2)) b, c_giveT (im (10 * 2) 1) (im (10 * 2 + 3)) g) := rfl
theorem RsI_keep {c s : am_F} {k : Nat} (h : RsI c k 143 s) {m i : Nat} (hm : m ≠ 6 ∧ ¬ (133 ≤ m ∧ m ≤ 144) ∧ ¬ (146 ≤ m ∧ m ≤ 153)) (h0 : ¬ (m = 0 ∧ (i = 30 ∨ i = 31 ∨ i = 33))) : s m i = c m i := by
  refine h.2.2 m i (fun t ht e => ?_) (fun g => h0 ⟨g.1, Or.inr (Or.inr g.2)⟩)
  unfold ti_loc at e
  by_cases g1 : t = 0
  · rw [if_pos g1] at e; injection e with e1 e2; omega
  · by_cases g2 : t = 1
    · rw [if_neg g1, if_pos g2] at e; injection e with e1 e2; omega
    · by_cases g3 : t < 83
      · rw [if_neg g1, if_neg g2, if_pos g3] at e; injection e with e1 e2; omega
      · by_cases g4 : t < 119
        · rw [if_neg g1, if_neg g2, if_neg g3, if_pos g4] at e; injection e with e1 e2; omega
        · rw [if_neg g1, if_neg g2, if_neg g3, if_neg g4] at e; injection e with e1 e2; omega
theorem ti_giveAll {h b g r im c : am_F} {i : Nat} {c9 : am_F} (hi : i < 3) (hC : HC h c) (hTb : TLb h c) (hB : BaseI h c r) (hb : b 0 0 = 12) (hg : g 0 0 = 8) (hIm : ImI im) (hR : ImR i im c) (h9 : RsI (am_put c 0 32 i) i 143 c9) : HC (c_giveH i h im) c9 ∧ TLb (c_giveH i h im) c9 ∧ TFs (c_giveH i h im) c9 ∧ BaseI (c_giveH i h im) c9 (f_begin (c_giveH i h im) r) ∧ BC (c_giveT (im (10 * i) 0) (im (10 * i + 2)) b) c9 ∧ GC (c_giveT (im (10 * i) 1) (im (10 * i + 3)) g) c9 ∧ c9 0 32 = i ∧ (∀ m j, m ≠ 6 ∧ ¬ (133 ≤ m ∧ m ≤ 144) ∧ ¬ (146 ≤ m ∧ m ≤ 153) → ¬ (m = 0 ∧ (j = 30 ∨ j = 31 ∨ j = 32 ∨ j = 33)) → c9 m j = c m j) ∧ ∀ k : Nat, k < 3 → ImR k im c → ImR k im c9 := by
  obtain ⟨hHI, hV, hT, hN, hW, hWt, hSh, hL⟩ := id hC
  obtain ⟨a1, a2, a3⟩ := id hR
  have hk : ∀ m j, m ≠ 6 ∧ ¬ (133 ≤ m ∧ m ≤ 144) ∧ ¬ (146 ≤ m ∧ m ≤ 153) → ¬ (m = 0 ∧ (j = 30 ∨ j = 31 ∨ j = 32 ∨ j = 33)) → c9 m j = c m j := fun m j hm hj => by
    rw [RsI_keep h9 hm (by omega)]
    by_cases g0 : m = 0
    · rw [g0, am_put_i (by omega)]
    · rw [am_put_k g0]
  have e4 : c9 4 = c 4 := funext fun j => hk 4 j (by omega) (by omega)
  have e32 : c9 0 32 = i := by rw [RsI_keep h9 (by omega) (by omega), am_put_s]
  have eloc : ∀ t, t < 143 → c9 (ti_loc t).1 (ti_loc t).2 = c (155 + i) t := fun t ht => by rw [h9.2.1 t ht, am_put_k (by omega)]
  have e30 : c9 0 30 = ti_vc i c 0 30 := eloc 0 (by decide)
  have e31 : c9 0 31 = ti_vc i c 0 31 := eloc 1 (by decide)
  have vb2 : (ti_vb 12 (im (10 * i) 0) (im (10 * i + 2))) 0 2 = im (10 * i) 0 := rfl
  have vg2 : (ti_vb 8 (im (10 * i) 1) (im (10 * i + 3))) 0 2 = im (10 * i) 1 := rfl
  have b30 : 0 ≤ ti_vc i c 0 30 ∧ ti_vc i c 0 30 ≤ 12 := by
    have h1 := a2.2.1.1
    have h2 := a2.1.2.1
    rw [h1] at h2
    exact h2
  have b31 : 0 ≤ ti_vc i c 0 31 ∧ ti_vc i c 0 31 ≤ 8 := by
    have h1 := a3.2.1
    have h2 := a3.1.2.1
    rw [h1] at h2
    exact h2
  have hV9 : MdV c9 := by
    obtain ⟨w1, w2, w3, w4, w5, w6, w7, w8, w9, w10, w11, w12, w13, w14⟩ := hV
    unfold MdV
    rw [e4, e30, e31, hk 0 45 (by omega) (by omega)]
    exact ⟨w1, w2, w3, w4, w5, w6, w7, w8, w9, w10, w11, w12, b30, b31⟩
  have hTold : Told c c9 := fun k hk2 => funext fun j => hk k j (by have := hV.2.2.1; omega) (by omega)
  have hfi : ∀ j, 0 ≤ im (10 * i + 1) j ∧ im (10 * i + 1) j ≤ 99 := by
    have h3 : i = 0 ∨ i = 1 ∨ i = 2 := by omega
    rcases h3 with rfl | rfl | rfl
    · exact hIm.1
    · exact hIm.2.1
    · exact hIm.2.2
  have ec : ∀ j, j < 90 → am_cpy (im (10 * i + 1)) (h 11) 0 0 90 j = im (10 * i + 1) j := fun j hj => by
    unfold am_cpy
    rw [if_pos (by omega)]
    congr 1; omega
  have hC9 : HC (c_giveH i h im) c9 := HC_11 (HC_told hTold hV9 (hk 0 45 (by omega) (by omega)) hC) (am_cpy_b hfi hHI.2.2.2.2.1)
  have hTb9 : TLb (c_giveH i h im) c9 := fun k k1 k2 => by
    have hk3 : k < h 0 5 := k2
    have e67 : c9 (67 + k.toNat) = c (67 + k.toNat) := funext fun j => hk _ j (by have := hN.2.1; have := hV.2.2.1; omega) (by omega)
    rw [e67]
    exact hTb k k1 k2
  have hFs9 : TFs (c_giveH i h im) c9 := by
    refine ⟨fun x y g1 g2 g3 g4 => ?_, fun y g3 g4 => ?_⟩
    · show am_row h 11 _ 11 _ = _
      rw [ti_row_s, ec _ (by omega), a1.1 x y g1 g2 g3 g4, ← eloc _ (by omega)]
      have el : ti_loc (2 + (x + 9 * y).toNat) = (6, (x + 9 * y).toNat) := by
        unfold ti_loc
        rw [if_neg (by omega), if_neg (by omega), if_pos (by omega)]
        refine Prod.ext rfl ?_
        dsimp only; omega
      rw [el]
    · show am_row h 11 _ 11 _ = _
      rw [ti_row_s, ec _ (by omega)]
      exact a1.2 y g3 g4
  have hBI := BaseI_I hB
  refine ⟨hC9, hTb9, hFs9, Base_begin hC9 hTb9 hFs9 (by rw [hk 0 58 (by omega) (by omega), hk 0 61 (by omega) (by omega)]; exact hB.1) hBI.1.2.1 hBI.2, ?_, ?_, e32, hk, fun k k3 hRk => ?_⟩
  · obtain ⟨t1, t2, t3⟩ := c_giveT_k (im (10 * i) 0) (im (10 * i + 2)) b 12 hb
    refine BC_m (c := ti_vc i c) e30 (fun m k hm hk3 => ?_) (e4.trans ti_vc_4.symm) b30.2 (BC_b t1 t2 t3 a2)
    have el : ti_loc (83 + 3 * (133 + m - 133) + k) = (133 + m, k) := by
      unfold ti_loc
      rw [if_neg (by omega), if_neg (by omega), if_neg (by omega), if_pos (by omega)]
      refine Prod.ext ?_ ?_
      · dsimp only; omega
      · dsimp only; omega
    have := eloc (83 + 3 * (133 + m - 133) + k) (by omega)
    rw [el] at this
    unfold ti_vc
    rw [if_neg (by omega), if_pos (by omega)]
    exact this
  · obtain ⟨t1, t2, t3⟩ := c_giveT_k (im (10 * i) 1) (im (10 * i + 3)) g 8 hg
    refine GC_m (c := ti_vc i c) e31 (fun m k hm hk3 => ?_) (e4.trans ti_vc_4.symm) b31.2 (GC_b t1 t2 t3 a3)
    have el : ti_loc (119 + 3 * (146 + m - 146) + k) = (146 + m, k) := by
      unfold ti_loc
      rw [if_neg (by omega), if_neg (by omega), if_neg (by omega), if_neg (by omega)]
      refine Prod.ext ?_ ?_
      · dsimp only; omega
      · dsimp only; omega
    have := eloc (119 + 3 * (146 + m - 146) + k) (by omega)
    rw [el] at this
    unfold ti_vc
    rw [if_neg (by omega), if_neg (by omega), if_pos (by omega)]
    exact this
  · exact ImR_k k3 rfl rfl rfl rfl (funext fun t => hk _ t (by omega) (by omega)) e4 hRk
theorem to_restore {e h b g r dd im c q : am_F} (hC : HC h c) (hTb : TLb h c) (hFs : TFs h c) (hB : BaseI h c r) (hb : BC b c) (hg : GC g c) (hn : (0 ≤ e 0 17 ∧ e 0 17 ≤ 3) ∧ e 0 17 = c 0 32) (hIm : ImI im) (hT : ImT im c (c 0 32)) : (c_restore e h r dd b g im).1 = (k_restore c q).1 ∧ (k_restore c q).2.2 = am_put q 0 0 0 ∧ HC (c_restore e h r dd b g im).2.2.1 (k_restore c q).2.1 ∧ TLb (c_restore e h r dd b g im).2.2.1 (k_restore c q).2.1 ∧ TFs (c_restore e h r dd b g im).2.2.1 (k_restore c q).2.1 ∧ BaseI (c_restore e h r dd b g im).2.2.1 (k_restore c q).2.1 (c_restore e h r dd b g im).2.2.2.1 ∧ BC (c_restore e h r dd b g im).2.2.2.2.2.1 (k_restore c q).2.1 ∧ GC (c_restore e h r dd b g im).2.2.2.2.2.2 (k_restore c q).2.1 ∧ ImT im (k_restore c q).2.1 ((k_restore c q).2.1 0 32) ∧ (c_restore e h r dd b g im).2.1 0 17 = (k_restore c q).2.1 0 32 ∧ (0 ≤ (k_restore c q).2.1 0 32 ∧ (k_restore c q).2.1 0 32 ≤ 3) ∧ (∀ m j, ¬ (m = 0 ∧ j = 17) → (c_restore e h r dd b g im).2.1 m j = e m j) ∧ (∀ m j, m ≠ 6 ∧ ¬ (133 ≤ m ∧ m ≤ 144) ∧ ¬ (146 ≤ m ∧ m ≤ 153) → ¬ (m = 0 ∧ (j = 30 ∨ j = 31 ∨ j = 32 ∨ j = 33)) → (k_restore c q).2.1 m j = c m j) ∧ (((c_restore e h r dd b g im).2.2.2.2.1 = dd ∧ (k_restore c q).2.1 = c ∧ (c_restore e h r dd b g im).2.2.1 = h ∧ (c_restore e h r dd b g im).2.2.2.2.2.2 = g) ∨ (c_restore e h r dd b g im).2.2.2.2.1 = am_put dd 0 0 0) := by
  unfold c_restore k_restore
  by_cases g0 : c 0 32 = 0
  · rw [if_pos (by omega), if_pos g0]
    exact ⟨rfl, rfl, hC, hTb, hFs, hB, hb, hg, hT, hn.2, ⟨by dsimp only; omega, by dsimp only; omega⟩, fun _ _ _ => rfl, fun _ _ _ _ => rfl, Or.inl ⟨rfl, rfl, rfl, rfl⟩⟩
  · rw [if_neg (by omega), if_pos (by omega), if_neg g0]
    generalize hM : k_movesAll (am_put c 0 32 (c 0 32 - 1)) 1 (c 0 32 - 1) = M
    have key : ∀ i : Nat, i < 3 → c 0 32 = (i : Int) + 1 → (e 0 17 - 1 = M 0 32) ∧ HC (c_giveH i h im) M ∧ TLb (c_giveH i h im) M ∧ TFs (c_giveH i h im) M ∧ BaseI (c_giveH i h im) M (f_begin (c_giveH i h im) r) ∧ BC (c_giveT (im (10 * i) 0) (im (10 * i + 2)) b) M ∧ GC (c_giveT (im (10 * i) 1) (im (10 * i + 3)) g) M ∧ ImT im M (M 0 32) ∧ am_put e 0 17 (e 0 17 - 1) 0 17 = M 0 32 ∧ (0 ≤ M 0 32 ∧ M 0 32 ≤ 3) ∧ (∀ m j, ¬ (m = 0 ∧ j = 17) → am_put e 0 17 (e 0 17 - 1) m j = e m j) ∧ (∀ m j, m ≠ 6 ∧ ¬ (133 ≤ m ∧ m ≤ 144) ∧ ¬ (146 ≤ m ∧ m ≤ 153) → ¬ (m = 0 ∧ (j = 30 ∨ j = 31 ∨ j = 32 ∨ j = 33)) → M m j = c m j) := by
      intro i hi hci
      have em : c 0 32 - 1 = (i : Int) := by omega
      have h9 := ti_restored (am_put c 0 32 i) i
      rw [em] at hM
      rw [hM] at h9
      obtain ⟨z1, z2, z3, z4, z5, z6, z7, z8, z9⟩ := ti_giveAll hi hC hTb hB hb.1.1 hg.1.1 hIm (hT i (by omega)) h9
      refine ⟨by rw [z7]; omega, z1, z2, z3, z4, z5, z6, fun k hk => z9 k (by omega) (hT k (by omega)), by rw [am_put_s, z7]; omega, by omega, fun m j hmj => ?_, z8⟩
      by_cases g1 : m = 0
      · rw [g1, am_put_i (fun e => hmj ⟨g1, e⟩)]
      · rw [am_put_k g1]
    clear hM
    by_cases g1 : e 0 17 - 1 = 0
    · rw [if_pos g1, c_give_0]
      dsimp only
      obtain ⟨z0, z1, z2, z3, z4, z5, z6, z7, z8, z9, y1, y2⟩ := key 0 (by decide) (by omega)
      exact ⟨z0, rfl, z1, z2, z3, z4, z5, z6, z7, z8, z9, y1, y2, Or.inr rfl⟩
    · rw [if_neg g1]
      by_cases g2 : e 0 17 - 1 = 1
      · rw [if_pos g2, c_give_1]
        dsimp only
        obtain ⟨z0, z1, z2, z3, z4, z5, z6, z7, z8, z9, y1, y2⟩ := key 1 (by decide) (by omega)
        exact ⟨z0, rfl, z1, z2, z3, z4, z5, z6, z7, z8, z9, y1, y2, Or.inr rfl⟩
      · rw [if_neg g2, c_give_2]
        dsimp only
        obtain ⟨z0, z1, z2, z3, z4, z5, z6, z7, z8, z9, y1, y2⟩ := key 2 (by decide) (by omega)
        exact ⟨z0, rfl, z1, z2, z3, z4, z5, z6, z7, z8, z9, y1, y2, Or.inr rfl⟩
