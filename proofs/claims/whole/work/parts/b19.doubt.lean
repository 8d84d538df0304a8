/-! THE TIE: the same port told to another state of the model; clocks; runs in doubt -/
def Told (c c' : am_F) : Prop := ∀ k, (k = 4 ∨ (21 ≤ k ∧ k ≤ 32) ∨ (47 ≤ k ∧ k ≤ 58) ∨ (67 ≤ k ∧ k < 67 + (c 4 2).toNat) ∨ (82 ≤ k ∧ k ≤ 87) ∨ (96 ≤ k ∧ k ≤ 101) ∨ (108 ≤ k ∧ k ≤ 111) ∨ (118 ≤ k ∧ k ≤ 121) ∨ (128 ≤ k ∧ k ≤ 131)) → c' k = c k
theorem Told_wind {c c' : am_F} (h : Told c c') (hV : MdV c) (t : Int) : k_windAt c' t = k_windAt c t := by
  have v8 := hV.2.2.2.2.2.2.2.2.1
  unfold k_windAt
  rw [h 4 (Or.inl rfl)]
  refine (ti_rel (R := fun i (a b : Int) => a = b ∧ (a = -1 ∨ (0 ≤ a ∧ a < 12))) (f := g_k_windAt_4 c' t) (g := g_k_windAt_4 c t) (c 4 8).toNat 0 (-1) (-1) ⟨rfl, Or.inl rfl⟩ fun j a b a1 a2 hR => ?_).1
  obtain ⟨rfl, ha⟩ := hR
  unfold g_k_windAt_4
  rw [h (21 + j.toNat) (by omega)]
  by_cases g1 : t < c (21 + j.toNat) 0
  · rw [if_pos g1, if_pos g1]; exact ⟨rfl, ha⟩
  · rw [if_neg g1, if_neg g1]
    by_cases g2 : a = -1
    · rw [if_pos g2, if_pos g2]; exact ⟨rfl, by omega⟩
    · rw [if_neg g2, if_neg g2, h (21 + a.toNat) (by omega)]
      split
      · exact ⟨rfl, ha⟩
      · exact ⟨rfl, by omega⟩
theorem Told_thin {c c' : am_F} (h : Told c c') (hV : MdV c) (t : Int) : k_thinAt c' t = k_thinAt c t := by
  have v9 := hV.2.2.2.2.2.2.2.2.2.1
  unfold k_thinAt
  rw [h 4 (Or.inl rfl)]
  have h9 := ti_rel (R := fun i (a b : Int) => a = b ∧ (a = -1 ∨ (0 ≤ a ∧ a < 12))) (f := g_k_thinAt_4 c' t) (g := g_k_thinAt_4 c t) (c 4 9).toNat 0 (-1) (-1) ⟨rfl, Or.inl rfl⟩ (fun j a b a1 a2 hR => by
    obtain ⟨rfl, ha⟩ := hR
    unfold g_k_thinAt_4
    rw [h (47 + j.toNat) (by omega)]
    by_cases g1 : t < c (47 + j.toNat) 0
    · rw [if_pos g1, if_pos g1]; exact ⟨rfl, ha⟩
    · rw [if_neg g1, if_neg g1]
      by_cases g2 : a = -1
      · rw [if_pos g2, if_pos g2]; exact ⟨rfl, by omega⟩
      · rw [if_neg g2, if_neg g2, h (47 + a.toNat) (by omega)]
        split
        · exact ⟨rfl, ha⟩
        · exact ⟨rfl, by omega⟩)
  simp only []
  rw [h9.1]
  have h8 := h9.2
  rw [h9.1] at h8
  by_cases g : am_fold (g_k_thinAt_4 c t) 0 (c 4 9).toNat (-1) = -1
  · rw [if_pos g, if_pos g]
  · rw [if_neg g, if_neg g, h (47 + (am_fold (g_k_thinAt_4 c t) 0 (c 4 9).toNat (-1)).toNat) (by omega)]
theorem Told_lot {c c' : am_F} (h : Told c c') (hV : MdV c) (x y : Int) : k_lotOf c' x y = k_lotOf c x y := by
  have v3 := hV.2.2.2.1
  unfold k_lotOf
  have e : am_find (p_k_lotOf_2 c' x y) 0 (c 4 3).toNat = am_find (p_k_lotOf_2 c x y) 0 (c 4 3).toNat := ti_find_eq _ 0 fun j a1 a2 => by
    unfold p_k_lotOf_2
    rw [h (96 + j.toNat) (by omega)]
  rw [h 4 (Or.inl rfl), e]
theorem Told_walk {c c' : am_F} (h : Told c c') (hV : MdV c) {w : Int} (hw : 0 ≤ w ∧ w < c 4 4) (n : Nat) : am_fold (g_k_placeOf_52 c' w) 0 n (c' (108 + w.toNat) 0, c' (108 + w.toNat) 1) = am_fold (g_k_placeOf_52 c w) 0 n (c (108 + w.toNat) 0, c (108 + w.toNat) 1) := by
  have v4 := hV.2.2.2.2.1
  have e := h (108 + w.toNat) (by omega)
  rw [e]
  refine am_fold_eq _ 0 _ fun j y a1 a2 => ?_
  unfold g_k_placeOf_52
  rw [e]
theorem Told_TH {h c c' : am_F} (hT : Told c c') (hV : MdV c) (hH : TH h c) : TH h c' := by
  have e4 := hT 4 (Or.inl rfl)
  have v10 := hV.2.2.2.2.2.2.2.2.2.2.1
  have v8 := hV.2.2.2.2.2.2.2.2.1
  obtain ⟨h1, h2, h3, h4, h5, h6⟩ := hH
  refine ⟨by rw [e4]; exact h1, fun x y a1 a2 a3 a4 => ?_, fun t a1 a2 => ?_, ⟨by rw [e4]; exact h4.1, fun i a1 a2 => ?_⟩, fun t a1 a2 => ?_, by rw [e4]; exact h6⟩
  · rw [e4] at a2 a4
    rw [Told_lot hT hV]
    exact h2 x y a1 a2 a3 a4
  · rw [Told_wind hT hV]
    by_cases g : k_windAt c t = -1
    · rcases h3 t a1 a2 with g2 | g2
      · exact Or.inl g2
      · exact absurd g g2.1
    · have hk : 0 ≤ k_windAt c t ∧ k_windAt c t < 12 := by
        have h9 := am_fold_inv (P := fun _ (a : Int) => a = -1 ∨ (0 ≤ a ∧ a < 12)) (g := g_k_windAt_4 c t) (c 4 8).toNat 0 (-1) (Or.inl rfl) (fun j a b1 b2 ha => by
          unfold g_k_windAt_4
          split
          · exact ha
          · split
            · omega
            · split
              · exact ha
              · omega)
        rcases h9 with h9 | h9
        · exact absurd h9 g
        · exact h9
      rw [hT (21 + (k_windAt c t).toNat) (by omega)]
      exact h3 t a1 a2
  · rw [e4] at a2 ⊢
    rw [hT (82 + i.toNat) (by omega)]
    exact h4.2 i a1 a2
  · rw [Told_thin hT hV]
    exact h5 t a1 a2
theorem HC_told {h c c' : am_F} (hT : Told c c') (hV' : MdV c') (h45 : c' 0 45 = c 0 45) (hC : HC h c) : HC h c' := by
  have e4 := hT 4 (Or.inl rfl)
  obtain ⟨hHI, hV, hH, hN, hW, hWt, hSh, hL⟩ := hC
  have v3 := hV.2.2.2.1
  have v4 := hV.2.2.2.2.1
  have v5 := hV.2.2.2.2.2.1
  have v6 := hV.2.2.2.2.2.2.1
  refine ⟨hHI, hV', Told_TH hT hV hH, by unfold TN; rw [e4, h45]; exact hN, ⟨by rw [e4]; exact hW.1, fun w a1 a2 => ?_⟩, ⟨by rw [e4]; exact hWt.1, fun i a1 a2 => ?_⟩, ⟨by rw [e4]; exact hSh.1, fun i a1 a2 => ?_⟩, ⟨fun k a1 a2 => ?_, fun k a1 a2 => ?_, fun k x y a1 a2 a3 a4 a5 a6 => ?_⟩⟩
  · rw [e4] at a2 ⊢
    obtain ⟨q1, q2⟩ := hW.2 w a1 a2
    refine ⟨by rw [hT (108 + w.toNat) (by omega)]; exact q1, fun m hm => ?_⟩
    rw [Told_walk hT hV ⟨a1, a2⟩]
    exact q2 m hm
  · rw [e4] at a2 ⊢
    rw [hT (118 + i.toNat) (by omega)]
    exact hWt.2 i a1 a2
  · rw [e4] at a2 ⊢
    rw [hT (128 + i.toNat) (by omega)]
    exact hSh.2 i a1 a2
  · rw [e4] at a2 ⊢
    rw [hT (96 + k.toNat) (by omega)]
    exact hL.1 k a1 a2
  · rw [e4] at a2
    rw [hT (96 + k.toNat) (by omega)]
    exact hL.2.1 k a1 a2
  · rw [e4] at a2
    rw [hT (96 + k.toNat) (by omega)] at a3 a4 a5 a6
    rw [Told_lot hT hV]
    exact hL.2.2 k x y a1 a2 a3 a4 a5 a6
theorem Told_0 {c : am_F} {i : Nat} {v : Int} : Told c (am_put c 0 i v) := fun k hk => am_put_kr (by omega)
theorem MdV_put0 {c : am_F} {i : Nat} {v : Int} (h : MdV c) (h1 : i ≠ 45) (h2 : i ≠ 30) (h3 : i ≠ 31) : MdV (am_put c 0 i v) := by
  unfold MdV
  rw [am_put_kr (by decide), am_put_i (fun e => h1 e.symm), am_put_i (fun e => h2 e.symm), am_put_i (fun e => h3 e.symm)]
  exact h
/-- another run of the class, over whatever it was before -/
def TrI (t : am_F) : Prop := RnI t ∧ RnZ t
theorem RunAt_I {b : Prop} {h c r : am_F} {P : am_F → Prop} {k0 k : Int} (hR : RunAt b h c P k0 k r) : RnI r := ⟨by have := hR.1; have := hR.2.1; omega, hR.2.2.1, hR.2.2.2.1⟩
def TLb (h c : am_F) : Prop := ∀ i : Int, 0 ≤ i → i < h 0 5 → f_at (h 0 5) (h 3) i 0 = c (67 + i.toNat) 0 + 10 * c (67 + i.toNat) 1 ∧ (0 ≤ c (67 + i.toNat) 0 ∧ c (67 + i.toNat) 0 < 9) ∧ f_at (h 0 5) (h 3) i 1 = c (67 + i.toNat) 2
theorem f_begin_01 (h r : am_F) : f_begin h r 0 1 = 0 ∧ f_begin h r 0 3 = 0 ∧ f_begin h r 0 4 = -1 := ⟨rfl, rfl, rfl⟩
theorem ti_doubtRun {h c t : am_F} {hb : Nat} {sd dq : Int} (hC : HC h c) (hTb : TLb h c) (hFs : TFs h c) (ht : TrI t) (hq : 0 ≤ dq ∧ dq ≤ 8) : RunAt False h (am_put c 0 61 dq) (fun q => q 0 60 = sd) 0 0 (am_put (am_put (f_beginT hb h t) 0 2 sd) 0 3 dq) ∧ RnZ (am_put (am_put (f_beginT hb h t) 0 2 sd) 0 3 dq) := by
  obtain ⟨hHI, hV, hH, hN, hW, hWt, hSh, hL⟩ := hC
  have er : ∀ k, k ≠ 0 → am_put (am_put (f_beginT hb h t) 0 2 sd) 0 3 dq k = f_begin h t k := fun k hk => by
    rw [am_put_kr hk, am_put_kr hk]
    unfold f_beginT
    exact am_put_kr hk
  obtain ⟨g1, g3, g4⟩ := f_begin_01 h t
  have h1 : am_put (am_put (f_beginT hb h t) 0 2 sd) 0 3 dq 0 1 = 0 := by
    rw [am_put_i (by decide), am_put_i (by decide)]
    unfold f_beginT
    rw [am_put_i (by decide)]
    exact g1
  have h4 : am_put (am_put (f_beginT hb h t) 0 2 sd) 0 3 dq 0 4 = -1 := by
    rw [am_put_i (by decide), am_put_i (by decide)]
    unfold f_beginT
    rw [am_put_i (by decide)]
    exact g4
  refine ⟨RunAt_begin (r := t) er h1 ⟨by rw [h4]; omega, Or.inl h4⟩ ?_ hHI.1.1 (fun q hq9 => ?_) ht.1.2.1 hHI.2.2.2.2.1 ⟨?_, hFs.2⟩ ht.2, ?_⟩
  · unfold TLp
    rw [h4]
    refine ⟨fun i a1 a2 => by rw [am_put_kr (by omega)]; exact hTb i a1 a2, Or.inl ⟨rfl, ?_⟩⟩
    rw [am_put_i (by decide), hN.2.1, hN.2.2]
  · refine Or.inr ⟨?_, ?_, ?_⟩
    · rw [am_put_s]; omega
    · rw [am_put_s, am_put_s]
    · rw [am_put_i (by decide), am_put_s]
      exact hq9.symm
  · intro x y a1 a2 a3 a4
    rw [am_put_kr (by decide)]
    exact hFs.1 x y a1 a2 a3 a4
  · have hz := RnZ_begin (h := h) ht.2
    unfold RnZ
    rw [er 3 (by decide), er 4 (by decide), er 5 (by decide), er 7 (by decide)]
    exact hz
/-- a run in doubt, up to a step -/
theorem ti_doubtTo {h c t : am_F} {hb : Nat} {sd dq st : Int} (hC : HC h c) (hTb : TLb h c) (hFs : TFs h c) (ht : TrI t) (hq : 0 ≤ dq ∧ dq ≤ 8) (hd : c 0 58 = -1) (hst : -1 ≤ st ∧ st < 40) : TrI (f_upTo h (am_put (am_put (f_beginT hb h t) 0 2 sd) 0 3 dq) st) ∧ ∀ (s : Int) (q : am_F), -1 ≤ s → s ≤ st → FQ s (f_upTo h (am_put (am_put (f_beginT hb h t) 0 2 sd) 0 3 dq) st) (k_goesD c q sd dq) := by
  obtain ⟨h1, h2⟩ := ti_doubtRun (hb := hb) (sd := sd) hC hTb hFs ht hq
  have hV' : MdV (am_put c 0 61 dq) := MdV_put0 hC.2.1 (by decide) (by decide) (by decide)
  have hC' : HC h (am_put c 0 61 dq) := HC_told Told_0 hV' (am_put_i (by decide)) hC
  have hu := RunAt_upTo hC'.1.1 hC'.2.2.1 h1 hst (by rw [am_put_i (by decide)]; omega)
  refine ⟨⟨RunAt_I hu, RnZ_upTo hC.1.1 h2⟩, fun s q a1 a2 => ?_⟩
  have hr := RunAt_read (q := am_put q 0 60 sd) hC'.1.1 hC'.2.2.1 hu (am_put_s) (p := s + 1) (by split <;> omega)
  exact FQ_of hu.2.2.1 (by omega) hr.1
theorem ti_goD_0 {c q : am_F} {sd dq : Int} (hV : MdV c) : k_goesD c q sd dq 0 0 = q 0 0 ∧ k_goesD c q sd dq 2 = q 2 ∧ ∀ k, 268 ≤ k → k_goesD c q sd dq k = q k := by
  have hk := KF_goes (c := am_put c 0 61 dq) (q := am_put q 0 60 sd) (MdV_put0 hV (by decide) (by decide) (by decide))
  refine ⟨(hk.2 0 (by decide)).trans (am_put_i (by decide)), (hk.1 2 (Or.inl rfl)).trans (am_put_kr (by decide)), fun k h => (hk.1 k (Or.inr h)).trans (am_put_kr (by omega))⟩
theorem to_doubt {e h c t q : am_F} {hb : Nat} {x y s sd dq : Int} (hC : HC h c) (hTb : TLb h c) (hFs : TFs h c) (hd : c 0 58 = -1) (ht : TrI t) (hR : RE e q) : TO 1 (c_doubt hb e h t x y s sd dq).1 (c_doubt hb e h t x y s sd dq).2.1 e (c_doubt hb e h t x y s sd dq).2.2.1 (k_doubt c q x y s sd dq).1 (k_doubt c q x y s sd dq).2 ∧ TrI (c_doubt hb e h t x y s sd dq).2.2.2 := by
  obtain ⟨hHI, hV, hT, hN, hW, hWt, hSh, hL⟩ := id hC
  have hv1 := hV.1
  have hv2 := hV.2.1
  unfold c_doubt k_doubt
  rcases ti_cel hT.1 x y with ⟨a0, b0, c0⟩ | ⟨a0, b0⟩
  · rcases ti_stp s with ⟨a1, b1, c1⟩ | ⟨a1, b1, d1⟩
    · rcases ti_rng dq 0 8 with ⟨a2, b2, c2⟩ | ⟨a2, b2, d2⟩
      · simp only [a0, b0, a1, b1, a2, b2, reduceIte, Int.reduceEq, k_refuse0]
        obtain ⟨u1, u2⟩ := ti_doubtTo (hb := hb) (sd := sd) (st := s) hC hTb hFs ht c2 hd (by omega)
        obtain ⟨w1, w2, -⟩ := ti_goD_0 (q := am_put q 0 0 0) (sd := sd) (dq := dq) hV
        refine ⟨TO_ok (by rw [w1, am_put_s]) (u2 s (am_put q 0 0 0) (by omega) (by omega) x y (by omega) (by omega) (by omega) (by omega)).1 (fun j hj => by rw [w2]; exact RE_put hR j hj), u1⟩
      · simp only [a0, b0, a1, b1, a2, b2, reduceIte, Int.reduceEq, k_refuse0]
        exact ⟨TO_ref (by decide) (by decide) (by decide) hR, ht⟩
    · simp only [a0, b0, a1, b1, reduceIte, Int.reduceEq, k_refuse0]
      exact ⟨TO_ref (by decide) (by decide) (by decide) hR, ht⟩
  · simp only [a0, b0, reduceIte, Int.reduceEq, k_refuse0]
    exact ⟨TO_ref (by decide) (by decide) (by decide) hR, ht⟩
/-! clocks -/
theorem ti_wanted {b c : am_F} {l p : Int} (hV : MdV c) (hB : BC b c) : f_wanted (b 0 2) (b 1) l p = am_fold (g_k_clock_100 c l p) 0 (c 0 30).toNat 0 ∧ 0 ≤ f_wanted (b 0 2) (b 1) l p ∧ f_wanted (b 0 2) (b 1) l p ≤ 11988 ∧ (100 ≤ p → f_wanted (b 0 2) (b 1) l p = 0) := by
  have h12 := hV.2.2.2.2.2.2.2.2.2.2.2.2.1
  obtain ⟨hBd, hT, hM⟩ := hB
  have hT1 := hT.1
  unfold f_wanted
  have h9 := ti_rel (R := fun i (x y : Int) => x = y ∧ (0 ≤ x ∧ x ≤ 999 * i) ∧ (100 ≤ p → x = 0)) (f := g_wanted (b 0 2) (b 1) l p) (g := g_k_clock_100 c l p) (b 0 2).toNat 0 0 0 ⟨rfl, by decide, fun _ => rfl⟩ (fun i x y a1 a2 hr => by
    obtain ⟨rfl, r2, r3⟩ := hr
    obtain ⟨t1, t2, t3⟩ := hT.2 i a1 (by omega)
    obtain ⟨m1, m2, m3⟩ := hM i a1 (by omega)
    unfold g_wanted g_k_clock_100
    simp only []
    rw [t1, t2, t3]
    by_cases g1 : c (133 + i.toNat) 0 = l
    · by_cases g2 : c (133 + i.toNat) 2 < p
      · rw [if_neg (by omega), if_pos g1, if_pos g2]
        exact ⟨by omega, by omega, r3⟩
      · rw [if_pos ⟨g1, by omega⟩, if_pos g1, if_neg g2, ti_w ⟨by omega, by omega⟩]
        exact ⟨rfl, by omega, fun h => by omega⟩
    · rw [if_neg (fun g => g1 g.1), if_neg g1]
      exact ⟨by omega, by omega, r3⟩)
  obtain ⟨r1, r2, r3⟩ := h9
  rw [show (c 0 30).toNat = (b 0 2).toNat by omega]
  exact ⟨r1, r2.1, by omega, r3⟩
theorem ti_clockLoop {b c : am_F} {l th : Int} (hV : MdV c) (hB : BC b c) (hth : 0 ≤ th) : ∀ (n : Nat) (p : Int) (F G : Nat), p + n = 100 → 0 ≤ p → n + 1 ≤ F → n + 1 ≤ G → (am_wh (w_c_clock_65 b l th) F (p, f_wanted (b 0 2) (b 1) l p)).1 + 1 = (am_wh (w_k_clock_87 c l th) G (p + 1, f_wanted (b 0 2) (b 1) l p)).1 ∧ (am_wh (w_c_clock_65 b l th) F (p, f_wanted (b 0 2) (b 1) l p)).2 = (am_wh (w_k_clock_87 c l th) G (p + 1, f_wanted (b 0 2) (b 1) l p)).2 ∧ (0 ≤ (am_wh (w_c_clock_65 b l th) F (p, f_wanted (b 0 2) (b 1) l p)).1 ∧ (am_wh (w_c_clock_65 b l th) F (p, f_wanted (b 0 2) (b 1) l p)).1 ≤ 100) ∧ 0 ≤ (am_wh (w_c_clock_65 b l th) F (p, f_wanted (b 0 2) (b 1) l p)).2 ∧ (am_wh (w_c_clock_65 b l th) F (p, f_wanted (b 0 2) (b 1) l p)).2 ≤ 11988 := by
  intro n
  induction n with
  | zero =>
    intro p F G h1 h2 h3 h4
    obtain ⟨F', rfl⟩ : ∃ F', F = F' + 1 := ⟨F - 1, by omega⟩
    obtain ⟨G', rfl⟩ : ∃ G', G = G' + 1 := ⟨G - 1, by omega⟩
    have e := (ti_wanted (l := l) (p := p) hV hB).2.2.2 (by omega)
    rw [am_wh_r (y := (p, f_wanted (b 0 2) (b 1) l p)) (by unfold w_c_clock_65; simp only []; rw [if_pos (by omega)]), am_wh_r (y := (p + 1, f_wanted (b 0 2) (b 1) l p)) (by unfold w_k_clock_87; simp only []; rw [if_pos (by omega)])]
    exact ⟨rfl, rfl, ⟨by omega, by omega⟩, by omega, by omega⟩
  | succ n ih =>
    intro p F G h1 h2 h3 h4
    obtain ⟨F', rfl⟩ : ∃ F', F = F' + 1 := ⟨F - 1, by omega⟩
    obtain ⟨G', rfl⟩ : ∃ G', G = G' + 1 := ⟨G - 1, by omega⟩
    have w0 := ti_wanted (l := l) (p := p) hV hB
    have w1 := ti_wanted (l := l) (p := p + 1) hV hB
    by_cases g : f_wanted (b 0 2) (b 1) l p ≤ th
    · rw [am_wh_r (y := (p, f_wanted (b 0 2) (b 1) l p)) (by unfold w_c_clock_65; simp only []; rw [if_pos g]), am_wh_r (y := (p + 1, f_wanted (b 0 2) (b 1) l p)) (by unfold w_k_clock_87; simp only []; rw [if_pos g])]
      exact ⟨rfl, rfl, ⟨by omega, by omega⟩, w0.2.1, w0.2.2.1⟩
    · rw [am_wh_l (y := (p + 1, f_wanted (b 0 2) (b 1) l (p + 1))) (by unfold w_c_clock_65; simp only []; rw [if_neg g, if_neg (by omega)]), am_wh_l (y := (p + 1 + 1, f_wanted (b 0 2) (b 1) l (p + 1))) (by unfold w_k_clock_87; simp only []; rw [if_neg g, w1.1])]
      exact ih (p + 1) F' G' (by omega) (by omega) (by omega) (by omega)
theorem to_clock {e h c r q b : am_F} {k t w : Int} (hC : HC h c) (hB : BaseI h c r) (hR : RE e q) (hb : BC b c) : TO 2 (c_clock e h r b k t w).1 (c_clock e h r b k t w).2.1 e (c_clock e h r b k t w).2.2.1 (k_clock c q k t w).1 (k_clock c q k t w).2 ∧ BaseI h c (c_clock e h r b k t w).2.2.2 := by
  obtain ⟨hHI, hV, hT, hN, hW, hWt, hSh, hL⟩ := id hC
  unfold c_clock k_clock
  rcases ti_rw hT.2.2.2.2.2 k with ⟨a0, b0, c0⟩ | ⟨a0, b0⟩
  · rcases ti_stp t with ⟨a1, b1, c1⟩ | ⟨a1, b1, d1⟩
    · rcases ti_rng w 0 2 with ⟨a2, b2, c2⟩ | ⟨a2, b2, d2⟩
      · simp only [a0, b0, a1, b1, a2, b2, k_isLot, reduceIte, Int.reduceEq, k_refuse0]
        obtain ⟨y1, y2⟩ := ti_inLot hC (Base_fog hHI.1 hT hB (st := t) (s := t) (by omega) (by omega) (am_put q 0 0 0)) c0
        have hfl := (hL.1 k c0.1 c0.2).2.2.1
        rw [ti_floor hL c0, y1]
        rw [y1] at y2
        generalize k_yardsOf c (k_goes c (am_put q 0 0 0)) k t = th at *
        generalize c (96 + k.toNat) 4 = fl at *
        have h9 := ti_clockLoop (l := k) (th := th) hV hb y2.1 (100 - fl).toNat fl 101 101 (by omega) (by omega) (by omega) (by omega)
        have em : am_wh (w_k_clock_87 c k th) 102 (fl, th + 1) = am_wh (w_k_clock_87 c k th) 101 (fl + 1, f_wanted (b 0 2) (b 1) k fl) := am_wh_l (n := 101) (by unfold w_k_clock_87; simp only []; rw [if_neg (by omega), (ti_wanted (l := k) (p := fl) hV hb).1])
        rw [em, ← h9.1, ← h9.2.1]
        obtain ⟨-, -, p1, p2⟩ := h9
        generalize (am_wh (w_c_clock_65 b k th) 101 (fl, f_wanted (b 0 2) (b 1) k fl)).1 = P at *
        generalize (am_wh (w_c_clock_65 b k th) 101 (fl, f_wanted (b 0 2) (b 1) k fl)).2 = W at *
        have hm : 0 ≤ P * W ∧ P * W ≤ 100 * 11988 := ⟨Int.mul_nonneg p1.1 p2.1, Int.mul_le_mul p1.2 p2.2 p2.1 (by decide)⟩
        have h3 : w = 0 ∨ w = 1 ∨ w = 2 := by omega
        have eP : P + 1 + -1 = P := by omega
        rw [eP]
        have hBU := (Base_upTo hHI.1 hT hB (st := t) (by omega)).1
        rcases h3 with rfl | rfl | rfl
        · exact ⟨TO_ok (by rw [ti_go_0 hV, am_put_s]) rfl (RE_go hV (RE_put hR)), hBU⟩
        · exact ⟨TO_ok (by rw [ti_go_0 hV, am_put_s]) rfl (RE_go hV (RE_put hR)), hBU⟩
        · exact ⟨TO_ok (by rw [ti_go_0 hV, am_put_s]) (ti_w ⟨by omega, by omega⟩) (RE_go hV (RE_put hR)), hBU⟩
      · simp only [a0, b0, a1, b1, a2, b2, k_isLot, reduceIte, Int.reduceEq, k_refuse0]
        exact ⟨TO_ref (by decide) (by decide) (by decide) hR, hB⟩
    · simp only [a0, b0, a1, b1, k_isLot, reduceIte, Int.reduceEq, k_refuse0]
      exact ⟨TO_ref (by decide) (by decide) (by decide) hR, hB⟩
  · simp only [a0, b0, k_isLot, reduceIte, Int.reduceEq, k_refuse0]
    exact ⟨TO_ref (by decide) (by decide) (by decide) hR, hB⟩
