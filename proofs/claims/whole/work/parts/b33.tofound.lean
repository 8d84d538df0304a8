/-! THE TIE: what was run stays run; found -/
theorem TF_swap {k : Nat} {p : Int} {r w q q' : am_F} (a : TF k p r q) (b : TF k p w q) (d : TF k p w q') : TF k p r q' := ⟨fun x y h1 h2 h3 h4 => ((a.1 x y h1 h2 h3 h4).trans (b.1 x y h1 h2 h3 h4).symm).trans (d.1 x y h1 h2 h3 h4), a.2⟩
theorem T3_swap {p : Int} {r w q q' : am_F} (a : T3 p r q) (b : T3 p w q) (d : T3 p w q') : T3 p r q' := ⟨(a.1.trans b.1.symm).trans d.1, a.2⟩
theorem T4_swap {p : Int} {r w q q' : am_F} (a : T4 p r q) (b : T4 p w q) (d : T4 p w q') : T4 p r q' := ⟨(a.1.trans b.1.symm).trans d.1, a.2⟩
theorem T5_swap {p : Int} {r w q q' : am_F} (a : T5 p r q) (b : T5 p w q) (d : T5 p w q') : T5 p r q' := ⟨(a.1.trans b.1.symm).trans d.1, a.2⟩
theorem T6_swap {p : Int} {r w q q' : am_F} (a : T6 p r q) (b : T6 p w q) (d : T6 p w q') : T6 p r q' := ⟨(a.1.trans b.1.symm).trans d.1, a.2⟩
theorem T7_swap {L p : Int} {r w q q' : am_F} (a : T7 L p r q) (b : T7 L p w q) (d : T7 L p w q') : T7 L p r q' := fun l h1 h2 => ⟨((a l h1 h2).1.trans (b l h1 h2).1.symm).trans (d l h1 h2).1, (a l h1 h2).2⟩
theorem T8_swap {L : Int} {r w q q' : am_F} (a : T8 L r q) (b : T8 L w q) (d : T8 L w q') : T8 L r q' := fun l x y h1 h2 h3 h4 h5 h6 => ⟨((a l x y h1 h2 h3 h4 h5 h6).1.trans (b l x y h1 h2 h3 h4 h5 h6).1.symm).trans (d l x y h1 h2 h3 h4 h5 h6).1, (a l x y h1 h2 h3 h4 h5 h6).2⟩
theorem T9_swap {r w q q' : am_F} (a : T9 r q) (b : T9 w q) (d : T9 w q') : T9 r q' := fun x y h1 h2 h3 h4 => ⟨((a x y h1 h2 h3 h4).1.trans (b x y h1 h2 h3 h4).1.symm).trans (d x y h1 h2 h3 h4).1, (a x y h1 h2 h3 h4).2⟩
theorem TSo_swap {L p : Int} {r w q q' : am_F} (a : TSo L p r q) (b : TSo L p w q) (d : TSo L p w q') : TSo L p r q' := ⟨T3_swap a.1 b.1 d.1, T4_swap a.2.1 b.2.1 d.2.1, T5_swap a.2.2.1 b.2.2.1 d.2.2.1, T7_swap a.2.2.2.1 b.2.2.2.1 d.2.2.2.1, T8_swap a.2.2.2.2.1 b.2.2.2.2.1 d.2.2.2.2.1, T9_swap a.2.2.2.2.2 b.2.2.2.2.2 d.2.2.2.2.2⟩
theorem TSum_swap {L p : Int} {r w q q' : am_F} (a : TSum L p r q) (b : TSum L p w q) (d : TSum L p w q') : TSum L p r q' := ⟨T3_swap a.1 b.1 d.1, T4_swap a.2.1 b.2.1 d.2.1, T5_swap a.2.2.1 b.2.2.1 d.2.2.1, fun h => T6_swap (a.2.2.2.1 h) (b.2.2.2.1 h) (d.2.2.2.1 h), T7_swap a.2.2.2.2 b.2.2.2.2 d.2.2.2.2⟩
theorem BaseI_swap {h c c' r : am_F} (hC : HC h c) (hTb : TLb h c) (hFs : TFs h c) (hC' : HC h c') (hTb' : TLb h c') (hFs' : TFs h c') (hz : FzI h) (hd' : c' 0 58 = -1 ∧ c' 0 61 = -1) (hB : BaseI h c r) : BaseI h c' r := by
  obtain ⟨hd, hZ, k, a⟩ := hB
  have hk := a.1
  have ek : ((k.toNat : Nat) : Int) = k := by omega
  have b := (ti_canRun hC hTb hFs hz hd.2 k.toNat (by omega) (Or.inl hd.1)).1
  have d := (ti_canRun hC' hTb' hFs' hz hd'.2 k.toNat (by omega) (Or.inl hd'.1)).1
  rw [ek] at b d
  have hL : c' 0 45 = c 0 45 := by
    have h1 := hC.2.2.2.1
    have h2 := hC'.2.2.2.1
    unfold TN at h1 h2
    omega
  have h03 : r 0 3 ≤ 0 := by
    rcases (a.2.2.2.2.2.2 (fun _ _ => 0) trivial).1.2.1 with h1 | h1
    · exact h1.2
    · exact absurd hd.2 h1.1
  have h04 : r 0 4 = -1 ∧ c 0 45 = h 0 5 := by
    rcases a.2.2.2.2.1.2 with h1 | h1
    · exact h1
    · exfalso
      have h2 := hC.2.2.2.1
      unfold TN at h2
      omega
  refine ⟨hd', hZ, k, a.1, a.2.1, a.2.2.1, a.2.2.2.1, ⟨hTb', Or.inl ⟨h04.1, by omega⟩⟩, a.2.2.2.2.2.1, fun q _ => ?_⟩
  obtain ⟨⟨A1, A2, A3⟩, A4⟩ := a.2.2.2.2.2.2 q trivial
  obtain ⟨⟨B1, B2, B3⟩, B4⟩ := b.2.2.2.2.2.2 q trivial
  obtain ⟨⟨D1, D2, D3⟩, D4⟩ := d.2.2.2.2.2.2 q trivial
  rw [hL] at D3 D4 ⊢
  exact ⟨⟨TF_swap A1 B1 D1, Or.inl ⟨hd'.2, h03⟩, fun _ => TSo_swap (A3 trivial) (B3 trivial) (D3 trivial)⟩, fun p p1 p2 => ⟨⟨TF_swap (A4 p p1 p2).1.1 (B4 p p1 p2).1.1 (D4 p p1 p2).1.1, ((A4 p p1 p2).1.2.trans (B4 p p1 p2).1.2.symm).trans (D4 p p1 p2).1.2⟩, fun _ => TSum_swap ((A4 p p1 p2).2 trivial) ((B4 p p1 p2).2 trivial) ((D4 p p1 p2).2 trivial)⟩⟩
theorem FdI_eq {c c' : am_F} (h : FdI c c') : c' = ti_dc c (c' 0 58) (c' 0 59) := by
  rw [← FdI_dc h]
  funext k j
  unfold ti_dc
  by_cases hk : k = 0
  · subst hk
    by_cases e1 : j = 59
    · subst e1; rw [am_put_s]
    · rw [am_put_i e1]
      by_cases e2 : j = 58
      · subst e2; rw [am_put_s]
      · rw [am_put_i e2]
  · rw [am_put_k hk, am_put_k hk]
theorem FdI_C {h c c' : am_F} (hF : FdI c c') (hC : HC h c) (hTb : TLb h c) (hFs : TFs h c) : HC h c' ∧ TLb h c' ∧ TFs h c' := by
  rw [FdI_eq hF]
  exact ti_dcC hC hTb hFs
theorem ti_foundKeep {c c0 q0 : am_F} (hV : MdV c) (h0 : FdI c c0) : FdI c (am_fold (g_k_found_40 c0) 0 40 (0, (-1), (-1), c0, q0)).2.2.2.1 ∧ KF q0 (am_fold (g_k_found_40 c0) 0 40 (0, (-1), (-1), c0, q0)).2.2.2.2 := by
  refine ti_inv0 (P := fun (y : Int × Int × Int × am_F × am_F) => FdI c y.2.2.2.1 ∧ KF q0 y.2.2.2.2) 40 0 (0, (-1), (-1), c0, q0) ⟨h0, KF_r⟩ fun s y a1 a2 hy => ?_
  have e : g_k_found_40 c0 s y = am_fold (g_k_found_50 c0 s) 0 (c0 4 1).toNat y := rfl
  rw [e]
  refine ti_inv0 (P := fun (y : Int × Int × Int × am_F × am_F) => FdI c y.2.2.2.1 ∧ KF q0 y.2.2.2.2) _ 0 y hy fun y0 y b1 b2 hy => ?_
  have e5 : g_k_found_50 c0 s y0 y = am_fold (g_k_found_64 s y0) 0 (c0 4 0).toNat y := rfl
  rw [e5]
  refine ti_inv0 (P := fun (y : Int × Int × Int × am_F × am_F) => FdI c y.2.2.2.1 ∧ KF q0 y.2.2.2.2) _ 0 y hy fun x0 y d1 d2 hy => ?_
  obtain ⟨mm, stp, on, cc, q⟩ := y
  have e1 : am_put (am_put cc 0 58 s) 0 59 (x0 + 9 * y0) = ti_dc c s (x0 + 9 * y0) := FdI_dc hy.1
  have e2 := ti_areRight2 (ti_dc c s (x0 + 9 * y0)) q
  unfold g_k_found_64
  dsimp only
  rw [e1, e2]
  exact ⟨FdI_ofdc, KF_t hy.2 (KF_goes (MdV_put0 (MdV_put0 hV (by decide) (by decide) (by decide)) (by decide) (by decide) (by decide)))⟩
theorem to_found {e h c r tt dd ga q : am_F} {hb : Nat} {what : Int} (hC : HC h c) (hTb : TLb h c) (hFs : TFs h c) (hz : FzI h) (hB : BaseI h c r) (hg : GC ga c) (ht : TrI tt) (hD : DdI h ga dd) (hR : RE e q) : TO 3 (c_found hb e h r tt dd ga what).1 (c_found hb e h r tt dd ga what).2.1 e (c_found hb e h r tt dd ga what).2.2.1 (k_found c q what).1 (k_found c q what).2.2 ∧ BaseI h (k_found c q what).2.1 (c_found hb e h r tt dd ga what).2.2.2.1 ∧ TrI (c_found hb e h r tt dd ga what).2.2.2.2.1 ∧ DdI h ga (c_found hb e h r tt dd ga what).2.2.2.2.2 ∧ FdI c (k_found c q what).2.1 := by
  unfold c_found k_found
  rcases ti_rng what 0 2 with ⟨a0, b0, c0⟩ | ⟨a0, b0, d0⟩
  · simp only [a0, b0, reduceIte, Int.reduceEq, k_refuse0]
    obtain ⟨s1, s2, s3, s4⟩ := to_seek (hb := hb) hC hTb hFs hz hB hg ht hD
    generalize c_seek hb h r tt dd ga = u at s1 s2 s3 s4
    have hk := ti_foundKeep (q0 := am_put q 0 0 0) hC.2.1 (FdI_r (c := c))
    have h9 := s3.resolve_left s4 c hC hTb hFs hB.1 hg c (am_put q 0 0 0) FdI_r
    generalize am_fold (g_k_found_40 c) 0 40 (0, (-1), (-1), c, am_put q 0 0 0) = y at hk h9
    obtain ⟨mm, stp, on, cc, q9⟩ := y
    obtain ⟨k1, k2⟩ := hk
    obtain ⟨n1, n2, n3⟩ := h9
    dsimp only at k1 k2 n1 n2 n3 ⊢
    have hF : FdI c (am_put cc 0 58 (-1)) := ⟨fun k hk => by rw [am_put_kr hk]; exact k1.1 k hk, fun j a1 a2 => by rw [am_put_i a1]; exact k1.2 j a1 a2⟩
    obtain ⟨w1, w2, w3⟩ := FdI_C hF hC hTb hFs
    have hB9 : BaseI h (am_put cc 0 58 (-1)) u.1 := BaseI_swap hC hTb hFs w1 w2 w3 hz ⟨am_put_s, by rw [hF.2 61 (by decide) (by decide)]; exact hB.1.2⟩ s1
    have hq0 : q9 0 0 = 0 := by rw [k2.2 0 (by decide), am_put_s]
    have hRE : RE e q9 := fun j hj => by rw [k2.1 2 (Or.inl rfl)]; exact RE_put hR j hj
    by_cases p0 : what = 0
    · rw [if_pos p0, if_pos p0]
      exact ⟨TO_ok hq0 n1 hRE, hB9, s2, s3, hF⟩
    · rw [if_neg p0, if_neg p0]
      by_cases p1 : what = 1
      · rw [if_pos p1, if_pos p1]
        exact ⟨TO_ok hq0 n2 hRE, hB9, s2, s3, hF⟩
      · rw [if_neg p1, if_neg p1]
        exact ⟨TO_ok hq0 n3 hRE, hB9, s2, s3, hF⟩
  · simp only [a0, b0, reduceIte, Int.reduceEq, k_refuse0]
    exact ⟨TO_ref (by decide) (by decide) (by decide) hR, hB, ht, hD, FdI_r⟩
