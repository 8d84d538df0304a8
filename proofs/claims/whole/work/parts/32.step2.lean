/-! a STEP: in numbers -/
theorem f_carry_0 (h r : am_F) (s cell way yards : Int) : f_carry h r s cell way yards 0 = r 0 := by
  unfold f_carry
  split
  · rfl
  · split <;> rfl
theorem f_blows_0 (h r : am_F) (s turned : Int) : f_blows h r s turned 0 = r 0 := by
  unfold f_blows
  split
  · rfl
  · have q := am_fold_inv (P := fun _ x => x 0 = r 0) (g := g_blow h s (f_way h s turned) (f_parts h s)) (h 0 1).toNat 0 r rfl (fun y x a b hp => by
      have q := am_fold_inv (P := fun _ x => x 0 = r 0) (g := g_blowx h s (f_way h s turned) (f_parts h s) y) (h 0 0).toNat 0 x hp (fun i x a b hp => by
        unfold g_blowx
        split
        · rw [f_carry_0]; exact hp
        · exact hp)
      exact q)
    exact q
theorem f_mix_0 (h r : am_F) (row cell : Int) : f_mix h r row cell 0 = r 0 := by
  unfold f_mix
  split
  · rfl
  · have q := am_fold_inv (P := fun _ x => x 0 = r 0) (g := g_mixw h row cell ((f_mixr h r row cell).1 / (f_mixr h r row cell).2)) 9 0 r rfl (fun i x a b hp => by
      unfold g_mixw
      split
      · exact hp
      · exact hp)
    exact q
theorem f_mixAllB {h r : am_F} {s : Int} (hV : HbV h) (hSt : StB h) (hB : FgB r 10000) (h0 : 0 ≤ s) : FgB (f_mixAll h r s) 10048 ∧ FrR s r (f_mixAll h r s) ∧ f_mixAll h r s 0 = r 0 := by
  have v := hV
  obtain ⟨v1, v2, v3, v4, v5, v6, v7, v8, v9, v10, v11, v12, v13, v14, v15⟩ := v
  have q := am_fold_inv (P := fun i x => FgB x (10000 + 8 * i) ∧ FrR s r x ∧ x 0 = r 0) (g := g_mixAll h s) (h 0 6).toNat 0 r ⟨hB.le (by omega), FrR.rf, rfl⟩ (fun i x a b hp => by
    obtain ⟨p1, p2, p3⟩ := hp
    unfold g_mixAll
    split
    · have m := f_mixB (h := h) (r := x) (s := s) (cell := f_at (h 0 6) (h 4) i 1) hV p1 h0 (hSt i)
      exact ⟨m.1.le (by omega), p2.tr m.2, (f_mix_0 _ _ _ _).trans p3⟩
    · exact ⟨p1.le (by omega), p2, p3⟩)
  exact ⟨q.1.le (by omega), q.2⟩
theorem f_spill_0 (r : am_F) (row : Int) : f_spill r row 0 = r 0 := by
  have q := am_fold_inv (P := fun _ x => x 0 = r 0) (g := g_spill row) 90 (row * 90) r rfl (fun i x a b hp => by
    unfold g_spill
    split
    · exact hp
    · exact hp)
  exact q
theorem f_burnAllB {h r : am_F} {s m : Int} (hV : HbV h) (hLp : LpB h) (hMl : MlB r) (hB : FgB r m) (h0 : 0 ≤ s) : FgB (f_burnAll h r (s + 1)) m ∧ FrR s r (f_burnAll h r (s + 1)) ∧ f_burnAll h r (s + 1) 0 = r 0 := by
  have q := am_fold_inv (P := fun i x => FgB x m ∧ FrR s r x ∧ x 0 = r 0) (g := g_burnAll h (s + 1)) (h 0 5).toNat 0 r ⟨hB, FrR.rf, rfl⟩ (fun i x a b hp => by
    obtain ⟨p1, p2, p3⟩ := hp
    have m := f_burnB (h := h) (r := x) (s := s) (lamp := i) (cell := f_at (h 0 5) (h 3) i 0) (burns := f_at (h 0 5) (h 3) i 1) hV p1 h0 (hLp i).2.1
    exact ⟨m.1, p2.tr m.2, (f_burn_0 _ _ _ _ _ _).trans p3⟩)
  unfold f_burnAll
  split
  · exact q
  · have m := f_burnB (h := h) (r := f_burns h r (s + 1)) (s := s) (lamp := h 0 5) (cell := r 0 4) (burns := r 0 5) hV q.1 h0 (by have := hMl.2; omega)
    exact ⟨m.1, q.2.1.tr m.2, (f_burn_0 _ _ _ _ _ _).trans q.2.2⟩
theorem f_thin_0 (h r : am_F) (s : Int) : f_thin h r s 0 = r 0 := by
  unfold f_thin
  split
  · rfl
  · have q := am_fold_inv (P := fun _ x => x 0 = r 0) (g := g_thin s (f_loses h s)) 90 ((s + 1) * 90) r rfl (fun i x a b hp => hp)
    exact q
def g_led (s lamp : Int) (r : am_F) : am_F := am_put r 7 (lamp * 41 + s + 1).toNat (r 7 (lamp * 41 + s).toNat)
def f_gob (r : am_F) (s : Int) : am_F := am_put (am_put (am_put (am_put (am_row r 1 (am_cpy (r 1) (r 1) (s * 90).toNat ((s + 1) * 90).toNat (90 : Int).toNat)) 3 (s + 1).toNat (r 3 s.toNat)) 4 (s + 1).toNat (r 4 s.toNat)) 5 (s + 1).toNat (r 5 s.toNat)) 6 (s + 1).toNat 0
def f_go0 (r : am_F) (s : Int) : am_F := am_fold (g_led s) 0 7 (f_gob r s)
def f_go1 (r : am_F) (s : Int) : am_F := am_put (f_go0 r s) 0 2 (f_seed (f_go0 r s 0 2))
def f_go2 (h r : am_F) (s : Int) : am_F := f_blows h (f_go1 r s) s (f_draws (f_go0 r s))
def f_go3 (h r : am_F) (s : Int) : am_F := f_spill (f_mixAll h (f_go2 h r s) s) (s + 1)
def f_go4 (h r : am_F) (s : Int) : am_F := f_thin h (f_burnAll h (f_go3 h r s) (s + 1)) s
def f_goOn (h r : am_F) (s : Int) : am_F := f_addUp (if 0 < f_go1 r s 2 s.toNat then f_go4 h r s else f_go1 r s) (s + 1)
theorem f_go0_k (r : am_F) (s : Int) : f_go0 r s 1 = am_cpy (r 1) (r 1) (s * 90).toNat ((s + 1) * 90).toNat 90 ∧ f_go0 r s 0 = r 0 := by
  have q := am_fold_inv (P := fun (_ : Int) (x : am_F) => x 1 = am_cpy (r 1) (r 1) (s * 90).toNat ((s + 1) * 90).toNat 90 ∧ x 0 = r 0) (g := g_led s) 7 0 (f_gob r s) ⟨rfl, rfl⟩ (fun i x a b hp => hp)
  exact q
def HbAll (h : am_F) : Prop := HbV h ∧ LotB h ∧ WdB h ∧ StB h ∧ LpB h ∧ ThB h
theorem f_go1_f {r : am_F} {s : Int} (hs : 0 ≤ s ∧ s < 40) (hF : RnF r) (hMl : MlB r) : RnF (f_go1 r s) ∧ MlB (f_go1 r s) ∧ ∀ c : Nat, c < 90 → f_go1 r s 1 ((s + 1) * 90 + c).toNat = f_go1 r s 1 (s * 90 + c).toNat := by
  have e1 : f_go1 r s 1 = am_cpy (r 1) (r 1) (s * 90).toNat ((s + 1) * 90).toNat 90 := (f_go0_k r s).1
  have e4 : f_go1 r s 0 4 = r 0 4 := (show f_go1 r s 0 4 = f_go0 r s 0 4 from rfl).trans (congrFun (f_go0_k r s).2 4)
  have e5 : f_go1 r s 0 5 = r 0 5 := (show f_go1 r s 0 5 = f_go0 r s 0 5 from rfl).trans (congrFun (f_go0_k r s).2 5)
  refine ⟨fun j => ?_, ?_, fun c hc => ?_⟩
  · rw [e1]
    unfold am_cpy
    split <;> exact hF _
  · unfold MlB
    rw [e4, e5]
    exact hMl
  · rw [e1]
    unfold am_cpy
    rw [if_pos (by omega), if_neg (by omega)]
    congr 1
    omega
theorem f_go_k {h r : am_F} {s : Int} (hA : HbAll h) (hs : 0 ≤ s ∧ s < 40) (hF : RnF r) (hMl : MlB r) : BlI s 0 (f_go1 r s) ∧ FgB (f_go2 h r s) 10000 ∧ FgB (f_mixAll h (f_go2 h r s) s) 10048 ∧ (FgB (f_go3 h r s) 99 ∧ MlB (f_go3 h r s)) ∧ FgB (f_burnAll h (f_go3 h r s) (s + 1)) 99 ∧ FgB (f_go4 h r s) 99 ∧ f_go4 h r s 0 = f_go1 r s 0 := by
  obtain ⟨hV, hLt, hWd, hSt, hLp, hTh⟩ := hA
  obtain ⟨g1, g2, g3⟩ := f_go1_f hs hF hMl
  obtain ⟨b1, b2⟩ := f_blowsN (h := h) (turned := f_draws (f_go0 r s)) hV hWd hs g1 g3
  obtain ⟨m1, m2, m3⟩ := f_mixAllB (h := h) (r := f_go2 h r s) (s := s) hV hSt b2 hs.1
  obtain ⟨s1, s2⟩ := f_spillB (r0 := f_go1 r s) (r := f_mixAll h (f_go2 h r s) s) (s := s) (m1.le (by omega)) hs.1 (b1.tr m2) g1
  have z3 : f_go3 h r s 0 = f_go1 r s 0 := (f_spill_0 _ _).trans (m3.trans (f_blows_0 _ _ _ _))
  have ml : MlB (f_go3 h r s) := by
    unfold MlB
    rw [z3]
    exact g2
  obtain ⟨u1, u2, u3⟩ := f_burnAllB (h := h) (r := f_go3 h r s) (s := s) hV hLp ml s1 hs.1
  obtain ⟨t1, t2⟩ := f_thinB (h := h) (r := f_burnAll h (f_go3 h r s) (s + 1)) (s := s) u1 hs.1
  exact ⟨⟨fun j => by have := g1 j; omega, fun j _ => g1 j⟩, b2, m1, ⟨s1, ml⟩, u1, t1, (f_thin_0 _ _ _).trans (u3.trans z3)⟩
theorem f_goOn_k {h r : am_F} {s : Int} (hA : HbAll h) (hs : 0 ≤ s ∧ s < 40) (hF : RnF r) (hMl : MlB r) : RnF (f_goOn h r s) ∧ MlB (f_goOn h r s) := by
  obtain ⟨g1, g2, g3⟩ := f_go1_f hs hF hMl
  obtain ⟨_, _, _, _, _, t1, t2⟩ := f_go_k hA hs hF hMl
  unfold f_goOn
  split
  · refine ⟨t1, ?_⟩
    show MlB (f_go4 h r s)
    unfold MlB
    rw [t2]
    exact g2
  · exact ⟨g1, g2⟩
