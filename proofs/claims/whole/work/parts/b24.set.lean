/-! THE TIE: set, right, images -/
theorem HbI_11 {h : am_F} {f : Nat → Int} (h0 : HbI h) (hf : ∀ j, 0 ≤ f j ∧ f j ≤ 99) : HbI (am_row h 11 f) :=
  ⟨h0.1, h0.2.1, h0.2.2.1, h0.2.2.2.1, fun j => by rw [ti_row_s]; exact hf j, h0.2.2.2.2.2⟩
theorem HC_11 {h c : am_F} {f : Nat → Int} (hC : HC h c) (hf : ∀ j, 0 ≤ f j ∧ f j ≤ 99) : HC (am_row h 11 f) c := by
  obtain ⟨hHI, hV, hT, hN, hW, hWt, hSh, hL⟩ := hC
  exact ⟨HbI_11 hHI hf, hV, hT, hN, hW, hWt, hSh, hL⟩
theorem ti_put_rowf (h : am_F) (k i : Nat) (v : Int) : am_put h k i v = am_row h k (am_up (h k) i v) := by
  funext k' j
  by_cases e : k' = k
  · rw [e, ti_put_row, ti_row_s]
  · rw [am_put_k e, ti_row_k e]
theorem Base_begin {h c r : am_F} (hC : HC h c) (hTb : TLb h c) (hFs : TFs h c) (hd : c 0 58 = -1 ∧ c 0 61 = -1) (hF : RnF r) (hZ : RnZ r) : BaseI h c (f_begin h r) := by
  obtain ⟨hHI, hV, hT, hN, hW, hWt, hSh, hL⟩ := hC
  obtain ⟨g1, g3, g4⟩ := f_begin_01 h r
  refine ⟨hd, RnZ_begin hZ, 0, RunAt_begin (r := r) (fun _ _ => rfl) g1 ⟨by rw [g4]; omega, Or.inl g4⟩ ?_ hHI.1.1 (fun q _ => Or.inl ⟨hd.2, by rw [g3]; decide⟩) hF hHI.2.2.2.2.1 hFs hZ⟩
  unfold TLp
  rw [g4]
  exact ⟨hTb, Or.inl ⟨rfl, by rw [hN.2.1, hN.2.2]⟩⟩
theorem BaseI_I {h c r : am_F} (hB : BaseI h c r) : RnI r ∧ RnZ r := by
  obtain ⟨-, hZ, k, hR⟩ := hB
  exact ⟨RunAt_I hR, hZ⟩
def Eq6 (c c' : am_F) : Prop := (∀ k, k ≠ 6 → c' k = c k)
theorem Eq6_told {c c' : am_F} (h : Eq6 c c') : Told c c' := fun k hk => h k (by omega)
theorem MdV_eq {c c' : am_F} (h4 : c' 4 = c 4) (h1 : c' 0 45 = c 0 45) (h2 : c' 0 30 = c 0 30) (h3 : c' 0 31 = c 0 31) (hV : MdV c) : MdV c' := by
  unfold MdV
  rw [h4, h1, h2, h3]
  exact hV
theorem to_set {e h c r q dd : am_F} {x y yd : Int} (hC : HC h c) (hTb : TLb h c) (hFs : TFs h c) (hB : BaseI h c r) (hR : RE e q) : TO 1 (c_set e h r dd x y yd).1 (c_set e h r dd x y yd).2.1 e (c_set e h r dd x y yd).2.2.1 (k_set c q x y yd).1 (k_set c q x y yd).2.2 ∧ HC (c_set e h r dd x y yd).2.2.2.1 (k_set c q x y yd).2.1 ∧ TLb (c_set e h r dd x y yd).2.2.2.1 (k_set c q x y yd).2.1 ∧ TFs (c_set e h r dd x y yd).2.2.2.1 (k_set c q x y yd).2.1 ∧ BaseI (c_set e h r dd x y yd).2.2.2.1 (k_set c q x y yd).2.1 (c_set e h r dd x y yd).2.2.2.2.1 ∧ Eq6 c (k_set c q x y yd).2.1 ∧ (((c_set e h r dd x y yd).2.2.2.2.2 = dd ∧ (k_set c q x y yd).2.1 = c ∧ (c_set e h r dd x y yd).2.2.2.1 = h ∧ (c_set e h r dd x y yd).2.2.2.2.1 = r) ∨ (c_set e h r dd x y yd).2.2.2.2.2 = am_put dd 0 0 0) := by
  obtain ⟨hHI, hV, hT, hN, hW, hWt, hSh, hL⟩ := id hC
  have v1 := hV.1
  have v2 := hV.2.1
  have hz : Eq6 c c := fun _ _ => rfl
  unfold c_set k_set
  rcases ti_cel hT.1 x y with ⟨a0, b0, c0, d0⟩ | ⟨a0, b0⟩
  · rcases ti_rng yd 0 99 with ⟨a1, b1, c1⟩ | ⟨a1, b1, d1⟩
    · simp only [a0, b0, a1, b1, reduceIte, Int.reduceEq, k_refuse0]
      have hEq : Eq6 c (am_put c 6 (x + 9 * y).toNat yd) := fun k hk => am_put_kr hk
      have hV' : MdV (am_put c 6 (x + 9 * y).toNat yd) := MdV_eq (hEq 4 (by decide)) (by rw [hEq 0 (by decide)]) (by rw [hEq 0 (by decide)]) (by rw [hEq 0 (by decide)]) hV
      have hC1 : HC h (am_put c 6 (x + 9 * y).toNat yd) := HC_told (Eq6_told hEq) hV' (by rw [hEq 0 (by decide)]) hC
      have hC2 : HC (am_put h 11 (x + 10 * y).toNat yd) (am_put c 6 (x + 9 * y).toNat yd) := by
        rw [ti_put_rowf h]
        exact HC_11 hC1 (am_upB hHI.2.2.2.2.1 c1)
      have hTb2 : TLb (am_put h 11 (x + 10 * y).toNat yd) (am_put c 6 (x + 9 * y).toNat yd) := fun i a1 a2 => by
        rw [hEq (67 + i.toNat) (by omega)]
        exact hTb i a1 a2
      have hFs2 : TFs (am_put h 11 (x + 10 * y).toNat yd) (am_put c 6 (x + 9 * y).toNat yd) := by
        refine ⟨fun x' y' g1 g2 g3 g4 => ?_, fun y' g3 g4 => ?_⟩
        · by_cases e : x' = x ∧ y' = y
          · rw [e.1, e.2, am_put_s, am_put_s]
          · rw [am_put_i (by omega), am_put_i (by omega)]
            exact hFs.1 x' y' g1 g2 g3 g4
        · rw [am_put_i (by omega)]
          exact hFs.2 y' g3 g4
      have hI := BaseI_I hB
      refine ⟨TO_ok am_put_s (hFs.1 x y c0.1 (by omega) d0.1 (by omega)) (RE_put hR), hC2, hTb2, hFs2, Base_begin hC2 hTb2 hFs2 (by rw [hEq 0 (by decide)]; exact hB.1) hI.1.2.1 hI.2, hEq, Or.inr trivial⟩
    · simp only [a0, b0, a1, b1, reduceIte, Int.reduceEq, k_refuse0]
      exact ⟨TO_ref (by decide) (by decide) (by decide) hR, hC, hTb, hFs, hB, hz, Or.inl ⟨trivial, trivial, trivial, trivial⟩⟩
  · simp only [a0, b0, reduceIte, Int.reduceEq, k_refuse0]
    exact ⟨TO_ref (by decide) (by decide) (by decide) hR, hC, hTb, hFs, hB, hz, Or.inl ⟨trivial, trivial, trivial, trivial⟩⟩
/-! whether all gauges are right -/
theorem ti_lastStep {ga : am_F} (hg : GaI ga) : (-1 ≤ c_lastStep ga ∧ c_lastStep ga < 40) ∧ ∀ i : Int, 0 ≤ i → i < ga 0 2 → f_at (ga 0 2) (ga 1) i 0 ≤ c_lastStep ga := by
  unfold c_lastStep
  have h9 := am_fold_inv (P := fun i (l : Int) => (-1 ≤ l ∧ l < 40) ∧ ∀ j : Int, 0 ≤ j → j < i → f_at (ga 0 2) (ga 1) j 0 ≤ l) (g := g_c_lastStep_4 ga) (ga 0 2).toNat 0 (-1) ⟨by decide, fun j h1 h2 => by omega⟩ (fun i l a1 a2 hP => by
    have h1 := (hg.2.2 i).1
    unfold g_c_lastStep_4
    simp only []
    split
    · refine ⟨by omega, fun j b1 b2 => ?_⟩
      by_cases e : j = i
      · rw [e]; exact Int.le_refl _
      · have := hP.2 j b1 (by omega); omega
    · refine ⟨hP.1, fun j b1 b2 => ?_⟩
      by_cases e : j = i
      · rw [e]; omega
      · exact hP.2 j b1 (by omega))
  exact ⟨h9.1, fun i a1 a2 => h9.2 i a1 (by omega)⟩
theorem to_right {h c r q ga : am_F} (hC : HC h c) (hB : BaseI h c r) (hg : GC ga c) : (c_right h r ga).1 = (k_right c q).1 ∧ BaseI h c (c_right h r ga).2 ∧ (k_right c q).2 = k_goes c (am_put q 0 0 0) := by
  obtain ⟨hHI, hV, hT, hN, hW, hWt, hSh, hL⟩ := id hC
  have v1 := hV.1
  have v2 := hV.2.1
  obtain ⟨l1, l2⟩ := ti_lastStep hg.1
  have g1 := hg.2.1
  have e : am_find (p_c_areRight_10 (f_upTo h r (c_lastStep ga)) ga) 0 (c 0 31).toNat = am_find (p_k_areRight_6 c (k_goes c (am_put q 0 0 0))) 0 (c 0 31).toNat := ti_find_eq _ 0 fun i a1 a2 => by
    obtain ⟨t1, t2, t3, x, y, t4, t5, t6, t7⟩ := hg.2.2 i a1 (by omega)
    have hs := l2 i a1 (by omega)
    have hQ := (Base_fog hHI.1 hT hB (st := c_lastStep ga) (s := c (146 + i.toNat) 1) l1 (by omega) (am_put q 0 0 0) x y t4.1 (by omega) t5.1 (by omega)).1
    unfold p_c_areRight_10 p_k_areRight_6 c_isRight54
    simp only []
    simp only [t1, t3, t6, t7, hQ]
    by_cases g : k_goes c (am_put q 0 0 0) (159 + (c (146 + i.toNat) 1 + 1).toNat) (x + 9 * y).toNat = c (146 + i.toNat) 2
    · rw [if_pos g, if_pos g, if_neg (by decide)]
    · rw [if_neg g, if_neg g, if_pos rfl]
  unfold c_right c_areRight k_right k_areRight
  simp only []
  rw [g1, e, ti_elim2, ti_elim2]
  exact ⟨rfl, (Base_upTo hHI.1 hT hB (st := c_lastStep ga) l1).1, rfl⟩
/-! images -/
def ti_loc (t : Nat) : Nat × Nat := if t = 0 then (0, 30) else if t = 1 then (0, 31) else if t < 83 then (6, t - 2) else if t < 119 then (133 + (t - 83) / 3, (t - 83) % 3) else (146 + (t - 119) / 3, (t - 119) % 3)
theorem ti_loc_inj9 : ∀ s t : Fin 143, ti_loc s.val = ti_loc t.val → s = t := by decide +kernel
theorem ti_loc_inj {s t : Nat} (hs : s < 143) (ht : t < 143) (h : ti_loc s = ti_loc t) : s = t := congrArg Fin.val (ti_loc_inj9 ⟨s, hs⟩ ⟨t, ht⟩ h)
theorem ti_loc_ne : ∀ t : Fin 143, ti_loc t.val ≠ (0, 33) ∧ ¬ (155 ≤ (ti_loc t.val).1) := by decide +kernel
/-- the model saves into row 155 + k: behind j numbers -/
def SvI (c : am_F) (k j : Nat) (s : am_F) : Prop := s 0 33 = j ∧ (∀ m i, m ≠ 155 + k → ¬ (m = 0 ∧ i = 33) → s m i = c m i) ∧ (∀ t, t < j → s (155 + k) t = c (ti_loc t).1 (ti_loc t).2) ∧ ∀ t, j ≤ t → s (155 + k) t = c (155 + k) t
theorem SvI_s {c s : am_F} {k j : Nat} (hj : j < 143) (h : SvI c k j s) : SvI c k (j + 1) (am_put (k_moves s (s (ti_loc j).1 (ti_loc j).2) 0 k).2 (ti_loc j).1 (ti_loc j).2 (k_moves s (s (ti_loc j).1 (ti_loc j).2) 0 k).1) := by
  obtain ⟨h1, h2, h3, h4⟩ := h
  have hl := ti_loc_ne ⟨j, hj⟩
  have hl1 : ¬ 155 ≤ (ti_loc j).1 := hl.2
  have hl2 : ¬ ((ti_loc j).1 = 0 ∧ (ti_loc j).2 = 33) := fun g => hl.1 (Prod.ext g.1 g.2)
  have ev : s (ti_loc j).1 (ti_loc j).2 = c (ti_loc j).1 (ti_loc j).2 := h2 _ _ (by omega) hl2
  have em : k_moves s (s (ti_loc j).1 (ti_loc j).2) 0 k = (s (ti_loc j).1 (ti_loc j).2, am_put (am_put s (155 + k) j (s (ti_loc j).1 (ti_loc j).2)) 0 33 ((j : Int) + 1)) := by
    unfold k_moves
    simp only [if_true]
    rw [Int.toNat_natCast, h1, Int.toNat_natCast, am_put_k (k' := 0) (by omega), h1, show ((j : Int) + 1 - 1).toNat = j by omega, am_put_s]
  rw [em]
  dsimp only
  have e9 : am_put (am_put (am_put s (155 + k) j (s (ti_loc j).1 (ti_loc j).2)) 0 33 ((j : Int) + 1)) (ti_loc j).1 (ti_loc j).2 (s (ti_loc j).1 (ti_loc j).2) = am_put (am_put s (155 + k) j (s (ti_loc j).1 (ti_loc j).2)) 0 33 ((j : Int) + 1) := by
    have e8 : am_put (am_put s (155 + k) j (s (ti_loc j).1 (ti_loc j).2)) 0 33 ((j : Int) + 1) (ti_loc j).1 (ti_loc j).2 = s (ti_loc j).1 (ti_loc j).2 := by
      by_cases g : (ti_loc j).1 = 0
      · rw [g, am_put_i (fun e => hl2 ⟨g, e⟩), am_put_k (by omega)]
      · rw [am_put_k g, am_put_k (by omega)]
    have := am_put_same (am_put (am_put s (155 + k) j (s (ti_loc j).1 (ti_loc j).2)) 0 33 ((j : Int) + 1)) (ti_loc j).1 (ti_loc j).2
    rw [e8] at this
    exact this
  rw [e9]
  refine ⟨?_, fun m i hm hi => ?_, fun t ht => ?_, fun t ht => ?_⟩
  · rw [am_put_s]; omega
  · by_cases g : m = 0
    · rw [g, am_put_i (fun e => hi ⟨g, e⟩), am_put_k (by omega), ← g]; exact h2 m i hm hi
    · rw [am_put_k g, am_put_k hm]; exact h2 m i hm hi
  · rw [am_put_k (by omega)]
    by_cases g : t = j
    · rw [g, am_put_s, ev]
    · rw [am_put_i g]; exact h3 t (by omega)
  · rw [am_put_k (by omega), am_put_i (by omega)]; exact h4 t (by omega)
/-- all 143 numbers, one behind the other -/
def ti_mv (bk : Int) (k : Nat) (j : Int) (s : am_F) : am_F := am_put (k_moves s (s (ti_loc j.toNat).1 (ti_loc j.toNat).2) bk k).2 (ti_loc j.toNat).1 (ti_loc j.toNat).2 (k_moves s (s (ti_loc j.toNat).1 (ti_loc j.toNat).2) bk k).1
theorem ti_movesAll (c : am_F) (bk : Int) (k : Nat) : k_movesAll c bk k = am_fold (ti_mv bk k) 0 143 (am_put c 0 33 0) := by
  have e0 : am_put (k_moves (am_put c 0 33 0) (c 0 30) bk k).2 0 30 (k_moves (am_put c 0 33 0) (c 0 30) bk k).1 = ti_mv bk k 0 (am_put c 0 33 0) := rfl
  rw [show (143 : Nat) = 1 + (1 + (81 + (12 * 3 + 8 * 3))) from rfl, ti_add, ti_add, ti_add, ti_add]
  have e1 : am_fold (ti_mv bk k) 0 1 (am_put c 0 33 0) = ti_mv bk k 0 (am_put c 0 33 0) := rfl
  have e2 : ∀ s, am_fold (ti_mv bk k) (0 + ((1 : Nat) : Int)) 1 s = am_put (k_moves s (s 0 31) bk k).2 0 31 (k_moves s (s 0 31) bk k).1 := fun _ => rfl
  rw [e1, e2]
  unfold k_movesAll
  simp only []
  rw [e0]
  have e30 : am_put (k_moves (am_put c 0 33 0) (c 0 30) bk k).2 0 30 (k_moves (am_put c 0 33 0) (c 0 30) bk k).1 0 31 = (k_moves (am_put c 0 33 0) (c 0 30) bk k).2 0 31 := am_put_i (by decide)
  rw [← e30, e0]
  generalize am_put (k_moves (ti_mv bk k 0 (am_put c 0 33 0)) (ti_mv bk k 0 (am_put c 0 33 0) 0 31) bk k).2 0 31 (k_moves (ti_mv bk k 0 (am_put c 0 33 0)) (ti_mv bk k 0 (am_put c 0 33 0) 0 31) bk k).1 = s
  have f1 : ∀ s, am_fold (ti_mv bk k) (0 + ((1 : Nat) : Int) + ((1 : Nat) : Int)) 81 s = am_fold (g_k_movesAll_35 bk k) 0 81 s := fun s => by
    rw [ti_from]
    refine am_fold_eq 81 0 s fun j y a1 a2 => ?_
    have el : ti_loc (0 + ((1 : Nat) : Int) + ((1 : Nat) : Int) + j).toNat = (6, j.toNat) := by
      unfold ti_loc
      rw [if_neg (by omega), if_neg (by omega), if_pos (by omega)]
      congr 1
      omega
    unfold ti_mv g_k_movesAll_35
    rw [el]
  have f2 : ∀ s, am_fold (ti_mv bk k) (0 + ((1 : Nat) : Int) + ((1 : Nat) : Int) + ((81 : Nat) : Int)) (12 * 3) s = am_fold (g_k_movesAll_67 bk k) 0 12 s := fun s => by
    rw [ti_from, ti_nest0]
    refine am_fold_eq 12 0 s fun i y a1 a2 => ?_
    unfold g_k_movesAll_67
    refine am_fold_eq 3 0 y fun j z b1 b2 => ?_
    have el : ti_loc (0 + ((1 : Nat) : Int) + ((1 : Nat) : Int) + ((81 : Nat) : Int) + (j + ((3 : Nat) : Int) * i)).toNat = (133 + i.toNat, j.toNat) := by
      unfold ti_loc
      rw [if_neg (by omega), if_neg (by omega), if_neg (by omega), if_pos (by omega)]
      refine Prod.ext ?_ ?_
      · dsimp only; omega
      · dsimp only; omega
    show ti_mv bk k _ z = g_k_movesAll_76 bk k i j z
    unfold ti_mv g_k_movesAll_76
    rw [el]
  have f3 : ∀ s, am_fold (ti_mv bk k) (0 + ((1 : Nat) : Int) + ((1 : Nat) : Int) + ((81 : Nat) : Int) + ((12 * 3 : Nat) : Int)) (8 * 3) s = am_fold (g_k_movesAll_120 bk k) 0 8 s := fun s => by
    rw [ti_from, ti_nest0]
    refine am_fold_eq 8 0 s fun i y a1 a2 => ?_
    unfold g_k_movesAll_120
    refine am_fold_eq 3 0 y fun j z b1 b2 => ?_
    have el : ti_loc (0 + ((1 : Nat) : Int) + ((1 : Nat) : Int) + ((81 : Nat) : Int) + ((12 * 3 : Nat) : Int) + (j + ((3 : Nat) : Int) * i)).toNat = (146 + i.toNat, j.toNat) := by
      unfold ti_loc
      rw [if_neg (by omega), if_neg (by omega), if_neg (by omega), if_neg (by omega)]
      refine Prod.ext ?_ ?_
      · dsimp only; omega
      · dsimp only; omega
    show ti_mv bk k _ z = g_k_movesAll_129 bk k i j z
    unfold ti_mv g_k_movesAll_129
    rw [el]
  rw [f1, f2, f3]
theorem ti_saved (c : am_F) (k : Nat) : SvI c k 143 (k_movesAll c 0 k) := by
  rw [ti_movesAll]
  have h9 := am_fold_inv (P := fun i s => SvI c k i.toNat s) (g := ti_mv 0 k) 143 0 (am_put c 0 33 0) ⟨am_put_s, fun m i hm hi => by
    by_cases g : m = 0
    · rw [g, am_put_i (fun e => hi ⟨g, e⟩)]
    · rw [am_put_k g], fun t ht => by omega, fun t ht => by rw [am_put_k (by omega)]⟩ (fun i s a1 a2 hs => by
    have := SvI_s (by omega) hs
    rw [show (i + 1).toNat = i.toNat + 1 by omega]
    exact this)
  exact h9
/-- and back: behind j numbers -/
def RsI (c : am_F) (k j : Nat) (s : am_F) : Prop := s 0 33 = j ∧ (∀ t, t < j → s (ti_loc t).1 (ti_loc t).2 = c (155 + k) t) ∧ ∀ m i, (∀ t, t < j → ti_loc t ≠ (m, i)) → ¬ (m = 0 ∧ i = 33) → s m i = c m i
theorem RsI_s {c s : am_F} {k j : Nat} (hj : j < 143) (h : RsI c k j s) : RsI c k (j + 1) (am_put (k_moves s (s (ti_loc j).1 (ti_loc j).2) 1 k).2 (ti_loc j).1 (ti_loc j).2 (k_moves s (s (ti_loc j).1 (ti_loc j).2) 1 k).1) := by
  obtain ⟨h1, h2, h3⟩ := h
  have hl := ti_loc_ne ⟨j, hj⟩
  have hl2 : ¬ ((ti_loc j).1 = 0 ∧ (ti_loc j).2 = 33) := fun g => hl.1 (Prod.ext g.1 g.2)
  have ek : s (155 + k) j = c (155 + k) j := h3 _ _ (fun t ht e => (ti_loc_ne ⟨t, by omega⟩).2 (by show 155 ≤ (ti_loc t).1; rw [e]; show 155 ≤ 155 + k; omega)) (by omega)
  have em : k_moves s (s (ti_loc j).1 (ti_loc j).2) 1 k = (c (155 + k) j, am_put s 0 33 ((j : Int) + 1)) := by
    unfold k_moves
    simp only [show ¬ (1 : Int) = 0 by decide, if_false]
    rw [Int.toNat_natCast, h1, show ((j : Int) + 1 - 1).toNat = j by omega, ek]
  rw [em]
  dsimp only
  refine ⟨?_, fun t ht => ?_, fun m i hn hi => ?_⟩
  · by_cases g : (ti_loc j).1 = 0
    · rw [g, am_put_i (fun e => hl2 ⟨g, e.symm⟩), am_put_s]; omega
    · rw [am_put_k (fun e => g e.symm), am_put_s]; omega
  · by_cases g : t = j
    · rw [g, am_put_s]
    · have hne : ti_loc t ≠ ti_loc j := fun e => g (ti_loc_inj (by omega) hj e)
      have hlt := (ti_loc_ne ⟨t, by omega⟩).1
      have hlt2 : ¬ ((ti_loc t).1 = 0 ∧ (ti_loc t).2 = 33) := fun g => hlt (Prod.ext g.1 g.2)
      have e1 : am_put (am_put s 0 33 ((j : Int) + 1)) (ti_loc j).1 (ti_loc j).2 (c (155 + k) j) (ti_loc t).1 (ti_loc t).2 = am_put s 0 33 ((j : Int) + 1) (ti_loc t).1 (ti_loc t).2 := by
        by_cases g2 : (ti_loc t).1 = (ti_loc j).1
        · rw [g2, am_put_i (fun e => hne (Prod.ext g2 e))]
        · rw [am_put_k g2]
      rw [e1]
      have e2 : am_put s 0 33 ((j : Int) + 1) (ti_loc t).1 (ti_loc t).2 = s (ti_loc t).1 (ti_loc t).2 := by
        by_cases g2 : (ti_loc t).1 = 0
        · rw [g2, am_put_i (fun e => hlt2 ⟨g2, e⟩)]
        · rw [am_put_k g2]
      rw [e2]
      exact h2 t (by omega)
  · have hj9 := hn j (by omega)
    have e1 : am_put (am_put s 0 33 ((j : Int) + 1)) (ti_loc j).1 (ti_loc j).2 (c (155 + k) j) m i = am_put s 0 33 ((j : Int) + 1) m i := by
      by_cases g2 : m = (ti_loc j).1
      · rw [g2, am_put_i (fun e => hj9 (Prod.ext g2.symm e.symm))]
      · rw [am_put_k g2]
    rw [e1]
    have e2 : am_put s 0 33 ((j : Int) + 1) m i = s m i := by
      by_cases g2 : m = 0
      · rw [g2, am_put_i (fun e => hi ⟨g2, e⟩)]
      · rw [am_put_k g2]
    rw [e2]
    exact h3 m i (fun t ht => hn t (by omega)) hi
theorem ti_restored (c : am_F) (k : Nat) : RsI c k 143 (k_movesAll c 1 k) := by
  rw [ti_movesAll]
  have h9 := am_fold_inv (P := fun i s => RsI c k i.toNat s) (g := ti_mv 1 k) 143 0 (am_put c 0 33 0) ⟨am_put_s, fun t ht => by omega, fun m i hn hi => by
    by_cases g : m = 0
    · rw [g, am_put_i (fun e => hi ⟨g, e⟩)]
    · rw [am_put_k g]⟩ (fun i s a1 a2 hs => by
    have := RsI_s (by omega) hs
    rw [show (i + 1).toNat = i.toNat + 1 by omega]
    exact this)
  exact h9
