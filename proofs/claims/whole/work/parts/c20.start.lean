/-! THE LAW: where it begins -/
theorem am_ovapp {w t : AH} {b n : Nat} {C : Nat → AC} (h : b + n ≤ w.length) : am_ov (w ++ t) b n C = am_ov w b n C ++ t := by
  refine am_ovext fun j => ?_
  unfold am_ov
  rw [List.getElem?_mapIdx]
  by_cases hj : j < w.length
  · rw [List.getElem?_append_left hj, List.getElem?_append_left (by rw [List.length_mapIdx]; exact hj), List.getElem?_mapIdx]
  · rw [List.getElem?_append_right (by omega), List.getElem?_append_right (by rw [List.length_mapIdx]; omega), List.length_mapIdx]
    cases t[j - w.length]? with
    | none => rfl
    | some x9 =>
      simp only [Option.map_some]
      rw [if_neg (show ¬ (b ≤ j ∧ j < b + n) by omega)]
theorem W11_len {g r : am_F} : (W11g g r).length = 109 := rfl
abbrev g0F : am_F := c_reset z0F
abbrev r0F : am_F := f_begin (c_reset z0F) z0F
abbrev c1F : am_F := k_stands (k_tellsNothing c0F)
abbrev wS0 : AH := W11g g0F r0F ++ ((cO 11 (mf 109) :: ml 109 734) ++ [cP 2 1 (fun _ => 0)])
theorem wS_len : wS0.length = 845 := by
  unfold wS0
  rw [List.length_append, W11_len, List.length_append, List.length_cons, ml_len]
  rfl
theorem wS_get : wS0[844]? = some (cP 2 1 (fun _ => 0)) := by
  unfold wS0
  rw [List.getElem?_append_right (by rw [W11_len]; decide), W11_len, List.getElem?_append_right (by rw [List.length_cons, ml_len]; decide), List.length_cons, ml_len]
  rfl
/-- the heap that the constructors leave -/
theorem st_heap : mdW (W11g g0F r0F ++ (cO 11 (mf 109) :: ml 109 734)) 109 c1F z0F ++ [cP 2 1 (fun _ => 0)] = LW wS0 1 21 41 46 aN aN e0F g0F g0F z0F z0F z0F z0F r0F (am_put r0F 0 0 1) z0F z0F z0F bd0 ga0 z0F c1F z0F := by
  rw [LW_md]
  have e1 : hfW wS0 1 21 41 46 1 aN aN e0F g0F g0F z0F z0F z0F z0F r0F (am_put r0F 0 0 1) z0F z0F z0F bd0 ga0 z0F = wS0 := by
    have h1 := W11_hf g0F r0F
    unfold hfW at h1 ⊢
    rw [am_ovapp (by rw [W11_len]; decide), h1]
  rw [e1]
  unfold wS0 mdW
  rw [← List.append_assoc]
  exact (am_ovapp (by rw [List.length_append, W11_len, List.length_cons, ml_len]; decide)).symm
theorem st_RnI {h r : am_F} (hI : RnI r) : RnI (am_put r 0 0 1) := by
  obtain ⟨h1, h2, h3, h4⟩ := hI
  refine ⟨?_, fun j => ?_, ?_, ?_⟩
  · rw [am_put_i (by decide)]; exact h1
  · rw [am_put_kr (by decide)]; exact h2 j
  · rw [am_put_i (by decide)]; exact h3
  · rw [am_put_i (by decide), am_put_i (by decide)]; exact h4
theorem st_RnZ {r : am_F} (hZ : RnZ r) : RnZ (am_put r 0 0 1) := by
  unfold RnZ
  rw [am_put_kr (by decide), am_put_kr (by decide), am_put_kr (by decide), am_put_kr (by decide)]
  exact hZ
theorem st_Rv : RvI z0F := ⟨⟨fun j => ⟨Int.le_refl 0, (by decide : (0 : Int) ≤ 200)⟩, Int.le_refl 0⟩, Int.le_refl 0, (by decide : (0 : Int) ≤ 200)⟩
theorem st_REL : REL 1 21 41 46 e0F g0F g0F z0F z0F r0F (am_put r0F 0 0 1) z0F z0F bd0 ga0 z0F c1F z0F := by
  unfold g0F r0F c1F
  have hS : SpI (c_reset z0F) := z0_Sp
  rw [c_reset_e] at hS ⊢
  obtain ⟨⟨u1, u2, u3, u4⟩, u5, u6⟩ := rr_tells c0F
  obtain ⟨⟨s0, s1, s2⟩, s3, s4⟩ := rr_reset z0F
  have e0 : ∀ j, k_tellsNothing c0F 0 j = c0F 0 j := fun j => by rw [u6 0 (by decide) (by decide)]
  have u38 := u4 8 (by decide) (by decide) (by decide) (by decide)
  have u39 := u4 9 (by decide) (by decide) (by decide) (by decide)
  have u32 := u4 2 (by decide) (by decide) (by decide) (by decide)
  have u310 := u4 10 (by decide) (by decide) (by decide) (by decide)
  have u33 := u4 3 (by decide) (by decide) (by decide) (by decide)
  have u34 := u4 4 (by decide) (by decide) (by decide) (by decide)
  have u35 := u4 5 (by decide) (by decide) (by decide) (by decide)
  have u36 := u4 6 (by decide) (by decide) (by decide) (by decide)
  have hPD : PD (c_resetS z0F) (k_tellsNothing c0F) := by
    unfold PD
    rw [s0, s1, s2, u1, u2, u3]
    decide
  have hEm : Em (c_resetS z0F) (k_tellsNothing c0F) := ⟨s3, ⟨(e0 56).trans rfl, (e0 57).trans rfl⟩, ⟨u32, u33, u34, u35, u36, u38, u39, u310⟩, s4, u5⟩
  have hR := HR_Em hEm hPD
  obtain ⟨w1, w2, w3, w4, w5⟩ := rr_HC hR hS
  obtain ⟨-, -, ⟨z45, z30, z31, z32, z46, z48⟩, z0, zk⟩ := rr_stands (c := k_tellsNothing c0F) ⟨by omega, by omega, by omega, by omega, by omega, by omega, by omega, by omega⟩
  have k58 : k_stands (k_tellsNothing c0F) 0 58 = -1 := (z0 58 (by decide) (by decide) (by decide) (by decide) (by decide) (by decide)).trans ((e0 58).trans rfl)
  have k61 : k_stands (k_tellsNothing c0F) 0 61 = -1 := (z0 61 (by decide) (by decide) (by decide) (by decide) (by decide) (by decide)).trans ((e0 61).trans rfl)
  have k1 : k_stands (k_tellsNothing c0F) 0 1 = 0 := (z0 1 (by decide) (by decide) (by decide) (by decide) (by decide) (by decide)).trans ((e0 1).trans rfl)
  have k3 : k_stands (k_tellsNothing c0F) 0 3 = -1 := (z0 3 (by decide) (by decide) (by decide) (by decide) (by decide) (by decide)).trans ((e0 3).trans rfl)
  have hT0 : TrI z0F := TrI_z
  have hB := Base_begin w1 w2 w3 ⟨k58, k61⟩ hT0.1.2.1 hT0.2
  obtain ⟨hI, hZ⟩ := BaseI_I hB
  generalize k_stands (k_tellsNothing c0F) = C at *
  generalize c_resetS z0F = H at *
  generalize f_begin H z0F = r9 at *
  refine ⟨Or.inl ⟨rfl, rfl⟩, Or.inl ⟨rfl, rfl⟩, ⟨⟨w1, w2, w3, w4, hB⟩, w5, ⟨st_RnI (h := H) hI, st_RnZ hZ⟩, hS.2⟩, ⟨fun j _ => rfl, ⟨⟨by decide, by decide⟩, k1.symm, fun j hj => absurd hj (show ¬ ((j : Int) < 0) by omega)⟩, fun j => ⟨Int.le_refl 0, (by decide : (0 : Int) ≤ 255)⟩, k3.symm, ⟨by decide, by decide⟩, z32.symm⟩, ⟨⟨⟨rfl, ⟨by decide, by decide⟩, fun k => ?_⟩, ⟨z30.symm, fun i a1 a2 => ?_⟩, fun i a1 a2 => ?_⟩, ⟨⟨rfl, ⟨by decide, by decide⟩, fun k => ?_⟩, ⟨z31.symm, fun i a1 a2 => ?_⟩⟩, Or.inl rfl, ⟨fun j => ⟨Int.le_refl 0, (by decide : (0 : Int) ≤ 99)⟩, fun j => ⟨Int.le_refl 0, (by decide : (0 : Int) ≤ 99)⟩, fun j => ⟨Int.le_refl 0, (by decide : (0 : Int) ≤ 99)⟩⟩, fun i hi => ?_, fun i hi => ?_⟩, ⟨⟨⟨z46.symm, by omega, by omega⟩, fun p a1 a2 => ?_⟩, fun p a1 a2 => ?_, st_Rv, st_Rv, hS, fun j => ⟨Int.le_refl 0, (by decide : (0 : Int) ≤ 1000099)⟩, fun j => ⟨Int.le_refl 0, (by decide : (0 : Int) ≤ 1000099)⟩⟩⟩
  · rw [show bd0 0 2 = 0 from rfl, f_at_0]; decide
  · rw [z30] at a2; omega
  · rw [z30] at a2; omega
  · rw [show ga0 0 2 = 0 from rfl, f_at_0, f_at_0]; decide
  · rw [z31] at a2; omega
  · rw [z32] at hi; omega
  · rw [z32] at hi; omega
  · rw [z46] at a2; omega
  · rw [z46] at a2; omega
theorem st_LST : LST (mdW (W11g g0F r0F ++ (cO 11 (mf 109) :: ml 109 734)) 109 c1F z0F ++ [cP 2 1 (fun _ => 0)]) := ⟨_, _, _, _, _, _, _, _, _, _, _, _, _, _, _, _, _, _, _, _, _, _, _, _, _, st_heap, wS_len, wS_get, st_REL⟩
