/-! THE LAW: what the model's calls ask for -/
section MF
variable {hb sp rb rs : Nat} {ee hh ss uu vv rr tt gg aa dd bd ga im c q : am_F}
theorem REL.mWd (h : REL hb sp rb rs ee hh ss uu vv rr tt gg dd bd ga im c q) : MdWd c := h.2.2.1.2.1
theorem REL.mS (h : REL hb sp rb rs ee hh ss uu vv rr tt gg dd bd ga im c q) : MdS c := fun k a b => by
  have h1 := h.xc.2.2.1.2.2.2.1
  obtain ⟨-, -, h2, h3, h4⟩ := h1.2 k a b
  exact ⟨h2, h3, h4⟩
theorem REL.mLp (h : REL hb sp rb rs ee hh ss uu vv rr tt gg dd bd ga im c q) : MdLp c := fun k a b => by
  have h5 : hh 0 5 = c 4 2 := h.xc.2.2.2.1.2.1
  have h45 : c 0 45 = c 4 2 := h.xc.2.2.2.1.2.2
  obtain ⟨t1, t2, -⟩ := h.xtb k a (by omega)
  have hL : LpB hh := h.xc.1.1.2.2.2.2.1
  have h9 := (hL k).1
  rw [t1] at h9
  exact ⟨by omega, by omega, by omega⟩
theorem REL.mDu (h : REL hb sp rb rs ee hh ss uu vv rr tt gg dd bd ga im c q) : MdDu c := by
  have h1 := h.xd.1
  exact ⟨by omega, fun h2 => by omega⟩
theorem REL.mK (h : REL hb sp rb rs ee hh ss uu vv rr tt gg dd bd ga im c q) : MdK c := fun w a b => by
  obtain ⟨⟨e1, e2⟩, e3⟩ := h.xc.2.2.2.2.1.2 w a b
  obtain ⟨w1, w2⟩ := h.xc.1.2.1 w
  have hV := h.xv
  obtain ⟨-, x1, y1⟩ := e3 0 (by have := w2.1; omega)
  have x2 : 0 ≤ c (108 + w.toNat) 0 ∧ c (108 + w.toNat) 0 < c 4 0 := x1
  have y2 : 0 ≤ c (108 + w.toNat) 1 ∧ c (108 + w.toNat) 1 < c 4 1 := y1
  have := hV.1
  have := hV.2.1
  exact ⟨by omega, by omega, by omega, by omega⟩
theorem REL.mPt (h : REL hb sp rb rs ee hh ss uu vv rr tt gg dd bd ga im c q) : MdPt c := fun w m a b hm => by
  obtain ⟨⟨e1, e2⟩, e3⟩ := h.xc.2.2.2.2.1.2 w a b
  exact (e3 m (by omega)).2
theorem REL.mPl (h : REL hb sp rb rs ee hh ss uu vv rr tt gg dd bd ga im c q) : MdPl c := fun w t a b => by
  have hV := h.xv
  have v1 := hV.1
  have v2 := hV.2.1
  unfold k_placeOf
  dsimp only
  by_cases g1 : t - c (108 + w.toNat) 2 < 0
  · rw [if_pos g1]
    exact Or.inl rfl
  · rw [if_neg g1]
    by_cases g2 : t - c (108 + w.toNat) 2 ≤ c (108 + w.toNat) 3
    · rw [if_pos g2]
      obtain ⟨p1, p2⟩ := h.mPt w (t - c (108 + w.toNat) 2).toNat a b (by omega)
      exact Or.inr (by omega)
    · rw [if_neg g2]
      exact Or.inl rfl
theorem REL.mWt (h : REL hb sp rb rs ee hh ss uu vv rr tt gg dd bd ga im c q) : MdWt c := fun k a b => by
  obtain ⟨-, h1, h2⟩ := h.xc.2.2.2.2.2.1.2 k a b
  have := h.xv.1
  have := h.xv.2.1
  exact ⟨by omega, by omega, by omega⟩
theorem REL.mSh (h : REL hb sp rb rs ee hh ss uu vv rr tt gg dd bd ga im c q) : MdSh c := fun k a b => (h.xc.2.2.2.2.2.2.1.2 k a b).2.2
theorem REL.mL (h : REL hb sp rb rs ee hh ss uu vv rr tt gg dd bd ga im c q) : MdL c := h.xc.2.2.2.2.2.2.2.1
theorem REL.mB (h : REL hb sp rb rs ee hh ss uu vv rr tt gg dd bd ga im c q) : MdB c := h.xbc.2.2
theorem REL.mG (h : REL hb sp rb rs ee hh ss uu vv rr tt gg dd bd ga im c q) : MdG c := fun k a b => by
  obtain ⟨-, h1, -, x9, y9, hx, hy, -, h2⟩ := h.xgc.2.2 k a b
  have := h.xv.1
  have := h.xv.2.1
  exact ⟨by omega, h1⟩
theorem REL.mP (h : REL hb sp rb rs ee hh ss uu vv rr tt gg dd bd ga im c q) : MdP c := RuC_P h.xu h.xrb
theorem REL.mYd (h : REL hb sp rb rs ee hh ss uu vv rr tt gg dd bd ga im c q) : MdYd c := fun q9 k t a b e1 e2 => by
  obtain ⟨h1, h2⟩ := ti_inLot (k := k) h.xc (Base_fog h.xc.1.1 h.xc.2.2.1 h.xb (st := t) (s := t) (by omega) (by omega) q9) ⟨a, b⟩
  rw [← h1]
  exact h2
theorem REL.mNd (h : REL hb sp rb rs ee hh ss uu vv rr tt gg dd bd ga im c q) : MdNd c := fun q9 seed dq w a b e1 e2 => by
  have hl := ti_leaves h.xc.1.2.1 w
  obtain ⟨u1, u2⟩ := ti_doubtTo (hb := 0) (sd := seed) (st := f_leaves hh w) h.xc h.xtb h.xfs TrI_z ⟨a, b⟩ h.xd.1 hl.1
  obtain ⟨h1, h2, h3⟩ := ti_needsAll (q := k_goesD c q9 seed dq) h.xc u1.1.2.1 ⟨e1, e2⟩ (fun s a1 a2 a3 => u2 s q9 (hl.2 s a1 a2 a3).1 (hl.2 s a1 a2 a3).2)
  rw [← h1]
  exact h3
theorem REL.mLm (h : REL hb sp rb rs ee hh ss uu vv rr tt gg dd bd ga im c q) : c 0 45 = c 4 2 := h.xc.2.2.2.1.2.2
theorem REL.mTp (h : REL hb sp rb rs ee hh ss uu vv rr tt gg dd bd ga im c q) : 0 ≤ c 0 1 ∧ c 0 1 ≤ 600 := by
  have h1 := h.xtp.1
  have h2 := h.xtp.2.1
  omega
theorem REL.mIm (h : REL hb sp rb rs ee hh ss uu vv rr tt gg dd bd ga im c q) : 0 ≤ c 0 32 ∧ c 0 32 ≤ 3 := by
  have h1 := h.xi32
  omega
end MF
/-! both regions in one heap -/
theorem am_ovcomm {w : AH} {b1 n1 b2 n2 : Nat} {C1 C2 : Nat → AC} (hd : b1 + n1 ≤ b2 ∨ b2 + n2 ≤ b1) : am_ov (am_ov w b1 n1 C1) b2 n2 C2 = am_ov (am_ov w b2 n2 C2) b1 n1 C1 := by
  refine am_ovext fun j => ?_
  unfold am_ov
  rw [List.getElem?_mapIdx, List.getElem?_mapIdx, List.getElem?_mapIdx, List.getElem?_mapIdx]
  cases w[j]? with
  | none => rfl
  | some x9 =>
    simp only [Option.map_some]
    by_cases h1 : b1 ≤ j ∧ j < b1 + n1
    · rw [if_pos h1, if_pos h1, if_neg (show ¬ (b2 ≤ j ∧ j < b2 + n2) by omega)]
    · rw [if_neg h1, if_neg h1]
theorem am_ovset_o {w : AH} {b n a : Nat} {C : Nat → AC} {x9 : AC} (h : a < b ∨ b + n ≤ a) : (am_ov w b n C).set a x9 = am_ov (w.set a x9) b n C := by
  refine am_ovext fun j => ?_
  unfold am_ov
  rw [List.getElem?_set, List.getElem?_mapIdx, List.getElem?_mapIdx, List.getElem?_set, List.length_mapIdx]
  by_cases e : a = j
  · subst e
    rw [if_pos rfl, if_pos rfl]
    by_cases e2 : a < w.length
    · rw [if_pos e2]
      simp only [Option.map_some]
      rw [if_neg (show ¬ (b ≤ a ∧ a < b + n) by omega)]
    · rw [if_neg e2]
      rfl
  · rw [if_neg e, if_neg e]
def LW (w : AH) (hb sp rb rs : Nat) (po ro : AV) (ee hh ss uu vv pp kk rr tt gg aa dd bd ga im c q : am_F) : AH := hfW (mdW w 109 c q) hb sp rb rs hb po ro ee hh ss uu vv pp kk rr tt gg aa dd bd ga im
section LWS
variable {w : AH} {hb sp rb rs : Nat} {po ro : AV} {ee hh ss uu vv pp kk rr tt gg aa dd bd ga im c q : am_F}
theorem LW_md : LW w hb sp rb rs po ro ee hh ss uu vv pp kk rr tt gg aa dd bd ga im c q = mdW (hfW w hb sp rb rs hb po ro ee hh ss uu vv pp kk rr tt gg aa dd bd ga im) 109 c q := am_ovcomm (Or.inr (by decide))
theorem LW_len : (LW w hb sp rb rs po ro ee hh ss uu vv pp kk rr tt gg aa dd bd ga im c q).length = w.length := by
  unfold LW
  rw [hfW_l, mdW_l]
theorem LW_o {j : Nat} (hj : 844 ≤ j) : (LW w hb sp rb rs po ro ee hh ss uu vv pp kk rr tt gg aa dd bd ga im c q)[j]? = w[j]? := by
  unfold LW
  rw [hfW_o (by omega), mdW_o (by omega)]
theorem LW_set {x9 : AC} : (LW w hb sp rb rs po ro ee hh ss uu vv pp kk rr tt gg aa dd bd ga im c q).set 844 x9 = LW (w.set 844 x9) hb sp rb rs po ro ee hh ss uu vv pp kk rr tt gg aa dd bd ga im c q := by
  unfold LW hfW mdW
  rw [am_ovset_o (by omega), am_ovset_o (by omega)]
theorem LW_0 (hw : 845 ≤ w.length) : (LW w hb sp rb rs po ro ee hh ss uu vv pp kk rr tt gg aa dd bd ga im c q)[0]? = some (hfC hb sp rb rs hb po ro ee hh ss uu vv pp kk rr tt gg aa dd bd ga im 0) := hfW_c (by rw [mdW_l]; omega) 0 (by decide)
theorem LW_109 (hw : 845 ≤ w.length) : (LW w hb sp rb rs po ro ee hh ss uu vv pp kk rr tt gg aa dd bd ga im c q)[109]? = some (cO 11 (mdO 109 (c 0) (q 0))) := by
  rw [LW_md]
  exact md_obj (by rw [hfW_l]; omega)
theorem LW_h1 (hw : 845 ≤ w.length) : 109 ≤ (mdW w 109 c q).length := by rw [mdW_l]; omega
theorem LW_h2 (hw : 845 ≤ w.length) : 109 + 735 ≤ (hfW w hb sp rb rs hb po ro ee hh ss uu vv pp kk rr tt gg aa dd bd ga im).length := by rw [hfW_l]; omega
end LWS
/-- a state of the law's heap between two calls -/
def LST (W : AH) : Prop := ∃ (w : AH) (hb sp rb rs : Nat) (po ro : AV) (ee hh ss uu vv pp kk rr tt gg aa dd bd ga im c q : am_F) (f : Nat → Int), W = LW w hb sp rb rs po ro ee hh ss uu vv pp kk rr tt gg aa dd bd ga im c q ∧ w.length = 845 ∧ w[844]? = some (cP 2 1 f) ∧ REL hb sp rb rs ee hh ss uu vv rr tt gg dd bd ga im c q
