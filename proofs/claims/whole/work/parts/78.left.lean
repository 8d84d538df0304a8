/-! the model: what a clause leaves -/
def RC (c d : am_F) : Prop := RdV d ∧ RW d ∧ d 0 7 = c 0 7
theorem RC_y {c d e : am_F} (h : RC c d) (hr : RdV e) (hy : Ly d e) : RC c e := ⟨hr, RW_y hy h.2.1, (hy.2 7 (by decide) (by decide) (by decide)).trans h.2.2⟩
theorem RC_n {c d : am_F} {lo hi : Int} (h : RC c d) : RC c (k_number d lo hi).2 := RC_y h (k_number_x h.1).1 (Ly_x (k_number_x h.1).2.1)
theorem RC_a {c d : am_F} (h : RC c d) : RC c (k_acrossHere d).2 := RC_n h
theorem RC_d {c d : am_F} (h : RC c d) : RC c (k_downHere d).2 := RC_n h
theorem RC_s {c d : am_F} (h : RC c d) : RC c (k_sign d 59) := RC_y h (k_sign_x h.1 (by decide)).1 (Ly_x (k_sign_x h.1 (by decide)).2)
theorem RC_k {c d : am_F} {k i : Nat} {v : Int} (h0 : k ≠ 0) (h3 : k ≠ 3) (h : RC c d) : RC c (am_put d k i v) := RC_y h (RdV_k h0 h0 h.1) (Ly_k h0 h3)
theorem RC_ry {c d e : am_F} (h : RC c d) (hy : RY d e) : RC c e := RC_y h hy.1 hy.2
theorem RC_3 {c d : am_F} {i : Nat} {v : Int} (h : RC c d) (hw : RW (am_put d 3 i v)) : RC c (am_put d 3 i v) := ⟨RdV_k (by decide) (by decide) h.1, hw, (am_put_k (by decide)).trans h.2.2⟩
theorem k_number_r {c : am_F} {lo hi : Int} (h : RdV c) (hl : 0 ≤ lo) (hh : 0 ≤ hi) : 0 ≤ (k_number c lo hi).1 ∧ (k_number c lo hi).1 ≤ hi := by
  have := (k_number_x (lo := lo) (hi := hi) h).2.2
  omega
theorem RW_30 {d : am_F} {v : Int} (h : RW d) (hv : 0 ≤ v ∧ v ≤ 9) : RW (am_put d 3 0 v) := by
  unfold RW at h ⊢
  rw [am_put_s, am_put_i (j := 1) (by decide), am_put_i (j := 2) (by decide), am_put_i (j := 3) (by decide), am_put_i (j := 4) (by decide), am_put_i (j := 5) (by decide), am_put_i (j := 6) (by decide), am_put_i (j := 8) (by decide), am_put_i (j := 9) (by decide), am_put_i (j := 10) (by decide), am_put_kr (by decide : (0 : Nat) ≠ 3)]
  exact ⟨hv, h.2⟩
theorem RW_31 {d : am_F} {v : Int} (h : RW d) (hv : 0 ≤ v ∧ v ≤ 9) : RW (am_put d 3 1 v) := by
  unfold RW at h ⊢
  rw [am_put_s, am_put_i (j := 0) (by decide), am_put_i (j := 2) (by decide), am_put_i (j := 3) (by decide), am_put_i (j := 4) (by decide), am_put_i (j := 5) (by decide), am_put_i (j := 6) (by decide), am_put_i (j := 8) (by decide), am_put_i (j := 9) (by decide), am_put_i (j := 10) (by decide), am_put_kr (by decide : (0 : Nat) ≠ 3)]
  exact ⟨h.1, hv, h.2.2⟩
theorem RW_37 {d : am_F} {v : Int} (h : RW d) : RW (am_put d 3 7 v) := by
  unfold RW at h ⊢
  rw [am_put_i (j := 0) (by decide), am_put_i (j := 1) (by decide), am_put_i (j := 2) (by decide), am_put_i (j := 3) (by decide), am_put_i (j := 4) (by decide), am_put_i (j := 5) (by decide), am_put_i (j := 6) (by decide), am_put_i (j := 8) (by decide), am_put_i (j := 9) (by decide), am_put_i (j := 10) (by decide), am_put_kr (by decide : (0 : Nat) ≠ 3)]
  exact h
theorem RW_c2 {d : am_F} {v : Int} (h : RW d) (hv : 0 ≤ v ∧ v ≤ 6) : RW (am_put d 3 2 v) := by
  unfold RW at h ⊢
  rw [am_put_s, am_put_i (j := 0) (by decide), am_put_i (j := 1) (by decide), am_put_i (j := 3) (by decide), am_put_i (j := 4) (by decide), am_put_i (j := 5) (by decide), am_put_i (j := 6) (by decide), am_put_i (j := 8) (by decide), am_put_i (j := 9) (by decide), am_put_i (j := 10) (by decide), am_put_kr (by decide : (0 : Nat) ≠ 3)]
  omega
theorem RW_c3 {d : am_F} {v : Int} (h : RW d) (hv : 0 ≤ v ∧ v ≤ 6) : RW (am_put d 3 3 v) := by
  unfold RW at h ⊢
  rw [am_put_s, am_put_i (j := 0) (by decide), am_put_i (j := 1) (by decide), am_put_i (j := 2) (by decide), am_put_i (j := 4) (by decide), am_put_i (j := 5) (by decide), am_put_i (j := 6) (by decide), am_put_i (j := 8) (by decide), am_put_i (j := 9) (by decide), am_put_i (j := 10) (by decide), am_put_kr (by decide : (0 : Nat) ≠ 3)]
  omega
theorem RW_c4 {d : am_F} {v : Int} (h : RW d) (hv : 0 ≤ v ∧ v ≤ 4) : RW (am_put d 3 4 v) := by
  unfold RW at h ⊢
  rw [am_put_s, am_put_i (j := 0) (by decide), am_put_i (j := 1) (by decide), am_put_i (j := 2) (by decide), am_put_i (j := 3) (by decide), am_put_i (j := 5) (by decide), am_put_i (j := 6) (by decide), am_put_i (j := 8) (by decide), am_put_i (j := 9) (by decide), am_put_i (j := 10) (by decide), am_put_kr (by decide : (0 : Nat) ≠ 3)]
  omega
theorem RW_c5 {d : am_F} {v : Int} (h : RW d) (hv : 0 ≤ v ∧ v ≤ 4) : RW (am_put d 3 5 v) := by
  unfold RW at h ⊢
  rw [am_put_s, am_put_i (j := 0) (by decide), am_put_i (j := 1) (by decide), am_put_i (j := 2) (by decide), am_put_i (j := 3) (by decide), am_put_i (j := 4) (by decide), am_put_i (j := 6) (by decide), am_put_i (j := 8) (by decide), am_put_i (j := 9) (by decide), am_put_i (j := 10) (by decide), am_put_kr (by decide : (0 : Nat) ≠ 3)]
  omega
theorem RW_c6 {d : am_F} {v : Int} (h : RW d) (hv : 0 ≤ v ∧ v ≤ 4) : RW (am_put d 3 6 v) := by
  unfold RW at h ⊢
  rw [am_put_s, am_put_i (j := 0) (by decide), am_put_i (j := 1) (by decide), am_put_i (j := 2) (by decide), am_put_i (j := 3) (by decide), am_put_i (j := 4) (by decide), am_put_i (j := 5) (by decide), am_put_i (j := 8) (by decide), am_put_i (j := 9) (by decide), am_put_i (j := 10) (by decide), am_put_kr (by decide : (0 : Nat) ≠ 3)]
  omega
theorem RW_c10 {d : am_F} {v : Int} (h : RW d) (hv : 0 ≤ v ∧ v ≤ 6) : RW (am_put d 3 10 v) := by
  unfold RW at h ⊢
  rw [am_put_s, am_put_i (j := 0) (by decide), am_put_i (j := 1) (by decide), am_put_i (j := 2) (by decide), am_put_i (j := 3) (by decide), am_put_i (j := 4) (by decide), am_put_i (j := 5) (by decide), am_put_i (j := 6) (by decide), am_put_i (j := 8) (by decide), am_put_i (j := 9) (by decide), am_put_kr (by decide : (0 : Nat) ≠ 3)]
  omega
theorem k_clause_152_x {c : am_F} (h : RdV c) (hw : RW c) : RC c (k_clause_152 c) := by
  unfold k_clause_152
  dsimp only
  have h0 : RC c c := ⟨h, hw, rfl⟩
  have h1 : RC c (am_put (k_number c 2 9).2 3 0 (k_number c 2 9).1) := RC_3 (RC_n h0) (RW_30 (RC_n h0).2.1 (k_number_r h (by decide) (by decide)))
  exact RC_s (RC_3 (RC_n h1) (RW_31 (RC_n h1).2.1 (k_number_r h1.1 (by decide) (by decide))))
theorem k_clause_335_x {c : am_F} (h : RdV c) (hw : RW c) : RC c (k_clause_335 c) := by
  unfold k_clause_335
  dsimp only
  have h0 : RC c c := ⟨h, hw, rfl⟩
  exact RC_s (RC_3 (RC_n h0) (RW_37 (RC_n h0).2.1))
theorem k_clause_406_x {c : am_F} (h : RdV c) (hw : RW c) : RC c (k_clause_406 c) := by
  unfold k_clause_406
  dsimp only
  exact RC_s (RC_ry ⟨h, hw, rfl⟩ (k_fogHere_x h))
/-- a count that goes up by one at most -/
theorem RC_up {c d : am_F} {j : Nat} {k b t e9 : Int} (he : e9 = d 3 k.toNat) (hk : k = (j : Int)) (hj : (j = 2 ∧ b = 6) ∨ (j = 3 ∧ b = 6) ∨ (j = 4 ∧ b = 4) ∨ (j = 5 ∧ b = 4) ∨ (j = 6 ∧ b = 4) ∨ (j = 10 ∧ b = 6)) (h : RC c d) (ht : t = 0 ∨ t = 1) (hb : 0 ≤ d 3 j ∧ d 3 j + 1 ≤ b) : RC c (am_put d 3 k.toNat (e9 + t)) := by
  subst he
  have e : k.toNat = j := by omega
  rw [e]
  refine RC_3 h ?_
  rcases hj with ⟨q, r⟩ | ⟨q, r⟩ | ⟨q, r⟩ | ⟨q, r⟩ | ⟨q, r⟩ | ⟨q, r⟩ <;> subst q
  · exact RW_c2 h.2.1 (by omega)
  · exact RW_c3 h.2.1 (by omega)
  · exact RW_c4 h.2.1 (by omega)
  · exact RW_c5 h.2.1 (by omega)
  · exact RW_c6 h.2.1 (by omega)
  · exact RW_c10 h.2.1 (by omega)
theorem am_t01 {p : Prop} [Decidable p] : (if p then (1 : Int) else 0) = 0 ∨ (if p then (1 : Int) else 0) = 1 := by
  split
  · right; rfl
  · left; rfl
theorem k_clause_220_x {c : am_F} {k : Int} (h : RdV c) (hw : RW c) (hfu : k_isFull c k = 0) (hk : k = 3) : RC c (k_clause_220 c k) := by
  have hfl := (k_isFull_s hfu).2.1 hk
  have w9 := hw
  obtain ⟨w0, w1, w2, w3, w4, w5, w6, w8, w7, w10, w11⟩ := w9
  unfold k_clause_220
  dsimp only
  have h0 : RY c c := ⟨h, Ly_r⟩
  have h9 : RY c (k_lotHere c (c 3 3)) := k_lotHere_x h
  have e9 : ((k_lotHere c (c 3 3))) 3 3 = c 3 3 := congrFun h9.2.1 3
  exact RC_s (RC_up (j := 3) (b := 6) (by first | rfl | exact (am_put_k (by omega)).symm) hk (by omega) (RC_ry ⟨h, hw, rfl⟩ h9) am_t01 (by omega))
theorem k_clause_238_x {c : am_F} {k : Int} (h : RdV c) (hw : RW c) (hfu : k_isFull c k = 0) (hk : k = 4) : RC c (k_clause_238 c k) := by
  have hfl := (k_isFull_s hfu).2.2.1 hk
  have w9 := hw
  obtain ⟨w0, w1, w2, w3, w4, w5, w6, w8, w7, w10, w11⟩ := w9
  unfold k_clause_238
  dsimp only
  have h0 : RY c c := ⟨h, Ly_r⟩
  have h9 : RY c (k_walkHere c (c 3 4)) := k_walkHere_x h
  have e9 : ((k_walkHere c (c 3 4))) 3 4 = c 3 4 := congrFun h9.2.1 4
  exact RC_s (RC_up (j := 4) (b := 4) (by first | rfl | exact (am_put_k (by omega)).symm) hk (by omega) (RC_ry ⟨h, hw, rfl⟩ h9) am_t01 (by omega))
theorem k_clause_181_x {c : am_F} {k : Int} (h : RdV c) (hw : RW c) (hfu : k_isFull c k = 0) (hk : k = 2) : RC c (k_clause_181 c k) := by
  have hfl := (k_isFull_s hfu).1 hk
  have w9 := hw
  obtain ⟨w0, w1, w2, w3, w4, w5, w6, w8, w7, w10, w11⟩ := w9
  unfold k_clause_181
  dsimp only
  have h0 : RY c c := ⟨h, Ly_r⟩
  have h9 : RY c (am_put (k_number (am_put (k_downHere (am_put (k_acrossHere c).2 (60 + (c 3 2).toNat) 0 (k_acrossHere c).1)).2 (60 + (c 3 2).toNat) 1 (k_downHere (am_put (k_acrossHere c).2 (60 + (c 3 2).toNat) 0 (k_acrossHere c).1)).1) 1 20).2 (60 + (c 3 2).toNat) 2 (k_number (am_put (k_downHere (am_put (k_acrossHere c).2 (60 + (c 3 2).toNat) 0 (k_acrossHere c).1)).2 (60 + (c 3 2).toNat) 1 (k_downHere (am_put (k_acrossHere c).2 (60 + (c 3 2).toNat) 0 (k_acrossHere c).1)).1) 1 20).1) := RY_k (by omega) (by omega) (RY_n (RY_k (by omega) (by omega) (RY_d (RY_k (by omega) (by omega) (RY_a h0)))))
  have e9 : ((am_put (k_number (am_put (k_downHere (am_put (k_acrossHere c).2 (60 + (c 3 2).toNat) 0 (k_acrossHere c).1)).2 (60 + (c 3 2).toNat) 1 (k_downHere (am_put (k_acrossHere c).2 (60 + (c 3 2).toNat) 0 (k_acrossHere c).1)).1) 1 20).2 (60 + (c 3 2).toNat) 2 (k_number (am_put (k_downHere (am_put (k_acrossHere c).2 (60 + (c 3 2).toNat) 0 (k_acrossHere c).1)).2 (60 + (c 3 2).toNat) 1 (k_downHere (am_put (k_acrossHere c).2 (60 + (c 3 2).toNat) 0 (k_acrossHere c).1)).1) 1 20).1)) 3 2 = c 3 2 := congrFun h9.2.1 2
  exact RC_s (RC_up (j := 2) (b := 6) (by first | rfl | exact (am_put_k (by omega)).symm) hk (by omega) (RC_ry ⟨h, hw, rfl⟩ h9) am_t01 (by omega))
theorem k_clause_256_x {c : am_F} {k : Int} (h : RdV c) (hw : RW c) (hfu : k_isFull c k = 0) (hk : k = 5) : RC c (k_clause_256 c k) := by
  have hfl := (k_isFull_s hfu).2.2.2.1 hk
  have w9 := hw
  obtain ⟨w0, w1, w2, w3, w4, w5, w6, w8, w7, w10, w11⟩ := w9
  unfold k_clause_256
  dsimp only
  have h0 : RY c c := ⟨h, Ly_r⟩
  have h9 : RY c (am_put (k_downHere (am_put (k_acrossHere c).2 (113 + (c 3 5).toNat) 0 (k_acrossHere c).1)).2 (113 + ((k_acrossHere c).2 3 5).toNat) 1 (k_downHere (am_put (k_acrossHere c).2 (113 + (c 3 5).toNat) 0 (k_acrossHere c).1)).1) := RY_k (by omega) (by omega) (RY_d (RY_k (by omega) (by omega) (RY_a h0)))
  have e9 : ((am_put (k_downHere (am_put (k_acrossHere c).2 (113 + (c 3 5).toNat) 0 (k_acrossHere c).1)).2 (113 + ((k_acrossHere c).2 3 5).toNat) 1 (k_downHere (am_put (k_acrossHere c).2 (113 + (c 3 5).toNat) 0 (k_acrossHere c).1)).1)) 3 5 = c 3 5 := congrFun h9.2.1 5
  exact RC_s (RC_up (j := 5) (b := 4) (by first | rfl | exact (am_put_k (by omega)).symm) hk (by omega) (RC_ry ⟨h, hw, rfl⟩ h9) am_t01 (by omega))
theorem k_clause_293_x {c : am_F} {k : Int} (h : RdV c) (hw : RW c) (hfu : k_isFull c k = 0) (hk : k = 6) : RC c (k_clause_293 c k) := by
  have hfl := (k_isFull_s hfu).2.2.2.2.1 hk
  have w9 := hw
  obtain ⟨w0, w1, w2, w3, w4, w5, w6, w8, w7, w10, w11⟩ := w9
  unfold k_clause_293
  dsimp only
  have h0 : RY c c := ⟨h, Ly_r⟩
  have h9 : RY c (am_put (k_number (am_put (k_acrossHere c).2 (123 + (c 3 6).toNat) 0 (k_acrossHere c).1) 0 99).2 (123 + ((k_acrossHere c).2 3 6).toNat) 1 (k_number (am_put (k_acrossHere c).2 (123 + (c 3 6).toNat) 0 (k_acrossHere c).1) 0 99).1) := RY_k (by omega) (by omega) (RY_n (RY_k (by omega) (by omega) (RY_a h0)))
  have e9 : ((am_put (k_number (am_put (k_acrossHere c).2 (123 + (c 3 6).toNat) 0 (k_acrossHere c).1) 0 99).2 (123 + ((k_acrossHere c).2 3 6).toNat) 1 (k_number (am_put (k_acrossHere c).2 (123 + (c 3 6).toNat) 0 (k_acrossHere c).1) 0 99).1)) 3 6 = c 3 6 := congrFun h9.2.1 6
  exact RC_s (RC_up (j := 6) (b := 4) (by first | rfl | exact (am_put_k (by omega)).symm) hk (by omega) (RC_ry ⟨h, hw, rfl⟩ h9) am_t01 (by omega))
theorem k_clause_366_x {c : am_F} {k : Int} (h : RdV c) (hw : RW c) (hfu : k_isFull c k = 0) (hk : k = 10) : RC c (k_clause_366 c k) := by
  have hfl := (k_isFull_s hfu).2.2.2.2.2.2.2 hk
  have w9 := hw
  obtain ⟨w0, w1, w2, w3, w4, w5, w6, w8, w7, w10, w11⟩ := w9
  unfold k_clause_366
  dsimp only
  have h0 : RY c c := ⟨h, Ly_r⟩
  have h9 : RY c (am_put (k_downHere (am_put (k_acrossHere (am_put (k_number c 0 39).2 (75 + (c 3 10).toNat) 0 (k_number c 0 39).1)).2 (75 + (c 3 10).toNat) 1 (k_acrossHere (am_put (k_number c 0 39).2 (75 + (c 3 10).toNat) 0 (k_number c 0 39).1)).1)).2 (75 + (c 3 10).toNat) 2 (k_downHere (am_put (k_acrossHere (am_put (k_number c 0 39).2 (75 + (c 3 10).toNat) 0 (k_number c 0 39).1)).2 (75 + (c 3 10).toNat) 1 (k_acrossHere (am_put (k_number c 0 39).2 (75 + (c 3 10).toNat) 0 (k_number c 0 39).1)).1)).1) := RY_k (by omega) (by omega) (RY_d (RY_k (by omega) (by omega) (RY_a (RY_k (by omega) (by omega) (RY_n h0)))))
  have e9 : ((am_put (k_downHere (am_put (k_acrossHere (am_put (k_number c 0 39).2 (75 + (c 3 10).toNat) 0 (k_number c 0 39).1)).2 (75 + (c 3 10).toNat) 1 (k_acrossHere (am_put (k_number c 0 39).2 (75 + (c 3 10).toNat) 0 (k_number c 0 39).1)).1)).2 (75 + (c 3 10).toNat) 2 (k_downHere (am_put (k_acrossHere (am_put (k_number c 0 39).2 (75 + (c 3 10).toNat) 0 (k_number c 0 39).1)).2 (75 + (c 3 10).toNat) 1 (k_acrossHere (am_put (k_number c 0 39).2 (75 + (c 3 10).toNat) 0 (k_number c 0 39).1)).1)).1)) 3 10 = c 3 10 := congrFun h9.2.1 10
  exact RC_s (RC_up (j := 10) (b := 6) (by first | rfl | exact (am_put_k (by omega)).symm) hk (by omega) (RC_ry ⟨h, hw, rfl⟩ h9) am_t01 (by omega))
