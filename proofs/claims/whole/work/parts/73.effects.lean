/-! the model: what the clauses leave as it is -/
def RY (c d : am_F) : Prop := RdV d ∧ Ly c d
theorem RY_k {c d : am_F} {k i : Nat} {v : Int} (h0 : k ≠ 0) (h3 : k ≠ 3) (h : RY c d) : RY c (am_put d k i v) := ⟨RdV_k h0 h0 h.1, Ly_t h.2 (Ly_k h0 h3)⟩
theorem RY_n {c d : am_F} {lo hi : Int} (h : RY c d) : RY c (k_number d lo hi).2 := ⟨(k_number_x h.1).1, Ly_t h.2 (Ly_x (k_number_x h.1).2.1)⟩
theorem RY_a {c d : am_F} (h : RY c d) : RY c (k_acrossHere d).2 := RY_n h
theorem RY_d {c d : am_F} (h : RY c d) : RY c (k_downHere d).2 := RY_n h
theorem RY_b {c d : am_F} (h : RY c d) : RY c (k_blanks d) := ⟨(k_blanks_x h.1).1, Ly_t h.2 (Ly_x (k_blanks_x h.1).2)⟩
theorem RY_w {c d : am_F} {x y : Int} (h : RY c d) : RY c (k_wrong d x y) := ⟨(k_wrong_x h.1).1, Ly_t h.2 (Ly_x (k_wrong_x h.1).2)⟩
theorem k_lotHere_x {c : am_F} {k : Int} (h : RdV c) : RY c (k_lotHere c k) := by
  unfold k_lotHere
  dsimp only
  have hin : ∀ (hr : Int) (n : Nat) (i : Int) (d : am_F), RY c d → RY c (am_fold (g_k_lotHere_61 k hr) i n d) := by
    intro hr n i d hd
    exact am_fold_inv (P := fun _ e => RY c e) n i d hd (fun j e _ _ he => by
      unfold g_k_lotHere_61
      repeat' split
      all_goals first | exact he | exact RY_w he)
  refine RY_k (by omega) (by omega) (RY_n (RY_k (by omega) (by omega) (RY_n (hin _ _ _ _ (RY_k (by omega) (by omega) (RY_n (RY_b (RY_k (by omega) (by omega) (RY_n (RY_k (by omega) (by omega) (RY_d (RY_k (by omega) (by omega) (RY_a ⟨h, Ly_r⟩))))))))))))) 
theorem k_walkHere_x {c : am_F} {k : Int} (h : RdV c) : RY c (k_walkHere c k) := by
  unfold k_walkHere
  dsimp only
  have hin : ∀ (hr : Int) (n : Nat) (x : Int × Int × Int × am_F), RY c x.2.2.2 → RY c (am_wh (w_k_walkHere_76 k hr) n x).2.2.2 := by
    intro hr n x hx
    refine am_wh_inv (P := fun d : Int × Int × Int × am_F => RY c d.2.2.2) ?_ ?_ n x hx
    · intro a b hp e
      revert e
      unfold w_k_walkHere_76
      dsimp only
      have hb := k_byteAt_s a.2.2.2 (a.2.2.2 0 4)
      have hd := k_isSmall_s (k_byteAt a.2.2.2 (a.2.2.2 0 4))
      split
      · intro e; cases e
      · intro e
        rw [← Sum.inl.inj e]
        dsimp only
        obtain ⟨c9, e9⟩ : ∃ c9, c9 = (if (if 12 ≤ a.2.2.1 then (0 : Int) else if k_byteAt a.2.2.2 (a.2.2.2 0 4) = 110 then 1 else if k_byteAt a.2.2.2 (a.2.2.2 0 4) = 115 then 1 else if k_byteAt a.2.2.2 (a.2.2.2 0 4) = 119 then 1 else if k_byteAt a.2.2.2 (a.2.2.2 0 4) = 101 then 1 else if k_byteAt a.2.2.2 (a.2.2.2 0 4) = 111 then 1 else 0) = 0 then k_wrong a.2.2.2 2 hr else if k_in (am_w32 (a.1 + k_goesBy (k_byteAt a.2.2.2 (a.2.2.2 0 4)) 1)) 0 (a.2.2.2 3 0 - 1) = 0 then k_wrong a.2.2.2 2 hr else if k_in (am_w32 (a.2.1 + k_goesBy (k_byteAt a.2.2.2 (a.2.2.2 0 4)) 0)) 0 (a.2.2.2 3 1 - 1) = 0 then k_wrong a.2.2.2 2 hr else am_put a.2.2.2 (103 + k.toNat) (4 + a.2.2.1).toNat (k_byteAt a.2.2.2 (a.2.2.2 0 4))) := ⟨_, rfl⟩
        have h9 : RY c c9 ∧ c9 0 4 = a.2.2.2 0 4 ∧ c9 0 2 = a.2.2.2 0 2 := by
          rw [e9]
          have hw : RY c (k_wrong a.2.2.2 2 hr) ∧ k_wrong a.2.2.2 2 hr 0 4 = a.2.2.2 0 4 ∧ k_wrong a.2.2.2 2 hr 0 2 = a.2.2.2 0 2 := ⟨RY_w hp, k_wrong_4, (k_wrong_x hp.1).2.2 2 (by decide) (by decide) (by decide)⟩
          repeat' split
          all_goals first | exact hw | exact ⟨RY_k (by omega) (by omega) hp, am_put_k (by omega), am_put_k (by omega)⟩
        rw [← e9]
        have hr := hp.1
        obtain ⟨r1, r2, r3⟩ := hr
        exact ⟨RdV_p4 h9.1.1 (by omega) (by omega), Ly_t h9.1.2 (Ly_x (Lx_p (by omega)))⟩
    · intro a b hp e
      revert e
      unfold w_k_walkHere_76
      dsimp only
      split
      · intro e; rw [← Sum.inr.inj e]; exact hp
      · intro e; cases e
  have h3 : RY c (am_put (k_number (am_put (k_downHere (am_put (k_acrossHere c).2 (103 + k.toNat) 0 (k_acrossHere c).1)).2 (103 + k.toNat) 1 (k_downHere (am_put (k_acrossHere c).2 (103 + k.toNat) 0 (k_acrossHere c).1)).1) 0 39).2 (103 + k.toNat) 2 (k_number (am_put (k_downHere (am_put (k_acrossHere c).2 (103 + k.toNat) 0 (k_acrossHere c).1)).2 (103 + k.toNat) 1 (k_downHere (am_put (k_acrossHere c).2 (103 + k.toNat) 0 (k_acrossHere c).1)).1) 0 39).1) :=
    RY_k (by omega) (by omega) (RY_n (RY_k (by omega) (by omega) (RY_d (RY_k (by omega) (by omega) (RY_a ⟨h, Ly_r⟩)))))
  split
  · refine RY_k (by omega) (by omega) (hin _ _ _ ?_)
    dsimp only
    split
    · exact RY_w (RY_b h3)
    · exact RY_b h3
  · exact h3
theorem k_windHere_x {c : am_F} (h : RdV c) : RdV (k_windHere c) := by
  unfold k_windHere
  dsimp only
  have h4 : RY c (k_number (k_number (k_number (k_number c 0 39).2 0 2).2 0 2).2 0 8).2 := RY_n (RY_n (RY_n (RY_n ⟨h, Ly_r⟩)))
  split
  · exact RdV_k (by decide) (by decide) (RdV_k (by omega) (by omega) (RdV_k (by omega) (by omega) (RdV_k (by omega) (by omega) (RdV_k (by omega) (by omega) h4.1))))
  · exact h4.1
theorem k_thinHere_x {c : am_F} (h : RdV c) : RdV (k_thinHere c) := by
  unfold k_thinHere
  dsimp only
  have h4 : RY c (k_number (k_number c 0 39).2 0 9).2 := RY_n (RY_n ⟨h, Ly_r⟩)
  split
  · exact RdV_k (by decide) (by decide) (RdV_k (by omega) (by omega) (RdV_k (by omega) (by omega) h4.1))
  · exact h4.1
