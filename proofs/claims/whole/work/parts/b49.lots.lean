/-! THE TIE: lots -/
theorem rr_num2 {e P D : am_F} {lo lo' hi hi' : Int} (h : RR e P D) (t : TpI e) (hl : D 0 5 = 0 → lo' = lo) (hh : hi' = hi) : RR e (c_number e P lo' hi').2 (k_number D lo hi).2 ∧ Lx D (k_number D lo hi).2 ∧ ((k_number D lo hi).2 0 5 = 0 → D 0 5 = 0 ∧ (c_number e P lo' hi').1 = (k_number D lo hi).1 ∧ (lo ≤ (k_number D lo hi).1 ∧ (k_number D lo hi).1 ≤ hi) ∧ (c_number e P lo' hi').2 0 3 = k_blanks D 0 4) := by
  subst hh
  by_cases g0 : D 0 5 = 0
  · rw [hl g0]
    obtain ⟨h1, h2⟩ := rr_number h t lo hi'
    obtain ⟨x1, x2, x3⟩ := k_number_x (lo := lo) (hi := hi') h.2.2.2.2.2.2
    refine ⟨h1, x2, fun g => ⟨g0, (h2 g).1, ?_, (h2 g).2⟩⟩
    rcases x3 with x3 | x3
    · exact x3.2
    · exact absurd g x3.1
  · have e1 : k_number D lo hi' = (0, D) := if_neg g0
    rw [number_s (by rw [h.1]; exact g0), e1]
    exact ⟨h, Lx_r, fun g => absurd g g0⟩
theorem rr_fld {e P D : am_F} {j : Nat} {v : Int} (h : RR e P D) (hj : 6 ≤ j) : RR e (am_put P 0 j v) D := by
  obtain ⟨a1, a2, a3, a4, a5, a6, a7⟩ := h
  refine ⟨by rw [am_put_i (by omega)]; exact a1, by rw [am_put_i (by omega)]; exact a2, fun g => by rw [am_put_i (by omega)]; exact a3 g, by rw [am_put_i (by omega)]; exact a4, a5, ?_, a7⟩
  unfold RdI
  rw [am_put_i (by omega), am_put_i (by omega), am_put_i (by omega)]
  exact a6
theorem rr_keep {e P : am_F} {lo hi : Int} (hI : RdI P) (t : TpI e) {j : Nat} (hj : j ≤ 1 ∨ 6 ≤ j) : (c_number e P lo hi).2 0 j = P 0 j := (Rd2.number (Rd2.rf hI) t lo hi).2 0 j (by omega)
theorem rr_blk6 (c : am_F) : k_blanks c 0 6 = c 0 6 := by
  refine (am_wh_inv (P := fun (x : am_F) => x 0 6 = c 0 6) (fun x y hx hy => ?_) (fun x y hx hy => ?_) 601 c rfl : _)
  · unfold w_k_blanks_0 at hy
    dsimp only at hy
    split at hy
    · injection hy with hy
      rw [← hy, am_put_i (by decide)]; exact hx
    · cases hy
  · unfold w_k_blanks_0 at hy
    dsimp only at hy
    split at hy
    · cases hy
    · injection hy with hy
      rw [← hy]; exact hx
theorem rr_blF {e p c : am_F} (h : RR e p c) (h5 : c 0 5 ≠ 0) : RR e p (k_blanks c) := by
  obtain ⟨h1, h2, h3, h4, h6, h7, h8⟩ := h
  obtain ⟨b1, b2⟩ := k_blanks_x h8
  have e5 : k_blanks c 0 5 = c 0 5 := k_blanks_5
  have e2 := b2.2 2 (by decide) (by decide) (by decide)
  exact ⟨by rw [e5]; exact h1, by rw [rr_blk6]; exact h2, fun g => absurd (e5.symm.trans g) h5, by rw [e2]; exact h4, fun j hj => by rw [e2] at hj; rw [b2.1 1 (by decide)]; exact h6 j hj, h7, b1⟩
/-- the model's block -/
def mBlk (c : am_F) (r : Nat) : am_F × Int := (let u3 : Int × am_F := k_acrossHere c; (let u10 : Int × am_F := k_downHere (am_put (u3).2 r 0 ((u3).1)); (let u28 : Int × am_F := k_number (am_put (u10).2 r 1 ((u10).1)) ((u10).2 r 0) (((u10).2 3 0) - 1); (let c33 : am_F := k_blanks (am_put (u28).2 r 2 ((u28).1)); (let u55 : Int × am_F := k_number c33 (c33 r 1) ((c33 3 1) - 1); (am_put (u55).2 r 3 ((u55).1), c33 0 4))))))
theorem rr_blockL {e P D s : am_F} {r : Nat} (h : RR e P D) (t : TpI e) (hD : s 0 0 = D 3 0 ∧ s 0 1 = D 3 1) (hr : r ≠ 0 ∧ r ≠ 1 ∧ r ≠ 3) : RR e (c_readBlock e s P) (mBlk D r).1 ∧ LX r D (mBlk D r).1 ∧ ((mBlk D r).1 0 5 = 0 → D 0 5 = 0 ∧ (c_readBlock e s P 0 7 = (mBlk D r).1 r 0 ∧ c_readBlock e s P 0 8 = (mBlk D r).1 r 1 ∧ c_readBlock e s P 0 9 = (mBlk D r).1 r 2 ∧ c_readBlock e s P 0 10 = (mBlk D r).1 r 3) ∧ ((0 ≤ (mBlk D r).1 r 0 ∧ (mBlk D r).1 r 0 ≤ (mBlk D r).1 r 2 ∧ (mBlk D r).1 r 2 < D 3 0) ∧ 0 ≤ (mBlk D r).1 r 1 ∧ (mBlk D r).1 r 1 ≤ (mBlk D r).1 r 3 ∧ (mBlk D r).1 r 3 < D 3 1) ∧ c_readBlock e s P 0 3 = (mBlk D r).2) := by
  obtain ⟨r0, r1, r3⟩ := hr
  unfold c_readBlock mBlk k_acrossHere k_downHere
  dsimp only
  rw [hD.1, hD.2]
  obtain ⟨a0, b0, c0⟩ := rr_num2 (lo := 0) (lo' := 0) (hi := D 3 0 - 1) (hi' := D 3 0 - 1) h t (fun _ => rfl) rfl
  generalize c_number e P 0 (D 3 0 - 1) = u0 at *
  generalize k_number D 0 (D 3 0 - 1) = v0 at *
  have A0 := rr_fld (j := 7) (v := u0.1) (rr_row (r := r) (i := 0) (v := v0.1) a0 ⟨r0, r1⟩) (by decide)
  have l0 := LX_t (LX_x (r := r) b0) (LX_p (i := 0) (v := v0.1) r0)
  have p7 : am_put u0.2 0 7 u0.1 0 7 = u0.1 := am_put_s
  have m0 : am_put v0.2 r 0 v0.1 r 0 = v0.1 := am_put_s
  have z0 : am_put v0.2 r 0 v0.1 0 5 = v0.2 0 5 := am_put_k (fun e => r0 e.symm)
  generalize am_put u0.2 0 7 u0.1 = P1 at *
  generalize am_put v0.2 r 0 v0.1 = D1 at *
  rw [show D1 3 1 = D 3 1 from congrFun (l0.1 3 (by decide) (fun e => r3 e.symm)) 1]
  obtain ⟨a1, b1, c1⟩ := rr_num2 (lo := 0) (lo' := 0) (hi := D 3 1 - 1) (hi' := D 3 1 - 1) A0 t (fun _ => rfl) rfl
  have k1 : ∀ j : Nat, j ≤ 1 ∨ 6 ≤ j → (c_number e P1 0 (D 3 1 - 1)).2 0 j = P1 0 j := fun j hj => rr_keep A0.2.2.2.2.2.1 t hj
  generalize c_number e P1 0 (D 3 1 - 1) = u1 at *
  generalize k_number D1 0 (D 3 1 - 1) = v1 at *
  rw [k1 7 (by decide), p7, show v1.2 r 0 = v0.1 from (congrFun (b1.1 r r0) 0).trans m0, show v1.2 3 0 = D 3 0 from (congrFun (b1.1 3 (by decide)) 0).trans (congrFun (l0.1 3 (by decide) (fun e => r3 e.symm)) 0)]
  have A1 := rr_fld (j := 8) (v := u1.1) (rr_row (r := r) (i := 1) (v := v1.1) a1 ⟨r0, r1⟩) (by decide)
  have l1 := LX_t l0 (LX_t (LX_x (r := r) b1) (LX_p (i := 1) (v := v1.1) r0))
  have q7 : am_put u1.2 0 8 u1.1 0 7 = u0.1 := (am_put_i (by decide)).trans ((k1 7 (by decide)).trans p7)
  have q8 : am_put u1.2 0 8 u1.1 0 8 = u1.1 := am_put_s
  have n0 : am_put v1.2 r 1 v1.1 r 0 = v0.1 := (am_put_i (by decide)).trans ((congrFun (b1.1 r r0) 0).trans m0)
  have n1 : am_put v1.2 r 1 v1.1 r 1 = v1.1 := am_put_s
  have z1 : am_put v1.2 r 1 v1.1 0 5 = v1.2 0 5 := am_put_k (fun e => r0 e.symm)
  generalize am_put u1.2 0 8 u1.1 = P2 at *
  generalize am_put v1.2 r 1 v1.1 = D2 at *
  obtain ⟨a2, b2, c2⟩ := rr_num2 (lo := v0.1) (lo' := u0.1) (hi := D 3 0 - 1) (hi' := D 3 0 - 1) A1 t (fun g => (c0 (z0.symm.trans (c1 (z1.symm.trans g)).1)).2.1) rfl
  have k2 : ∀ j : Nat, j ≤ 1 ∨ 6 ≤ j → (c_number e P2 u0.1 (D 3 0 - 1)).2 0 j = P2 0 j := fun j hj => rr_keep A1.2.2.2.2.2.1 t hj
  generalize c_number e P2 u0.1 (D 3 0 - 1) = u2 at *
  generalize k_number D2 v0.1 (D 3 0 - 1) = v2 at *
  rw [k2 8 (by decide), q8]
  have A2 := rr_fld (j := 9) (v := u2.1) (rr_row (r := r) (i := 2) (v := v2.1) a2 ⟨r0, r1⟩) (by decide)
  have l2 := LX_t l1 (LX_t (LX_x (r := r) b2) (LX_p (i := 2) (v := v2.1) r0))
  have s7 : am_put u2.2 0 9 u2.1 0 7 = u0.1 := (am_put_i (by decide)).trans ((k2 7 (by decide)).trans q7)
  have s8 : am_put u2.2 0 9 u2.1 0 8 = u1.1 := (am_put_i (by decide)).trans ((k2 8 (by decide)).trans q8)
  have s9 : am_put u2.2 0 9 u2.1 0 9 = u2.1 := am_put_s
  have o0 : am_put v2.2 r 2 v2.1 r 0 = v0.1 := (am_put_i (by decide)).trans ((congrFun (b2.1 r r0) 0).trans n0)
  have o1 : am_put v2.2 r 2 v2.1 r 1 = v1.1 := (am_put_i (by decide)).trans ((congrFun (b2.1 r r0) 1).trans n1)
  have o2 : am_put v2.2 r 2 v2.1 r 2 = v2.1 := am_put_s
  have z2 : am_put v2.2 r 2 v2.1 0 5 = v2.2 0 5 := am_put_k (fun e => r0 e.symm)
  generalize am_put u2.2 0 9 u2.1 = P3 at *
  generalize am_put v2.2 r 2 v2.1 = D3 at *
  -- blanks: the class's number goes over them
  have hB : RdV (k_blanks D3) ∧ Lx D3 (k_blanks D3) := k_blanks_x A2.2.2.2.2.2.2
  have zB : k_blanks D3 0 5 = D3 0 5 := k_blanks_5
  have eN : ∀ lo hi, D3 0 5 = 0 → k_number (k_blanks D3) lo hi = k_number D3 lo hi := fun lo hi g => by
    unfold k_number
    dsimp only
    rw [if_pos (k_blanks_5.trans g), if_pos g, rr_bb2 A2.2.2.2.2.2.2]
  rw [show k_blanks D3 r 1 = v1.1 from (congrFun (hB.2.1 r r0) 1).trans o1, show k_blanks D3 3 1 = D 3 1 from (congrFun (hB.2.1 3 (by decide)) 1).trans (congrFun (l2.1 3 (by decide) (fun e => r3 e.symm)) 1)]
  have lB := LX_t l2 (LX_x (r := r) hB.2)
  have y0 : k_blanks D3 r 0 = v0.1 := (congrFun (hB.2.1 r r0) 0).trans o0
  have y1 : k_blanks D3 r 1 = v1.1 := (congrFun (hB.2.1 r r0) 1).trans o1
  have y2 : k_blanks D3 r 2 = v2.1 := (congrFun (hB.2.1 r r0) 2).trans o2
  have hbb : k_blanks (k_blanks D3) = k_blanks D3 := rr_bb2 A2.2.2.2.2.2.2
  -- the fourth number, on both sides
  have key : RR e (c_number e P3 u1.1 (D 3 1 - 1)).2 (k_number (k_blanks D3) v1.1 (D 3 1 - 1)).2 ∧ Lx (k_blanks D3) (k_number (k_blanks D3) v1.1 (D 3 1 - 1)).2 ∧ ((k_number (k_blanks D3) v1.1 (D 3 1 - 1)).2 0 5 = 0 → k_blanks D3 0 5 = 0 ∧ (c_number e P3 u1.1 (D 3 1 - 1)).1 = (k_number (k_blanks D3) v1.1 (D 3 1 - 1)).1 ∧ (v1.1 ≤ (k_number (k_blanks D3) v1.1 (D 3 1 - 1)).1 ∧ (k_number (k_blanks D3) v1.1 (D 3 1 - 1)).1 ≤ D 3 1 - 1) ∧ (c_number e P3 u1.1 (D 3 1 - 1)).2 0 3 = k_blanks D3 0 4) := by
    by_cases g : D3 0 5 = 0
    · obtain ⟨a3, b3, c3⟩ := rr_num2 (lo := v1.1) (lo' := u1.1) (hi := D 3 1 - 1) (hi' := D 3 1 - 1) A2 t (fun g => (c1 (z1.symm.trans (c2 (z2.symm.trans g)).1)).2.1) rfl
      have x9 := (k_number_x (lo := v1.1) (hi := D 3 1 - 1) hB.1).2.1
      rw [eN _ _ g] at x9 ⊢
      exact ⟨a3, x9, fun g5 => ⟨zB.trans g, (c3 g5).2⟩⟩
    · have g' : k_blanks D3 0 5 ≠ 0 := by rw [zB]; exact g
      have e1 : k_number (k_blanks D3) v1.1 (D 3 1 - 1) = (0, k_blanks D3) := if_neg g'
      rw [number_s (by rw [A2.1]; exact g), e1]
      exact ⟨rr_blF A2 g, Lx_r, fun g5 => absurd g5 g'⟩
  obtain ⟨a3, b3, c3⟩ := key
  have k3 : ∀ j : Nat, j ≤ 1 ∨ 6 ≤ j → (c_number e P3 u1.1 (D 3 1 - 1)).2 0 j = P3 0 j := fun j hj => rr_keep A2.2.2.2.2.2.1 t hj
  generalize c_number e P3 u1.1 (D 3 1 - 1) = u3 at *
  generalize k_number (k_blanks D3) v1.1 (D 3 1 - 1) = v3 at *
  have A3 := rr_fld (j := 10) (v := u3.1) (rr_row (r := r) (i := 3) (v := v3.1) a3 ⟨r0, r1⟩) (by decide)
  have l3 := LX_t lB (LX_t (LX_x (r := r) b3) (LX_p (i := 3) (v := v3.1) r0))
  refine ⟨A3, l3, fun g => ?_⟩
  have g3 := c3 ((am_put_k (fun e => r0 e.symm)).symm.trans g)
  have g2 := c2 (z2.symm.trans (zB.symm.trans g3.1))
  have g1 := c1 (z1.symm.trans g2.1)
  have g0 := c0 (z0.symm.trans g1.1)
  have w0 : am_put v3.2 r 3 v3.1 r 0 = v0.1 := (am_put_i (by decide)).trans ((congrFun (b3.1 r r0) 0).trans y0)
  have w1 : am_put v3.2 r 3 v3.1 r 1 = v1.1 := (am_put_i (by decide)).trans ((congrFun (b3.1 r r0) 1).trans y1)
  have w2 : am_put v3.2 r 3 v3.1 r 2 = v2.1 := (am_put_i (by decide)).trans ((congrFun (b3.1 r r0) 2).trans y2)
  have w3 : am_put v3.2 r 3 v3.1 r 3 = v3.1 := am_put_s
  rw [w0, w1, w2, w3]
  refine ⟨g0.1, ⟨?_, ?_, ?_, ?_⟩, ?_, ?_⟩
  · rw [am_put_i (by decide), k3 7 (by decide), s7]; exact g0.2.1
  · rw [am_put_i (by decide), k3 8 (by decide), s8]; exact g1.2.1
  · rw [am_put_i (by decide), k3 9 (by decide), s9]; exact g2.2.1
  · rw [am_put_s]; exact g3.2.1
  · have := g0.2.2.1; have := g1.2.2.1; have := g2.2.2.1; have := g3.2.2.1
    omega
  · rw [am_put_i (by decide)]; exact g3.2.2.2
/-- two blocks meet -/
def ovl (c : am_F) (r i : Nat) : Prop := (c r 0 ≤ c i 2 ∧ c i 0 ≤ c r 2) ∧ c r 1 ≤ c i 3 ∧ c i 1 ≤ c r 3
theorem rr_lotFold {X : am_F} {k here : Int} (h0 : X 0 5 = 0) (n : Nat) : (am_fold (g_k_lotHere_61 k here) 0 n X = X ∧ ∀ i : Int, 0 ≤ i → i < n → ¬ ovl X (89 + k.toNat) (89 + i.toNat)) ∨ (am_fold (g_k_lotHere_61 k here) 0 n X = k_wrong X 2 here ∧ ∃ i : Int, (0 ≤ i ∧ i < n) ∧ ovl X (89 + k.toNat) (89 + i.toNat)) := by
  have h9 := am_fold_inv (P := fun i (x : am_F) => (x = X ∧ ∀ j : Int, 0 ≤ j → j < i → ¬ ovl X (89 + k.toNat) (89 + j.toNat)) ∨ (x = k_wrong X 2 here ∧ ∃ j : Int, (0 ≤ j ∧ j < i) ∧ ovl X (89 + k.toNat) (89 + j.toNat))) (g := g_k_lotHere_61 k here) n 0 X (Or.inl ⟨rfl, fun j a1 a2 => by omega⟩) (fun i x a1 a2 hP => by
    rcases hP with ⟨p1, p2⟩ | ⟨p1, j, p2, p3⟩
    · subst p1
      unfold g_k_lotHere_61
      rw [if_pos h0]
      by_cases g : ovl x (89 + k.toNat) (89 + i.toNat)
      · obtain ⟨⟨g1, g2⟩, g3, g4⟩ := id g
        rw [if_neg (by omega), if_neg (by omega), if_neg (by omega), if_neg (by omega)]
        exact Or.inr ⟨rfl, i, ⟨a1, by omega⟩, g⟩
      · have hx : (if x (89 + i.toNat) 2 < x (89 + k.toNat) 0 then x else (if x (89 + k.toNat) 2 < x (89 + i.toNat) 0 then x else (if x (89 + i.toNat) 3 < x (89 + k.toNat) 1 then x else (if x (89 + k.toNat) 3 < x (89 + i.toNat) 1 then x else k_wrong x 2 here)))) = x := by
          by_cases b1 : x (89 + i.toNat) 2 < x (89 + k.toNat) 0
          · rw [if_pos b1]
          rw [if_neg b1]
          by_cases b2 : x (89 + k.toNat) 2 < x (89 + i.toNat) 0
          · rw [if_pos b2]
          rw [if_neg b2]
          by_cases b3 : x (89 + i.toNat) 3 < x (89 + k.toNat) 1
          · rw [if_pos b3]
          rw [if_neg b3]
          by_cases b4 : x (89 + k.toNat) 3 < x (89 + i.toNat) 1
          · rw [if_pos b4]
          exact absurd ⟨⟨by omega, by omega⟩, by omega, by omega⟩ g
        rw [hx]
        refine Or.inl ⟨rfl, fun j c1 c2 => ?_⟩
        by_cases e : j = i
        · rw [e]; exact g
        · exact p2 j c1 (by omega)
    · subst p1
      unfold g_k_lotHere_61
      rw [if_neg (k_wrong_5 (by decide))]
      exact Or.inr ⟨rfl, j, ⟨p2.1, by omega⟩, p3⟩)
  rw [show (0 : Int) + (n : Int) = (n : Int) by omega] at h9
  exact h9
theorem rr_owned {s p : am_F} : (c_blockIsOwned s p = 0 ∧ ∀ x y : Int, p 0 7 ≤ x → x ≤ p 0 9 → p 0 8 ≤ y → y ≤ p 0 10 → f_lotOn s (x + 10 * y) = -1) ∨ (c_blockIsOwned s p = 1 ∧ ∃ x y : Int, (p 0 7 ≤ x ∧ x ≤ p 0 9) ∧ (p 0 8 ≤ y ∧ y ≤ p 0 10) ∧ f_lotOn s (x + 10 * y) ≠ -1) := by
  have hi : ∀ y, (p_c_blockIsOwned_5 s p y = none ∧ ∀ x : Int, p 0 7 ≤ x → x ≤ p 0 9 → f_lotOn s (x + 10 * y) = -1) ∨ (p_c_blockIsOwned_5 s p y = some 1 ∧ ∃ x : Int, (p 0 7 ≤ x ∧ x ≤ p 0 9) ∧ f_lotOn s (x + 10 * y) ≠ -1) := fun y => by
    unfold p_c_blockIsOwned_5
    cases hf : am_find (p_c_blockIsOwned_18 s y) (p 0 7) (p 0 9 + 1 - p 0 7).toNat with
    | none =>
      refine Or.inl ⟨rfl, fun x a1 a2 => ?_⟩
      have h9 := (ti_find_none _ _).1 hf x a1 (by omega)
      have h8 : (if f_lotOn s (x + 10 * y) = -1 then none else some (1 : Int)) = none := h9
      by_cases g : f_lotOn s (x + 10 * y) = -1
      · exact g
      · rw [if_neg g] at h8; cases h8
    | some r =>
      obtain ⟨x, a1, a2, a3⟩ := am_find_spec _ _ hf
      have h8 : (if f_lotOn s (x + 10 * y) = -1 then none else some (1 : Int)) = some r := a3
      by_cases g : f_lotOn s (x + 10 * y) = -1
      · rw [if_pos g] at h8; cases h8
      · rw [if_neg g] at h8
        injection h8 with h8
        refine Or.inr ⟨?_, x, ⟨a1, by omega⟩, g⟩
        rw [← h8]; rfl
  unfold c_blockIsOwned
  cases hf : am_find (p_c_blockIsOwned_5 s p) (p 0 8) (p 0 10 + 1 - p 0 8).toNat with
  | none =>
    refine Or.inl ⟨rfl, fun x y a1 a2 a3 a4 => ?_⟩
    have h9 := (ti_find_none _ _).1 hf y a3 (by omega)
    rcases hi y with ⟨b1, b2⟩ | ⟨b1, b2⟩
    · exact b2 x a1 a2
    · rw [b1] at h9; cases h9
  | some r =>
    obtain ⟨y, a1, a2, a3⟩ := am_find_spec _ _ hf
    rcases hi y with ⟨b1, b2⟩ | ⟨b1, x, b2, b3⟩
    · rw [b1] at a3; cases a3
    · rw [b1] at a3
      injection a3 with a3
      exact Or.inr ⟨by rw [← a3]; rfl, x, y, b2, ⟨a1, by omega⟩, b3⟩
theorem rr_own {s p : am_F} (h7 : 0 ≤ p 0 7 ∧ p 0 7 ≤ p 0 9 ∧ p 0 9 < 9) (h8 : 0 ≤ p 0 8 ∧ p 0 8 ≤ p 0 10 ∧ p 0 10 < 9) : (∀ x y : Int, 0 ≤ x → x < 10 → 0 ≤ y → y < 9 → f_lotOn (c_ownBlock s p) (x + 10 * y) = if (p 0 7 ≤ x ∧ x ≤ p 0 9) ∧ p 0 8 ≤ y ∧ y ≤ p 0 10 then s 0 7 else f_lotOn s (x + 10 * y)) ∧ ∀ r, r ≠ 10 → c_ownBlock s p r = s r := by
  have h9 := am_fold_inv (P := fun i (z : am_F) => (∀ x y : Int, 0 ≤ x → x < 10 → 0 ≤ y → y < 9 → f_lotOn z (x + 10 * y) = if (p 0 7 ≤ x ∧ x ≤ p 0 9) ∧ p 0 8 ≤ y ∧ y < i then s 0 7 else f_lotOn s (x + 10 * y)) ∧ ∀ r, r ≠ 10 → z r = s r) (g := g_c_ownBlock_5 p) (p 0 10 + 1 - p 0 8).toNat (p 0 8) s ⟨fun x y a1 a2 a3 a4 => by rw [if_neg (by omega)], fun _ _ => rfl⟩ (fun i z b1 b2 hz => by
    obtain ⟨z1, z2⟩ := hz
    have h7' := am_fold_inv (P := fun j (w : am_F) => (∀ x y : Int, 0 ≤ x → x < 10 → 0 ≤ y → y < 9 → f_lotOn w (x + 10 * y) = if y = i ∧ p 0 7 ≤ x ∧ x < j then s 0 7 else f_lotOn z (x + 10 * y)) ∧ ∀ r, r ≠ 10 → w r = s r) (g := g_c_ownBlock_18 i) (p 0 9 + 1 - p 0 7).toNat (p 0 7) z ⟨fun x y a1 a2 a3 a4 => by rw [if_neg (by omega)], z2⟩ (fun j w d1 d2 hw => by
      obtain ⟨w1, w2⟩ := hw
      unfold g_c_ownBlock_18 c_giveToS
      rw [if_neg (by omega), if_neg (by omega), w2 0 (by decide)]
      refine ⟨fun x y a1 a2 a3 a4 => ?_, fun r hr => (am_put_kr hr).trans (w2 r hr)⟩
      have h0 := w1 x y a1 a2 a3 a4
      unfold f_lotOn at h0 ⊢
      rw [if_pos (by omega)] at h0 ⊢
      by_cases g : x = j ∧ y = i
      · rw [g.1, g.2, am_put_s, if_pos ⟨rfl, by omega, by omega⟩]
      · rw [am_put_i (by omega), h0]
        by_cases g2 : y = i ∧ p 0 7 ≤ x ∧ x < j
        · rw [if_pos g2, if_pos (show y = i ∧ p 0 7 ≤ x ∧ x < j + 1 by omega)]
        · rw [if_neg g2, if_neg (show ¬ (y = i ∧ p 0 7 ≤ x ∧ x < j + 1) by omega)])
    rw [show p 0 7 + ((p 0 9 + 1 - p 0 7).toNat : Nat) = p 0 9 + 1 by omega] at h7'
    refine ⟨fun x y a1 a2 a3 a4 => ?_, h7'.2⟩
    show f_lotOn (g_c_ownBlock_5 p i z) (x + 10 * y) = _
    unfold g_c_ownBlock_5
    rw [h7'.1 x y a1 a2 a3 a4, z1 x y a1 a2 a3 a4]
    by_cases g : y = i ∧ p 0 7 ≤ x ∧ x < p 0 9 + 1
    · rw [if_pos g, if_pos (by omega)]
    · rw [if_neg g]
      by_cases g2 : (p 0 7 ≤ x ∧ x ≤ p 0 9) ∧ p 0 8 ≤ y ∧ y < i
      · rw [if_pos g2, if_pos (by omega)]
      · rw [if_neg g2, if_neg (by omega)])
  rw [show p 0 8 + ((p 0 10 + 1 - p 0 8).toNat : Nat) = p 0 10 + 1 by omega] at h9
  refine ⟨fun x y a1 a2 a3 a4 => ?_, h9.2⟩
  have h0 := h9.1 x y a1 a2 a3 a4
  unfold c_ownBlock
  rw [h0]
  by_cases g : (p 0 7 ≤ x ∧ x ≤ p 0 9) ∧ p 0 8 ≤ y ∧ y ≤ p 0 10
  · rw [if_pos g, if_pos (by omega)]
  · rw [if_neg g, if_neg (by omega)]
