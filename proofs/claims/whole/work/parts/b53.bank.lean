/-! THE TIE: the clause of a bank of fog -/
theorem rr_blockF {e P D s : am_F} (h : RR e P D) (t : TpI e) (hD : s 0 0 = D 3 0 ∧ s 0 1 = D 3 1) : ∃ v0 v1 v2 v3 : Int × am_F, k_acrossHere D = v0 ∧ k_downHere v0.2 = v1 ∧ k_number v1.2 v0.1 (v1.2 3 0 - 1) = v2 ∧ k_number v2.2 v1.1 (v2.2 3 1 - 1) = v3 ∧ RR e (c_readBlock e s P) v3.2 ∧ Lx D v3.2 ∧ (v3.2 0 5 = 0 → D 0 5 = 0 ∧ (c_readBlock e s P 0 7 = v0.1 ∧ c_readBlock e s P 0 8 = v1.1 ∧ c_readBlock e s P 0 9 = v2.1 ∧ c_readBlock e s P 0 10 = v3.1) ∧ (0 ≤ v0.1 ∧ v0.1 ≤ v2.1 ∧ v2.1 < D 3 0) ∧ 0 ≤ v1.1 ∧ v1.1 ≤ v3.1 ∧ v3.1 < D 3 1) := by
  refine ⟨_, _, _, _, rfl, rfl, rfl, rfl, ?_⟩
  unfold c_readBlock k_acrossHere k_downHere
  dsimp only
  rw [hD.1, hD.2]
  obtain ⟨a0, b0, c0⟩ := rr_num2 (lo := 0) (lo' := 0) (hi := D 3 0 - 1) (hi' := D 3 0 - 1) h t (fun _ => rfl) rfl
  generalize c_number e P 0 (D 3 0 - 1) = u0 at *
  generalize k_number D 0 (D 3 0 - 1) = v0 at *
  have A0 := rr_fld (j := 7) (v := u0.1) a0 (by decide)
  have p7 : am_put u0.2 0 7 u0.1 0 7 = u0.1 := am_put_s
  generalize am_put u0.2 0 7 u0.1 = P1 at *
  rw [show v0.2 3 1 = D 3 1 from congrFun (b0.1 3 (by decide)) 1]
  obtain ⟨a1, b1, c1⟩ := rr_num2 (lo := 0) (lo' := 0) (hi := D 3 1 - 1) (hi' := D 3 1 - 1) A0 t (fun _ => rfl) rfl
  have k1 : ∀ j : Nat, j ≤ 1 ∨ 6 ≤ j → (c_number e P1 0 (D 3 1 - 1)).2 0 j = P1 0 j := fun j hj => rr_keep A0.2.2.2.2.2.1 t hj
  have l1 := Lx_t b0 b1
  generalize c_number e P1 0 (D 3 1 - 1) = u1 at *
  generalize k_number v0.2 0 (D 3 1 - 1) = v1 at *
  rw [k1 7 (by decide), p7, show v1.2 3 0 = D 3 0 from congrFun (l1.1 3 (by decide)) 0]
  have A1 := rr_fld (j := 8) (v := u1.1) a1 (by decide)
  have q7 : am_put u1.2 0 8 u1.1 0 7 = u0.1 := (am_put_i (by decide)).trans ((k1 7 (by decide)).trans p7)
  have q8 : am_put u1.2 0 8 u1.1 0 8 = u1.1 := am_put_s
  generalize am_put u1.2 0 8 u1.1 = P2 at *
  obtain ⟨a2, b2, c2⟩ := rr_num2 (lo := v0.1) (lo' := u0.1) (hi := D 3 0 - 1) (hi' := D 3 0 - 1) A1 t (fun g => (c0 (c1 g).1).2.1) rfl
  have k2 : ∀ j : Nat, j ≤ 1 ∨ 6 ≤ j → (c_number e P2 u0.1 (D 3 0 - 1)).2 0 j = P2 0 j := fun j hj => rr_keep A1.2.2.2.2.2.1 t hj
  have l2 := Lx_t l1 b2
  generalize c_number e P2 u0.1 (D 3 0 - 1) = u2 at *
  generalize k_number v1.2 v0.1 (D 3 0 - 1) = v2 at *
  rw [k2 8 (by decide), q8, show v2.2 3 1 = D 3 1 from congrFun (l2.1 3 (by decide)) 1]
  have A2 := rr_fld (j := 9) (v := u2.1) a2 (by decide)
  have s7 : am_put u2.2 0 9 u2.1 0 7 = u0.1 := (am_put_i (by decide)).trans ((k2 7 (by decide)).trans q7)
  have s8 : am_put u2.2 0 9 u2.1 0 8 = u1.1 := (am_put_i (by decide)).trans ((k2 8 (by decide)).trans q8)
  have s9 : am_put u2.2 0 9 u2.1 0 9 = u2.1 := am_put_s
  generalize am_put u2.2 0 9 u2.1 = P3 at *
  obtain ⟨a3, b3, c3⟩ := rr_num2 (lo := v1.1) (lo' := u1.1) (hi := D 3 1 - 1) (hi' := D 3 1 - 1) A2 t (fun g => (c1 (c2 g).1).2.1) rfl
  have k3 : ∀ j : Nat, j ≤ 1 ∨ 6 ≤ j → (c_number e P3 u1.1 (D 3 1 - 1)).2 0 j = P3 0 j := fun j hj => rr_keep A2.2.2.2.2.2.1 t hj
  have l3 := Lx_t l2 b3
  generalize c_number e P3 u1.1 (D 3 1 - 1) = u3 at *
  generalize k_number v2.2 v1.1 (D 3 1 - 1) = v3 at *
  refine ⟨rr_fld (j := 10) (v := u3.1) a3 (by decide), l3, fun g => ?_⟩
  have g3 := c3 g
  have g2 := c2 g3.1
  have g1 := c1 g2.1
  have g0 := c0 g1.1
  refine ⟨g0.1, ⟨?_, ?_, ?_, ?_⟩, ?_⟩
  · rw [am_put_i (by decide), k3 7 (by decide), s7]; exact g0.2.1
  · rw [am_put_i (by decide), k3 8 (by decide), s8]; exact g1.2.1
  · rw [am_put_i (by decide), k3 9 (by decide), s9]; exact g2.2.1
  · rw [am_put_s]; exact g3.2.1
  · have := g0.2.2.1; have := g1.2.2.1; have := g2.2.2.1; have := g3.2.2.1
    omega
/-- the fog of both sides while a bank is laid -/
def BkR (s0 c0 s c : am_F) : Prop := (∀ r, r ≠ 11 → s r = s0 r) ∧ (∀ k, k ≠ 5 → c k = c0 k) ∧ (∀ j, 0 ≤ s 11 j ∧ s 11 j ≤ 99) ∧ PF s c
theorem BkR_put {s0 c0 s c : am_F} {x y mo : Int} (hR : BkR s0 c0 s c) (hW : s0 0 0 ≤ 9) (hx : 0 ≤ x ∧ x < s0 0 0) (hy : 0 ≤ y ∧ y < s0 0 1 ∧ y < 9) (hm : 1 ≤ mo ∧ mo ≤ 99) : BkR s0 c0 (g_c_readBank_37 mo y x s) (g_k_fogHere_68 y mo x c) := by
  obtain ⟨h1, h2, h3, h4, h5, h6⟩ := hR
  have e0 : s 0 = s0 0 := h1 0 (by decide)
  have hh : f_has s x y = 1 := by
    unfold f_has
    rw [e0, if_pos ⟨hx.1, hx.2, hy.1, hy.2.1⟩]
  have hv := h4 x y hx.1 (by omega) hy.1 hy.2.2
  have hb := h3 (x + 10 * y).toNat
  have e1 : g_c_readBank_37 mo y x s = am_put s 11 (x + 10 * y).toNat (if s 11 (x + 10 * y).toNat + mo < 99 then s 11 (x + 10 * y).toNat + mo else 99) := if_neg (by rw [hh]; decide)
  have e2 : g_k_fogHere_68 y mo x c = am_put c 5 (x + 9 * y).toNat (if s 11 (x + 10 * y).toNat + mo < 99 then s 11 (x + 10 * y).toNat + mo else 99) := by
    unfold g_k_fogHere_68
    rw [← hv, ti_w (x := s 11 (x + 10 * y).toNat + mo) ⟨by omega, by omega⟩, ti_less]
  rw [e1, e2]
  have hV : 0 ≤ (if s 11 (x + 10 * y).toNat + mo < 99 then s 11 (x + 10 * y).toNat + mo else 99) ∧ (if s 11 (x + 10 * y).toNat + mo < 99 then s 11 (x + 10 * y).toNat + mo else 99) ≤ 99 := by split <;> omega
  generalize (if s 11 (x + 10 * y).toNat + mo < 99 then s 11 (x + 10 * y).toNat + mo else 99) = V at *
  refine ⟨fun r hr => (am_put_kr hr).trans (h1 r hr), fun k hk => (am_put_kr hk).trans (h2 k hk), fun j => ?_, fun x' y' a1 a2 a3 a4 => ?_, fun y' a1 a2 => ?_, fun x' y' a1 a2 a3 a4 a5 => ?_⟩
  · by_cases g : j = (x + 10 * y).toNat
    · rw [g, am_put_s]; exact hV
    · rw [am_put_i g]; exact h3 j
  · by_cases g : x' = x ∧ y' = y
    · rw [g.1, g.2, am_put_s, am_put_s]
    · rw [am_put_i (by omega), am_put_i (by omega)]
      exact h4 x' y' a1 a2 a3 a4
  · rw [am_put_i (by omega)]; exact h5 y' a1 a2
  · have e3 : am_put s 11 (x + 10 * y).toNat V 0 = s 0 := am_put_kr (by decide)
    rw [e3, e0] at a5
    rw [am_put_i (by omega)]
    exact h6 x' y' a1 a2 a3 a4 (by rw [e0]; exact a5)
theorem cl_fog {e P D s : am_F} (h : RR e P D) (t : TpI e) (hR : HR s D) (hS : SpI s) : ∃ D', k_clause_406 D = k_sign D' 59 ∧ RR e (c_readBank e s P).2 D' ∧ (D' 0 5 = 0 → HR (c_readBank e s P).1 D') ∧ KD D D' := by
  have hD := hR.1
  have hF := hR.2.2.2.2.2.2.2.2.2
  have dm := hD.2.1
  obtain ⟨v0, v1, v2, v3, e0, e1, e2, e3, A, LA, cA⟩ := rr_blockF h t hD.1
  refine ⟨k_fogHere D, rfl, ?_⟩
  unfold c_readBank k_fogHere
  dsimp only
  rw [e0, e1, e2, e3]
  generalize c_readBlock e s P = B at *
  obtain ⟨a0, b0, c0⟩ := rr_num2 (lo := 1) (lo' := 1) (hi := 99) (hi' := 99) A t (fun _ => rfl) rfl
  have k0 : ∀ j : Nat, j ≤ 1 ∨ 6 ≤ j → (c_number e B 1 99).2 0 j = B 0 j := fun j hj => rr_keep A.2.2.2.2.2.1 t hj
  have l0 := Lx_t LA b0
  generalize c_number e B 1 99 = u at *
  generalize k_number v3.2 1 99 = v at *
  by_cases g5 : v.2 0 5 = 0
  · obtain ⟨q1, q2, q3, -⟩ := c0 g5
    obtain ⟨q4, ⟨f7, f8, f9, f10⟩, x1, x2⟩ := cA q1
    have hst : BkR s v.2 s v.2 := by
      refine ⟨fun _ _ => rfl, fun _ _ => rfl, hS.1.2.2.2.2.1, ?_⟩
      obtain ⟨p1, p2, p3⟩ := hF
      exact ⟨fun x y c1 c2 c3 c4 => by rw [l0.1 5 (by decide)]; exact p1 x y c1 c2 c3 c4, p2, p3⟩
    have hs0 := hD.1
    rw [q2]
    have h9 := rr_wh (R := fun (X : Int × am_F) (Y : Int × am_F) => X.1 = Y.1 ∧ v1.1 ≤ X.1 ∧ BkR s v.2 X.2 Y.2) (f := w_c_readBank_17 u.2 v.1) (g := w_k_fogHere_51 v.1 v0.1 v2.1 v3.1) (fun X Y hXY => by
      obtain ⟨y, S⟩ := X
      obtain ⟨y', C⟩ := Y
      obtain ⟨r1, r2, r3⟩ := hXY
      dsimp only at r1 r2 r3
      subst r1
      unfold w_c_readBank_17 w_k_fogHere_51
      dsimp only
      rw [k0 10 (by decide), f10]
      by_cases g : v3.1 < y
      · rw [if_pos g, if_pos g]
        exact Or.inr ⟨_, _, rfl, rfl, rfl, r2, r3⟩
      · rw [if_neg g, if_neg g, if_neg (by rw [rr_fine a0 g5]; decide), if_pos (by rw [r3.2.1 0 (by decide)]; exact g5), k0 7 (by decide), k0 9 (by decide), f7, f9]
        refine Or.inl ⟨_, _, rfl, rfl, rfl, by dsimp only; omega, ?_⟩
        dsimp only
        refine ti_rel0 (R := fun (S C : am_F) => BkR s v.2 S C) _ _ _ _ r3 fun x S C c1 c2 hSC => ?_
        exact BkR_put hSC (by omega) (by omega) (by omega) q3) 10 (v1.1, s) (v1.1, v.2) ⟨rfl, Int.le_refl _, hst⟩
    rw [k0 8 (by decide), f8]
    generalize am_wh (w_c_readBank_17 u.2 v.1) 10 (v1.1, s) = X at *
    generalize am_wh (w_k_fogHere_51 v.1 v0.1 v2.1 v3.1) 10 (v1.1, v.2) = Y at *
    obtain ⟨-, -, r1, r2, r3, r4⟩ := h9
    have hY : ∀ k, k ≠ 0 → k ≠ 5 → Y.2 k = D k := fun k k0 k5 => (r2 k k5).trans (l0.1 k k0)
    refine ⟨rr_c a0 (r2 1 (by decide)) (fun j _ => congrFun (r2 0 (by decide)) j), fun _ => ?_, ⟨fun k k0 hk => hY k k0 (fun e => hk (by unfold rdw; omega)), fun j j4 j5 j6 _ _ => (congrFun (r2 0 (by decide)) j).trans (l0.2 j j4 j5 j6)⟩⟩
    exact HR_PF hR (fun r _ hr => r1 r hr) (fun j _ => congrFun (r1 0 (by decide)) j) hY (fun j hj => (congrFun (r2 0 (by decide)) j).trans (l0.2 j (by omega) (by omega) (by omega))) r4
  · have w : (am_wh (w_k_fogHere_51 v.1 v0.1 v2.1 v3.1) 10 (v1.1, v.2)).2 = v.2 := by
      have hw : ∃ j, w_k_fogHere_51 v.1 v0.1 v2.1 v3.1 (v1.1, v.2) = .inr (j, v.2) := by
        unfold w_k_fogHere_51
        dsimp only
        by_cases g : v3.1 < v1.1
        · exact ⟨_, if_pos g⟩
        · exact ⟨_, (if_neg g).trans (if_neg g5)⟩
      obtain ⟨j, hw⟩ := hw
      rw [show (10 : Nat) = 9 + 1 from rfl, am_wh_r hw]
    rw [w]
    exact ⟨a0, fun g => absurd g g5, KD_L l0⟩
