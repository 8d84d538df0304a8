/-! THE TIE: how a step begins; its draw -/
theorem ti_and7 (y : Int) : 0 ≤ am_iand y 7 ∧ am_iand y 7 ≤ 7 := by
  have e : am_iand y 7 = ((Int32.ofInt y).toBitVec &&& 7#32).toInt := rfl
  have e1 : ((Int32.ofInt y).toBitVec &&& 7#32).toNat = (Int32.ofInt y).toBitVec.toNat % 8 := by
    rw [BitVec.toNat_and]
    exact Nat.and_two_pow_sub_one_eq_mod _ 3
  have e2 : ((Int32.ofInt y).toBitVec &&& 7#32).toInt = (((Int32.ofInt y).toBitVec &&& 7#32).toNat : Int) := BitVec.toInt_eq_toNat_of_lt (by rw [e1]; omega)
  rw [e, e2, e1]
  omega
theorem ti_shr16 (w : BitVec 32) : (w >>> 16) &&& 7#32 = (w.sshiftRight 16) &&& 7#32 := by
  apply BitVec.eq_of_getLsbD_eq
  intro i hi
  rw [BitVec.getLsbD_and, BitVec.getLsbD_and]
  by_cases h : i < 3
  · have h3 : i = 0 ∨ i = 1 ∨ i = 2 := by omega
    rw [BitVec.getLsbD_ushiftRight, BitVec.getLsbD_sshiftRight]
    rcases h3 with rfl | rfl | rfl <;> simp
  · have h7 : (7#32).getLsbD i = false := by
      have : ∀ i : Nat, i < 32 → ¬ i < 3 → (7#32).getLsbD i = false := by decide
      exact this i hi h
    rw [h7, Bool.and_false, Bool.and_false]
theorem ti_draw (x : Int) : am_iand (am_iushr x 16) 7 = am_iand (am_ishr x 16) 7 := by
  unfold am_iand am_iushr am_ishr
  rw [Int32.ofInt_toInt, Int32.ofInt_toInt]
  have e1 : ((Int32.ofInt x).toUInt32 >>> ((Int32.ofInt 16).toUInt32 &&& Int32.toUInt32 31)).toInt32 = Int32.ofBitVec ((Int32.ofInt x).toBitVec >>> 16) := rfl
  have e2 : (Int32.ofInt x >>> (Int32.ofInt 16 &&& 31)) = Int32.ofBitVec ((Int32.ofInt x).toBitVec.sshiftRight 16) := rfl
  rw [e1, e2]
  exact congrArg Int32.toInt (congrArg Int32.ofBitVec (ti_shr16 _))
def TD (c r q : am_F) : Prop := (c 0 61 = -1 ∧ r 0 3 ≤ 0) ∨ (c 0 61 ≠ -1 ∧ r 0 3 = c 0 61 ∧ r 0 2 = q 0 60)
theorem ti_drawn {c r q : am_F} (h : TD c r q) (s : Int) : f_draws (f_go0 r s) = ti_tn c q := by
  unfold f_draws ti_tn
  rw [(f_go0_k r s).2, ti_draw]
  rcases h with ⟨h1, h2⟩ | ⟨h1, h2, h3⟩
  · rw [if_pos h1]
    have := ti_and7 (am_ishr (f_seed (r 0 2)) 16)
    rw [if_neg (by omega)]
  · rw [if_neg h1, h2, h3]
    show (if am_iand (am_ishr (am_w32 (am_w32 (q 0 60 * 1103515245) + 12345)) 16) 7 < c 0 61 then (1 : Int) else 0) = _
    by_cases g : am_iand (am_ishr (am_w32 (am_w32 (q 0 60 * 1103515245) + 12345)) 16) 7 < c 0 61
    · rw [if_pos g, if_neg (by omega)]
    · rw [if_neg g, if_pos (by omega)]
def TSo (L p : Int) (r q : am_F) : Prop := T3 p r q ∧ T4 p r q ∧ T5 p r q ∧ T7 L p r q ∧ T8 L r q ∧ T9 r q
/-- the class's sums as a step begins -/
theorem ti_go1 {r : am_F} {s : Int} (hs : 0 ≤ s ∧ s < 40) : (∀ j : Nat, j < ((s + 1) * 90).toNat → f_go1 r s 1 j = r 1 j) ∧ (∀ j : Nat, j < 90 → f_go1 r s 1 (((s + 1) * 90).toNat + j) = r 1 ((s * 90).toNat + j)) ∧ f_go1 r s 2 = r 2 ∧ (f_go1 r s 3 (s + 1).toNat = r 3 s.toNat ∧ f_go1 r s 4 (s + 1).toNat = r 4 s.toNat ∧ f_go1 r s 5 (s + 1).toNat = r 5 s.toNat ∧ f_go1 r s 6 (s + 1).toNat = 0) ∧ (f_go1 r s 8 = r 8 ∧ f_go1 r s 9 = r 9) ∧ ∀ l : Int, 0 ≤ l → l < 7 → f_go1 r s 7 (l * 41 + s + 1).toNat = r 7 (l * 41 + s).toNat := by
  have hq := am_fold_inv (P := fun (i : Int) (x : am_F) => (∀ k, k ≠ 7 → x k = f_gob r s k) ∧ ∀ l : Int, 0 ≤ l → l < 7 → x 7 (l * 41 + s).toNat = r 7 (l * 41 + s).toNat ∧ (l < i → x 7 (l * 41 + s + 1).toNat = r 7 (l * 41 + s).toNat)) (g := g_led s) 7 0 (f_gob r s) ⟨fun _ _ => rfl, fun l h1 h2 => ⟨rfl, fun h => by omega⟩⟩ (fun i x h1 h2 hP => by
    unfold g_led
    refine ⟨fun k hk => (am_put_kr hk).trans (hP.1 k hk), fun l a1 a2 => ⟨?_, fun a3 => ?_⟩⟩
    · rw [am_put_i (by omega)]
      exact (hP.2 l a1 a2).1
    · by_cases e : l = i
      · rw [← e, am_put_s]
        exact (hP.2 l a1 a2).1
      · rw [am_put_i (by omega)]
        exact (hP.2 l a1 a2).2 (by omega))
  have hk : ∀ k, k ≠ 7 → k ≠ 0 → f_go1 r s k = f_gob r s k := fun k h1 h0 => (am_put_kr h0).trans (hq.1 k h1)
  have h7 : f_go1 r s 7 = f_go0 r s 7 := am_put_kr (by decide)
  have e1 : f_go1 r s 1 = am_cpy (r 1) (r 1) (s * 90).toNat ((s + 1) * 90).toNat 90 := (f_go0_k r s).1
  refine ⟨fun j hj => ?_, fun j hj => ?_, ?_, ⟨?_, ?_, ?_, ?_⟩, ⟨?_, ?_⟩, fun l a1 a2 => ?_⟩
  · rw [e1]; unfold am_cpy; rw [if_neg (by omega)]
  · rw [e1]; unfold am_cpy; rw [if_pos (by omega)]; congr 1; omega
  · rw [hk 2 (by decide) (by decide)]; rfl
  · rw [hk 3 (by decide) (by decide)]; unfold f_gob; simp (disch := omega) only [am_put_k, am_put_s]
  · rw [hk 4 (by decide) (by decide)]; unfold f_gob; simp (disch := omega) only [am_put_k, am_put_s]
  · rw [hk 5 (by decide) (by decide)]; unfold f_gob; simp (disch := omega) only [am_put_k, am_put_s]
  · rw [hk 6 (by decide) (by decide)]; unfold f_gob; rw [am_put_s]
  · rw [hk 8 (by decide) (by decide)]; rfl
  · rw [hk 9 (by decide) (by decide)]; rfl
  · rw [h7]
    exact (hq.2 l a1 a2).2 (by omega)
def ti_s2 (c q : am_F) (t : Int) : am_F := am_fold (g_k_stepGoes_33 t) 0 (c 0 45).toNat (am_fold (g_k_stepGoes_2 t) 1 3 q)
theorem ti_s2_k {c q : am_F} {t : Int} (ht : 0 ≤ t ∧ t < 40) (hL : c 0 45 ≤ 7) : (∀ k, k ≠ 201 + (t + 1).toNat → (k < 243 ∨ 250 ≤ k) → ti_s2 c q t k = q k) ∧ (∀ i : Nat, 1 ≤ i → i < 4 → ti_s2 c q t (201 + (t + 1).toNat) i = q (201 + t.toNat) i) ∧ ∀ l : Int, 0 ≤ l → l < c 0 45 → ti_s2 c q t (243 + l.toNat) (t + 1).toNat = q (243 + l.toNat) t.toNat := by
  have h1 : ∀ k, k ≠ 201 + (t + 1).toNat → am_fold (g_k_stepGoes_2 t) 1 3 q k = q k := fun k hk =>
    ti_inv0 (P := fun x => x k = q k) (f := g_k_stepGoes_2 t) 3 1 q rfl (fun j x _ _ h => (am_put_kr hk).trans h)
  have h2 : ∀ i : Nat, 1 ≤ i → i < 4 → am_fold (g_k_stepGoes_2 t) 1 3 q (201 + (t + 1).toNat) i = q (201 + t.toNat) i := by
    intro i a1 a2
    have h := am_fold_inv (P := fun j x => x (201 + t.toNat) = q (201 + t.toNat) ∧ ∀ i : Nat, 1 ≤ i → (i : Int) < j → x (201 + (t + 1).toNat) i = q (201 + t.toNat) i) (g := g_k_stepGoes_2 t) 3 1 q ⟨rfl, fun i b1 b2 => by omega⟩ (fun j x b1 b2 hP => by
      unfold g_k_stepGoes_2
      refine ⟨(am_put_kr (by omega)).trans hP.1, fun i c1 c2 => ?_⟩
      by_cases e : i = j.toNat
      · rw [e, am_put_s, hP.1]
      · rw [am_put_i e]
        exact hP.2 i c1 (by omega))
    exact h.2 i a1 (by omega)
  have h3 := am_fold_inv (P := fun j x => (∀ k, (k < 243 ∨ 250 ≤ k) → x k = am_fold (g_k_stepGoes_2 t) 1 3 q k) ∧ ∀ l : Int, 0 ≤ l → l < c 0 45 → x (243 + l.toNat) t.toNat = q (243 + l.toNat) t.toNat ∧ (l < j → x (243 + l.toNat) (t + 1).toNat = q (243 + l.toNat) t.toNat)) (g := g_k_stepGoes_33 t) (c 0 45).toNat 0 (am_fold (g_k_stepGoes_2 t) 1 3 q) ⟨fun _ _ => rfl, fun l a1 a2 => ⟨by rw [h1 _ (by omega)], fun a3 => by omega⟩⟩ (fun j x b1 b2 hP => by
    unfold g_k_stepGoes_33
    refine ⟨fun k hk => (am_put_kr (by omega)).trans (hP.1 k hk), fun l a1 a2 => ⟨?_, fun a3 => ?_⟩⟩
    · by_cases e : l = j
      · rw [e, am_put_i (by omega), ← e]
        exact (hP.2 l a1 a2).1
      · rw [am_put_k (by omega)]
        exact (hP.2 l a1 a2).1
    · by_cases e : l = j
      · rw [← e, am_put_s]
        exact (hP.2 l a1 a2).1
      · rw [am_put_k (by omega)]
        exact (hP.2 l a1 a2).2 (by omega))
  refine ⟨fun k hk hk2 => (h3.1 k hk2).trans (h1 k hk), fun i a1 a2 => (congrFun (h3.1 _ (by omega)) i).trans (h2 i a1 a2), fun l a1 a2 => (h3.2 l a1 a2).2 (by omega)⟩
theorem ti_q20_k {c q : am_F} {t : Int} {k : Nat} (h0 : k ≠ 0) (h7 : k ≠ 267) : ti_q20 c q t k = q k := by
  unfold ti_q20
  split
  · exact am_put_kr h7
  · exact (am_put_kr h0).trans (am_put_kr h7)
theorem ti_q20_7 {c q : am_F} {t : Int} : ti_q20 c q t 267 t.toNat = 0 := by
  unfold ti_q20
  split
  · exact am_put_s
  · rw [am_put_k (by decide), am_put_s]
theorem ti_begins {b : Prop} {c r q : am_F} {s : Int} (hs : 0 ≤ s ∧ s < 40) (hL : c 0 45 ≤ 7) (hF : TF 265 s r q) (hS : b → TSo (c 0 45) s r q) : TF 265 s (f_go1 r s) (ti_q20 c (ti_s2 c q s) s) ∧ TF 265 (s + 1) (f_go1 r s) (ti_q20 c (ti_s2 c q s) s) ∧ (b → TS (c 0 45) (s + 1) (f_go1 r s) (ti_q20 c (ti_s2 c q s) s)) := by
  obtain ⟨a1, a2, a3, a4, a5, a6⟩ := ti_go1 (r := r) hs
  obtain ⟨b1, b2, b3⟩ := ti_s2_k (q := q) hs hL
  have e5 : ti_q20 c (ti_s2 c q s) s 265 = q 265 := (ti_q20_k (by decide) (by decide)).trans (b1 265 (by omega) (by omega))
  refine ⟨⟨fun x y h1 h2 h3 h4 => ?_, fun y h3 h4 => ?_⟩, ⟨fun x y h1 h2 h3 h4 => ?_, fun y h3 h4 => ?_⟩, fun hb => ?_⟩
  · rw [e5, a1 _ (by omega)]; exact hF.1 x y h1 h2 h3 h4
  · rw [a1 _ (by omega)]; exact hF.2 y h3 h4
  · have := a2 (x + 10 * y).toNat (by omega)
    rw [show ((s + 1) * 90).toNat + (x + 10 * y).toNat = ((s + 1) * 90 + (x + 10 * y)).toNat by omega, show (s * 90).toNat + (x + 10 * y).toNat = (s * 90 + (x + 10 * y)).toNat by omega] at this
    rw [e5, this]; exact hF.1 x y h1 h2 h3 h4
  · have := a2 (9 + 10 * y).toNat (by omega)
    rw [show ((s + 1) * 90).toNat + (9 + 10 * y).toNat = ((s + 1) * 90 + (9 + 10 * y)).toNat by omega, show (s * 90).toNat + (9 + 10 * y).toNat = (s * 90 + (9 + 10 * y)).toNat by omega] at this
    rw [this]; exact hF.2 y h3 h4
  · obtain ⟨t3, t4, t5, t7, t8, t9⟩ := hS hb
    refine ⟨?_, ?_, ?_, ?_, ?_, ?_, ?_⟩
    · unfold T3; rw [a4.1, ti_q20_k (by omega) (by omega), b2 1 (by decide) (by decide)]; exact t3
    · unfold T4; rw [a4.2.1, ti_q20_k (by omega) (by omega), b2 2 (by decide) (by decide)]; exact t4
    · unfold T5; rw [a4.2.2.1, ti_q20_k (by omega) (by omega), b2 3 (by decide) (by decide)]; exact t5
    · unfold T6; rw [a4.2.2.2, show s + 1 - 1 = s by omega, ti_q20_7]; exact ⟨rfl, by decide⟩
    · intro l c1 c2
      rw [show l * 41 + (s + 1) = l * 41 + s + 1 by omega, a6 l c1 (by omega), ti_q20_k (by omega) (by omega), b3 l c1 c2]
      exact t7 l c1 c2
    · intro l x y c1 c2 c3 c4 c5 c6
      rw [a5.1, ti_q20_k (by omega) (by omega), b1 _ (by omega) (by omega)]
      exact t8 l x y c1 c2 c3 c4 c5 c6
    · intro a e c1 c2 c3 c4
      rw [a5.2, ti_q20_k (by omega) (by omega), b1 _ (by omega) (by omega)]
      exact t9 a e c1 c2 c3 c4
