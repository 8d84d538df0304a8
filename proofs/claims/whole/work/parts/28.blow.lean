/-! the WIND blows -/
theorem am_turn_b (n : Nat) : 0 ≤ am_turn n ∧ am_turn n ≤ 8 := by
  unfold am_turn
  split <;> decide
def g_blowx (h : am_F) (s way parts y x : Int) (r : am_F) : am_F := if 0 < (r 1 (s * 90 + x + 10 * y).toNat * parts / 8) then f_carry h r s (x + 10 * y) way (r 1 (s * 90 + x + 10 * y).toNat * parts / 8) else r
def g_blow (h : am_F) (s way parts y : Int) (r : am_F) : am_F := am_fold (g_blowx h s way parts y) 0 (h 0 0).toNat r
def f_blow (h r : am_F) (s way parts : Int) : am_F := am_fold (g_blow h s way parts) 0 (h 0 1).toNat r
theorem L_blowx {S : am_S} {d u : Nat} {Q : AO → AH → Prop} {w : AH} {b hb : Nat} {h : am_F} (hl : b + 10 ≤ w.length) (hx : hb + 20 ≤ b ∨ b + 10 ≤ hb) (hH : Hb w hb h) (hV : HbV h) (hLt : LotB h) (s way parts G L : Int) (hs : 0 ≤ s ∧ s < 40) (hw9 : 0 ≤ way ∧ way ≤ 8) (hp : 0 ≤ parts ∧ parts ≤ 8) (hG : 0 ≤ G ∧ G ≤ 900000000) (hL : 0 ≤ L ∧ L ≤ 900000000) (hd : 2 ≤ d) (turned wind y : Int) (hy : 0 ≤ y ∧ y < h 0 1) : ∀ (n : Nat) (x : Int) (r : am_F), x + n = h 0 0 → 0 ≤ x → BlI s (10 * y + x) G L r → (∀ (r' : am_F), r' = am_fold (g_blowx h s way parts y) x n r → BlI s (10 * y + h 0 0) G L r' → am_T S zX9_blow d u Q 173 [some (aR b), some (aI s), some (aI turned), some (aI wind), some (aI way), some (aI parts), some (aI y), some (aI (h 0 0)), none] [] (rnW w b hb r')) → am_T S zX9_blow d u Q 107 [some (aR b), some (aI s), some (aI turned), some (aI wind), some (aI way), some (aI parts), some (aI y), some (aI x), none] [] (rnW w b hb r) := by
  have hV9 := hV
  obtain ⟨v1, v2, v3, v4, v5, v6, v7, v8, v9, v10, v11, v12, v13, v14, v15, v16, v17, v18, v19, v20, v21, v22⟩ := hV9
  intro n
  induction n with
  | zero =>
    intro x r hi9 h0i hinv k9
    have i1 := hinv
    refine T_iload (am_dec tX9_blow_1 14 rfl) rfl ?_
    refine T_aload_n (am_dec tX9_blow_1 15 rfl) rfl ?_
    refine T_getfield 8 0 (am_dec tX9_blow_1 16 rfl) flX9_43_8 (show (rnW w b hb r)[b]? = some (cO 8 [aR hb, aI (r 0 1), aI (r 0 2), aI (r 0 3), aI (r 0 4), aI (r 0 5), aR (b + 1), aR (b + 2), aR (b + 3), aR (b + 4), aR (b + 5), aR (b + 6), aR (b + 7), aR (b + 8), aR (b + 9)]) from rnW_Rn hl 0 (by decide)) rfl ?_
    refine T_getfield 3 0 (am_dec tX9_blow_1 17 rfl) flX9_133_3 ((rnW_Hb hx hH) 0 (by decide)) rfl ?_
    refine T_icmp_ge 173 (am_dec tX9_blow_1 18 rfl) rfl (fun h116 => ?_) (fun h116 => by exfalso; omega)
    have e9 : x = h 0 0 := by omega
    rw [← e9] at k9
    exact k9 r rfl hinv
  | succ n ih =>
    intro x r hi9 h0i hinv k9
    have i1 := hinv
    refine T_iload (am_dec tX9_blow_1 14 rfl) rfl ?_
    refine T_aload_n (am_dec tX9_blow_1 15 rfl) rfl ?_
    refine T_getfield 8 0 (am_dec tX9_blow_1 16 rfl) flX9_43_8 (show (rnW w b hb r)[b]? = some (cO 8 [aR hb, aI (r 0 1), aI (r 0 2), aI (r 0 3), aI (r 0 4), aI (r 0 5), aR (b + 1), aR (b + 2), aR (b + 3), aR (b + 4), aR (b + 5), aR (b + 6), aR (b + 7), aR (b + 8), aR (b + 9)]) from rnW_Rn hl 0 (by decide)) rfl ?_
    refine T_getfield 3 0 (am_dec tX9_blow_1 17 rfl) flX9_133_3 ((rnW_Hb hx hH) 0 (by decide)) rfl ?_
    refine T_icmp_ge 173 (am_dec tX9_blow_1 18 rfl) rfl (fun h116 => by exfalso; omega) (fun h116 => ?_)
    obtain ⟨q1, q2, q3⟩ := am_part (i1.l (s * 90 + x + 10 * y).toNat (by omega)) hp
    refine T_aload_n (am_dec tX9_blow_1 19 rfl) rfl ?_
    refine T_getfield 8 6 (am_dec tX9_blow_1 20 rfl) flX9_11_8 (show (rnW w b hb r)[b]? = some (cO 8 [aR hb, aI (r 0 1), aI (r 0 2), aI (r 0 3), aI (r 0 4), aI (r 0 5), aR (b + 1), aR (b + 2), aR (b + 3), aR (b + 4), aR (b + 5), aR (b + 6), aR (b + 7), aR (b + 8), aR (b + 9)]) from rnW_Rn hl 0 (by decide)) rfl ?_
    refine T_iload_n (am_dec tX9_blow_1 21 rfl) rfl ?_
    refine T_bipush 90 (am_dec tX9_blow_1 22 rfl) rfl ⟨by decide, by decide⟩ ?_
    refine T_imul (s * 90) (am_dec tX9_blow_1 23 rfl) rfl ⟨by omega, by omega⟩ ?_
    refine T_iload (am_dec tX9_blow_1 24 rfl) rfl ?_
    refine T_iadd ((s * 90) + x) (am_dec tX9_blow_1 25 rfl) rfl ⟨by omega, by omega⟩ ?_
    refine T_bipush 10 (am_dec tX9_blow_1 26 rfl) rfl ⟨by decide, by decide⟩ ?_
    refine T_iload (am_dec tX9_blow_1 27 rfl) rfl ?_
    refine T_imul (10 * y) (am_dec tX9_blow_1 28 rfl) rfl ⟨by omega, by omega⟩ ?_
    refine T_iadd (((s * 90) + x) + (10 * y)) (am_dec tX9_blow_1 29 rfl) rfl ⟨by omega, by omega⟩ ?_
    refine T_iaload (am_dec tX9_blow_1 30 rfl) (show (rnW w b hb r)[b + 1]? = some (cP 0 3690 (r 1)) from rnW_Rn hl 1 (by decide)) (by omega) (by omega) ?_
    refine T_iload (am_dec tX9_blow_1 31 rfl) rfl ?_
    refine T_imul (((r 1) (((s * 90) + x) + (10 * y)).toNat) * parts) (am_dec tX9_blow_1 32 rfl) rfl ⟨by omega, by omega⟩ ?_
    refine T_bipush 8 (am_dec tX9_blow_1 33 rfl) rfl ⟨by decide, by decide⟩ ?_
    refine T_idiv ((((r 1) (((s * 90) + x) + (10 * y)).toNat) * parts) / 8) (am_dec tX9_blow_1 34 rfl) (by omega) (am_td (by omega)) ⟨by omega, by omega⟩ ?_
    refine T_istore (ls' := [some (aR b), some (aI s), some (aI turned), some (aI wind), some (aI way), some (aI parts), some (aI y), some (aI x), some (aI ((((r 1) (((s * 90) + x) + (10 * y)).toNat) * parts) / 8))]) (am_dec tX9_blow_1 35 rfl) (by decide) rfl ?_
    refine T_iload (am_dec tX9_blow_1 36 rfl) rfl ?_
    refine T_if_le 167 (am_dec tX9_blow_1 37 rfl) rfl (fun h147 => ?_) (fun h147 => ?_)
    · refine T_iinc (ls' := [some (aR b), some (aI s), some (aI turned), some (aI wind), some (aI way), some (aI parts), some (aI y), some (aI (x + 1)), some (aI ((((r 1) (((s * 90) + x) + (10 * y)).toNat) * parts) / 8))]) (x + 1) (am_dec tX9_blow_2 8 rfl) rfl rfl ⟨by omega, by omega⟩ (by decide) rfl ?_
      refine T_goto 107 (am_dec tX9_blow_2 9 rfl) rfl ?_
      refine T_weak (ls' := [some (aR b), some (aI s), some (aI turned), some (aI wind), some (aI way), some (aI parts), some (aI y), some (aI (x + 1)), none]) (am_sub_s (am_sub_s (am_sub_s (am_sub_s (am_sub_s (am_sub_s (am_sub_s (am_sub_s (am_sub_n am_sub_nil))))))))) ?_
      have e9 : (g_blowx h s way parts y) x r = r := (by unfold g_blowx; first | rw [if_pos (by omega)] | rw [if_neg (by omega)])
      simp only [am_fold_s, e9] at k9
      exact ih (x + 1) r (by omega) (by omega) (i1.mono (by omega)) k9
    · refine T_aload_n (am_dec tX9_blow_1 38 rfl) rfl ?_
      refine T_iload_n (am_dec tX9_blow_1 39 rfl) rfl ?_
      refine T_iload (am_dec tX9_blow_2 0 rfl) rfl ?_
      refine T_bipush 10 (am_dec tX9_blow_2 1 rfl) rfl ⟨by decide, by decide⟩ ?_
      refine T_iload (am_dec tX9_blow_2 2 rfl) rfl ?_
      refine T_imul (10 * y) (am_dec tX9_blow_2 3 rfl) rfl ⟨by omega, by omega⟩ ?_
      refine T_iadd (x + (10 * y)) (am_dec tX9_blow_2 4 rfl) rfl ⟨by omega, by omega⟩ ?_
      refine T_iload (am_dec tX9_blow_2 5 rfl) rfl ?_
      refine T_iload (am_dec tX9_blow_2 6 rfl) rfl ?_
      refine T_callV (as := [aI s, aI (x + (10 * y)), aI way, aI ((((r 1) (((s * 90) + x) + (10 * y)).toNat) * parts) / 8)]) rfl (am_dec tX9_blow_2 7 rfl) lkX9_136 (show (rnW w b hb r)[b]? = some (cO 8 [aR hb, aI (r 0 1), aI (r 0 2), aI (r 0 3), aI (r 0 4), aI (r 0 5), aR (b + 1), aR (b + 2), aR (b + 3), aR (b + 4), aR (b + 5), aR (b + 6), aR (b + 7), aR (b + 8), aR (b + 9)]) from rnW_Rn hl 0 (by decide)) rfl rfl (Nat.le_of_ble_eq_true rfl) (by omega) (m_carry hl hx hH hV hLt s (x + (10 * y)) way ((((r 1) (((s * 90) + x) + (10 * y)).toNat) * parts) / 8) hs (by omega) hw9 (by omega) (fun j => by have := i1.f j; omega) (by have := i1.m; omega) (by have := i1.g; omega) (fun j => by have := i1.x j; omega) (by omega)) (fun _ => ?_)
      refine T_iinc (ls' := [some (aR b), some (aI s), some (aI turned), some (aI wind), some (aI way), some (aI parts), some (aI y), some (aI (x + 1)), some (aI ((((r 1) (((s * 90) + x) + (10 * y)).toNat) * parts) / 8))]) (x + 1) (am_dec tX9_blow_2 8 rfl) rfl rfl ⟨by omega, by omega⟩ (by decide) rfl ?_
      refine T_goto 107 (am_dec tX9_blow_2 9 rfl) rfl ?_
      refine T_weak (ls' := [some (aR b), some (aI s), some (aI turned), some (aI wind), some (aI way), some (aI parts), some (aI y), some (aI (x + 1)), none]) (am_sub_s (am_sub_s (am_sub_s (am_sub_s (am_sub_s (am_sub_s (am_sub_s (am_sub_s (am_sub_n am_sub_nil))))))))) ?_
      have e9 : (g_blowx h s way parts y) x r = (f_carry h r s (x + (10 * y)) way ((((r 1) (((s * 90) + x) + (10 * y)).toNat) * parts) / 8)) := (by unfold g_blowx; first | rw [if_pos (by omega)] | rw [if_neg (by omega)])
      simp only [am_fold_s, e9] at k9
      exact ih (x + 1) (f_carry h r s (x + (10 * y)) way ((((r 1) (((s * 90) + x) + (10 * y)).toNat) * parts) / 8)) (by omega) (by omega) (show BlI s (10 * y + (x + 1)) G L _ from (by have q := f_carryI (h := h) (way := way) i1 hs (cell := x + 10 * y) (yards := (r 1 (s * 90 + x + 10 * y).toNat * parts / 8)) ⟨by omega, by omega⟩ ⟨by omega, by omega⟩ (by omega); rw [show 10 * y + (x + 1) = 10 * y + x + 1 by omega]; exact q)) k9
