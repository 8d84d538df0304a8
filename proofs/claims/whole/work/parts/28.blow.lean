/-! the WIND blows -/
theorem am_turn_b (n : Nat) : 0 ≤ am_turn n ∧ am_turn n ≤ 8 := by
  unfold am_turn
  split <;> decide
def g_blowx (h : am_F) (s way parts y x : Int) (r : am_F) : am_F := if 0 < (r 1 (s * 90 + x + 10 * y).toNat * parts / 8) then f_carry h r s (x + 10 * y) way (r 1 (s * 90 + x + 10 * y).toNat * parts / 8) else r
def g_blow (h : am_F) (s way parts y : Int) (r : am_F) : am_F := am_fold (g_blowx h s way parts y) 0 (h 0 0).toNat r
def f_blow (h r : am_F) (s way parts : Int) : am_F := am_fold (g_blow h s way parts) 0 (h 0 1).toNat r
theorem L_blowx {S : am_S} {d u : Nat} {Q : AO → AH → Prop} {w : AH} {b hb : Nat} {h : am_F} (hl : b + 10 ≤ w.length) (hx : hb + 20 ≤ b ∨ b + 10 ≤ hb) (hH : Hb w hb h) (hV : HbV h) (hLt : LotB h) (s way parts : Int) (hs : 0 ≤ s ∧ s < 40) (hw9 : 0 ≤ way ∧ way ≤ 8) (hp : 0 ≤ parts ∧ parts ≤ 8) (hd : 2 ≤ d) (turned wind y : Int) (hy : 0 ≤ y ∧ y < h 0 1) : ∀ (n : Nat) (x : Int) (r : am_F), x + n = h 0 0 → 0 ≤ x → BlI s (10 * y + x) r → (∀ (r' : am_F), r' = am_fold (g_blowx h s way parts y) x n r → BlI s (10 * y + h 0 0) r' → am_T S zX9_blow d u Q 173 [some (aR b), some (aI s), some (aI turned), some (aI wind), some (aI way), some (aI parts), some (aI y), some (aI (h 0 0)), none] [] (rnW w b hb r')) → am_T S zX9_blow d u Q 107 [some (aR b), some (aI s), some (aI turned), some (aI wind), some (aI way), some (aI parts), some (aI y), some (aI x), none] [] (rnW w b hb r) := by
  have hV9 := hV
  obtain ⟨v1, v2, v3, v4, v5, v6, v7, v8, v9, v10, v11, v12, v13, v14, v15, v16, v17, v18, v19, v20, v21, v22⟩ := hV9
  intro n
  induction n with
  | zero =>
    intro x r hi9 h0i hinv k9
    have i1 := hinv
    refine T_iload (am_dec tX9_blow_1 14 rfl) rfl ?_
    refine T_aload_n (am_dec tX9_blow_1 15 rfl) rfl ?_
    refine T_getfield 8 0 (am_dec tX9_blow_1 16 rfl) flX9_43_8 (show (rnW w b hb r)[b]? = some (cO 8 [aR hb, aI (r 0 1), aI (r 0 2), aI (r 0 3), aI (r 0 4), aI (r 0 5), aR (b + 1), aR (b + 2), aR (b + 3), aR (b + 4), aR (b + 5), aR (b + 6), aR (b + 7), aR (b + 8), aR (b + 9)]) from rnW_Rn hl 0 (by decide)) rfl ?_
    refine T_getfield 3 0 (am_dec tX9_blow_1 17 rfl) flX9_133_3 ((rnW_Hb hx hH) 0 (by decide)) rfl ?_
    refine T_icmp_ge 173 (am_dec tX9_blow_1 18 rfl) rfl (fun h116 => ?_) (fun h116 => by exfalso; omega)
    have e9 : x = h 0 0 := by omega
    rw [← e9] at k9
    exact k9 r rfl (by first | exact hinv | omega)
  | succ n ih =>
    intro x r hi9 h0i hinv k9
    have i1 := hinv
    refine T_iload (am_dec tX9_blow_1 14 rfl) rfl ?_
    refine T_aload_n (am_dec tX9_blow_1 15 rfl) rfl ?_
    refine T_getfield 8 0 (am_dec tX9_blow_1 16 rfl) flX9_43_8 (show (rnW w b hb r)[b]? = some (cO 8 [aR hb, aI (r 0 1), aI (r 0 2), aI (r 0 3), aI (r 0 4), aI (r 0 5), aR (b + 1), aR (b + 2), aR (b + 3), aR (b + 4), aR (b + 5), aR (b + 6), aR (b + 7), aR (b + 8), aR (b + 9)]) from rnW_Rn hl 0 (by decide)) rfl ?_
    refine T_getfield 3 0 (am_dec tX9_blow_1 17 rfl) flX9_133_3 ((rnW_Hb hx hH) 0 (by decide)) rfl ?_
    refine T_icmp_ge 173 (am_dec tX9_blow_1 18 rfl) rfl (fun h116 => by exfalso; omega) (fun h116 => ?_)
    obtain ⟨q1, q2, q3⟩ := am_part (i1.l (s * 90 + x + 10 * y).toNat (by omega)) hp
    refine T_aload_n (am_dec tX9_blow_1 19 rfl) rfl ?_
    refine T_getfield 8 6 (am_dec tX9_blow_1 20 rfl) flX9_11_8 (show (rnW w b hb r)[b]? = some (cO 8 [aR hb, aI (r 0 1), aI (r 0 2), aI (r 0 3), aI (r 0 4), aI (r 0 5), aR (b + 1), aR (b + 2), aR (b + 3), aR (b + 4), aR (b + 5), aR (b + 6), aR (b + 7), aR (b + 8), aR (b + 9)]) from rnW_Rn hl 0 (by decide)) rfl ?_
    refine T_iload_n (am_dec tX9_blow_1 21 rfl) rfl ?_
    refine T_bipush 90 (am_dec tX9_blow_1 22 rfl) rfl ⟨by decide, by decide⟩ ?_
    refine T_imul (s * 90) (am_dec tX9_blow_1 23 rfl) rfl ⟨by omega, by omega⟩ ?_
    refine T_iload (am_dec tX9_blow_1 24 rfl) rfl ?_
    refine T_iadd ((s * 90) + x) (am_dec tX9_blow_1 25 rfl) rfl ⟨by omega, by omega⟩ ?_
    refine T_bipush 10 (am_dec tX9_blow_1 26 rfl) rfl ⟨by decide, by decide⟩ ?_
    refine T_iload (am_dec tX9_blow_1 27 rfl) rfl ?_
    refine T_imul (10 * y) (am_dec tX9_blow_1 28 rfl) rfl ⟨by omega, by omega⟩ ?_
    refine T_iadd (((s * 90) + x) + (10 * y)) (am_dec tX9_blow_1 29 rfl) rfl ⟨by omega, by omega⟩ ?_
    refine T_iaload (am_dec tX9_blow_1 30 rfl) (show (rnW w b hb r)[b + 1]? = some (cP 0 3690 (r 1)) from rnW_Rn hl 1 (by decide)) (by omega) (by omega) ?_
    refine T_iload (am_dec tX9_blow_1 31 rfl) rfl ?_
    refine T_imul (((r 1) (((s * 90) + x) + (10 * y)).toNat) * parts) (am_dec tX9_blow_1 32 rfl) rfl ⟨by omega, by omega⟩ ?_
    refine T_bipush 8 (am_dec tX9_blow_1 33 rfl) rfl ⟨by decide, by decide⟩ ?_
    refine T_idiv ((((r 1) (((s * 90) + x) + (10 * y)).toNat) * parts) / 8) (am_dec tX9_blow_1 34 rfl) (by omega) (am_td (by omega)) ⟨by omega, by omega⟩ ?_
    refine T_istore (ls' := [some (aR b), some (aI s), some (aI turned), some (aI wind), some (aI way), some (aI parts), some (aI y), some (aI x), some (aI ((((r 1) (((s * 90) + x) + (10 * y)).toNat) * parts) / 8))]) (am_dec tX9_blow_1 35 rfl) (by decide) rfl ?_
    refine T_iload (am_dec tX9_blow_1 36 rfl) rfl ?_
    refine T_if_le 167 (am_dec tX9_blow_1 37 rfl) rfl (fun h147 => ?_) (fun h147 => ?_)
    · refine T_iinc (ls' := [some (aR b), some (aI s), some (aI turned), some (aI wind), some (aI way), some (aI parts), some (aI y), some (aI (x + 1)), some (aI ((((r 1) (((s * 90) + x) + (10 * y)).toNat) * parts) / 8))]) (x + 1) (am_dec tX9_blow_2 8 rfl) rfl rfl ⟨by omega, by omega⟩ (by decide) rfl ?_
      refine T_goto 107 (am_dec tX9_blow_2 9 rfl) rfl ?_
      refine T_weak (ls' := [some (aR b), some (aI s), some (aI turned), some (aI wind), some (aI way), some (aI parts), some (aI y), some (aI (x + 1)), none]) (am_sub_s (am_sub_s (am_sub_s (am_sub_s (am_sub_s (am_sub_s (am_sub_s (am_sub_s (am_sub_n am_sub_nil))))))))) ?_
      have e9 : (g_blowx h s way parts y) x r = r := (by unfold g_blowx; first | rw [if_pos (by omega)] | rw [if_neg (by omega)])
      simp only [am_fold_s, e9] at k9
      exact ih (x + 1) r (by omega) (by omega) (i1.mono (by omega)) k9
    · refine T_aload_n (am_dec tX9_blow_1 38 rfl) rfl ?_
      refine T_iload_n (am_dec tX9_blow_1 39 rfl) rfl ?_
      refine T_iload (am_dec tX9_blow_2 0 rfl) rfl ?_
      refine T_bipush 10 (am_dec tX9_blow_2 1 rfl) rfl ⟨by decide, by decide⟩ ?_
      refine T_iload (am_dec tX9_blow_2 2 rfl) rfl ?_
      refine T_imul (10 * y) (am_dec tX9_blow_2 3 rfl) rfl ⟨by omega, by omega⟩ ?_
      refine T_iadd (x + (10 * y)) (am_dec tX9_blow_2 4 rfl) rfl ⟨by omega, by omega⟩ ?_
      refine T_iload (am_dec tX9_blow_2 5 rfl) rfl ?_
      refine T_iload (am_dec tX9_blow_2 6 rfl) rfl ?_
      refine T_callV (as := [aI s, aI (x + (10 * y)), aI way, aI ((((r 1) (((s * 90) + x) + (10 * y)).toNat) * parts) / 8)]) rfl (am_dec tX9_blow_2 7 rfl) lkX9_136 (show (rnW w b hb r)[b]? = some (cO 8 [aR hb, aI (r 0 1), aI (r 0 2), aI (r 0 3), aI (r 0 4), aI (r 0 5), aR (b + 1), aR (b + 2), aR (b + 3), aR (b + 4), aR (b + 5), aR (b + 6), aR (b + 7), aR (b + 8), aR (b + 9)]) from rnW_Rn hl 0 (by decide)) rfl rfl (Nat.le_of_ble_eq_true rfl) (by omega) (m_carry hl hx hH hV hLt s (x + (10 * y)) way ((((r 1) (((s * 90) + x) + (10 * y)).toNat) * parts) / 8) hs (by omega) hw9 (by omega) (fun j => by have := i1.f j; omega) (by omega)) (fun _ => ?_)
      refine T_iinc (ls' := [some (aR b), some (aI s), some (aI turned), some (aI wind), some (aI way), some (aI parts), some (aI y), some (aI (x + 1)), some (aI ((((r 1) (((s * 90) + x) + (10 * y)).toNat) * parts) / 8))]) (x + 1) (am_dec tX9_blow_2 8 rfl) rfl rfl ⟨by omega, by omega⟩ (by decide) rfl ?_
      refine T_goto 107 (am_dec tX9_blow_2 9 rfl) rfl ?_
      refine T_weak (ls' := [some (aR b), some (aI s), some (aI turned), some (aI wind), some (aI way), some (aI parts), some (aI y), some (aI (x + 1)), none]) (am_sub_s (am_sub_s (am_sub_s (am_sub_s (am_sub_s (am_sub_s (am_sub_s (am_sub_s (am_sub_n am_sub_nil))))))))) ?_
      have e9 : (g_blowx h s way parts y) x r = (f_carry h r s (x + (10 * y)) way ((((r 1) (((s * 90) + x) + (10 * y)).toNat) * parts) / 8)) := (by unfold g_blowx; first | rw [if_pos (by omega)] | rw [if_neg (by omega)])
      simp only [am_fold_s, e9] at k9
      exact ih (x + 1) (f_carry h r s (x + (10 * y)) way ((((r 1) (((s * 90) + x) + (10 * y)).toNat) * parts) / 8)) (by omega) (by omega) (show BlI s (10 * y + (x + 1)) _ from (by have q := f_carryI (h := h) (way := way) i1 hs (cell := x + 10 * y) (yards := (r 1 (s * 90 + x + 10 * y).toNat * parts / 8)) ⟨by omega, by omega⟩ ⟨by omega, by omega⟩ (by omega); rw [show 10 * y + (x + 1) = 10 * y + x + 1 by omega]; exact q)) k9
theorem L_blow {S : am_S} {d u : Nat} {Q : AO → AH → Prop} {w : AH} {b hb : Nat} {h : am_F} (hl : b + 10 ≤ w.length) (hx : hb + 20 ≤ b ∨ b + 10 ≤ hb) (hH : Hb w hb h) (hV : HbV h) (hLt : LotB h) (s way parts : Int) (hs : 0 ≤ s ∧ s < 40) (hw9 : 0 ≤ way ∧ way ≤ 8) (hp : 0 ≤ parts ∧ parts ≤ 8) (hd : 2 ≤ d) (turned wind : Int) : ∀ (n : Nat) (y : Int) (r : am_F), y + n = h 0 1 → 0 ≤ y → BlI s (10 * y) r → (∀ (r' : am_F), r' = am_fold (g_blow h s way parts) y n r → BlI s (10 * (h 0 1)) r' → am_T S zX9_blow d u Q 179 [some (aR b), some (aI s), some (aI turned), some (aI wind), some (aI way), some (aI parts), some (aI (h 0 1)), none, none] [] (rnW w b hb r')) → am_T S zX9_blow d u Q 92 [some (aR b), some (aI s), some (aI turned), some (aI wind), some (aI way), some (aI parts), some (aI y), none, none] [] (rnW w b hb r) := by
  have hV9 := hV
  obtain ⟨v1, v2, v3, v4, v5, v6, v7, v8, v9, v10, v11, v12, v13, v14, v15, v16, v17, v18, v19, v20, v21, v22⟩ := hV9
  intro n
  induction n with
  | zero =>
    intro y r hi9 h0i hinv k9
    have i1 := hinv
    refine T_iload (am_dec tX9_blow_1 7 rfl) rfl ?_
    refine T_aload_n (am_dec tX9_blow_1 8 rfl) rfl ?_
    refine T_getfield 8 0 (am_dec tX9_blow_1 9 rfl) flX9_43_8 (show (rnW w b hb r)[b]? = some (cO 8 [aR hb, aI (r 0 1), aI (r 0 2), aI (r 0 3), aI (r 0 4), aI (r 0 5), aR (b + 1), aR (b + 2), aR (b + 3), aR (b + 4), aR (b + 5), aR (b + 6), aR (b + 7), aR (b + 8), aR (b + 9)]) from rnW_Rn hl 0 (by decide)) rfl ?_
    refine T_getfield 3 1 (am_dec tX9_blow_1 10 rfl) flX9_130_3 ((rnW_Hb hx hH) 0 (by decide)) rfl ?_
    refine T_icmp_ge 179 (am_dec tX9_blow_1 11 rfl) rfl (fun h101 => ?_) (fun h101 => by exfalso; omega)
    have e9 : y = h 0 1 := by omega
    rw [← e9] at k9
    exact k9 r rfl (by first | exact hinv | omega)
  | succ n ih =>
    intro y r hi9 h0i hinv k9
    have i1 := hinv
    refine T_iload (am_dec tX9_blow_1 7 rfl) rfl ?_
    refine T_aload_n (am_dec tX9_blow_1 8 rfl) rfl ?_
    refine T_getfield 8 0 (am_dec tX9_blow_1 9 rfl) flX9_43_8 (show (rnW w b hb r)[b]? = some (cO 8 [aR hb, aI (r 0 1), aI (r 0 2), aI (r 0 3), aI (r 0 4), aI (r 0 5), aR (b + 1), aR (b + 2), aR (b + 3), aR (b + 4), aR (b + 5), aR (b + 6), aR (b + 7), aR (b + 8), aR (b + 9)]) from rnW_Rn hl 0 (by decide)) rfl ?_
    refine T_getfield 3 1 (am_dec tX9_blow_1 10 rfl) flX9_130_3 ((rnW_Hb hx hH) 0 (by decide)) rfl ?_
    refine T_icmp_ge 179 (am_dec tX9_blow_1 11 rfl) rfl (fun h101 => by exfalso; omega) (fun h101 => ?_)
    refine T_iconst 0 (am_dec tX9_blow_1 12 rfl) rfl ⟨by decide, by decide⟩ ?_
    refine T_istore (ls' := [some (aR b), some (aI s), some (aI turned), some (aI wind), some (aI way), some (aI parts), some (aI y), some (aI 0), none]) (am_dec tX9_blow_1 13 rfl) (by decide) rfl ?_
    refine L_blowx hl hx hH hV hLt s way parts hs hw9 hp hd turned wind y ⟨by omega, by omega⟩ (h 0 0 - 0).toNat 0 r (by omega) (by omega) (i1.mono (by omega)) (fun r107 hr107 hv107 => ?_)
    refine T_iinc (ls' := [some (aR b), some (aI s), some (aI turned), some (aI wind), some (aI way), some (aI parts), some (aI (y + 1)), some (aI (h 0 0)), none]) (y + 1) (am_dec tX9_blow_2 10 rfl) rfl rfl ⟨by omega, by omega⟩ (by decide) rfl ?_
    refine T_goto 92 (am_dec tX9_blow_2 11 rfl) rfl ?_
    refine T_weak (ls' := [some (aR b), some (aI s), some (aI turned), some (aI wind), some (aI way), some (aI parts), some (aI (y + 1)), none, none]) (am_sub_s (am_sub_s (am_sub_s (am_sub_s (am_sub_s (am_sub_s (am_sub_s (am_sub_n (am_sub_n am_sub_nil))))))))) ?_
    have e9 : (g_blow h s way parts) y r = r107 := (by unfold g_blow; rw [hr107, Int.sub_zero])
    simp only [am_fold_s, e9] at k9
    exact ih (y + 1) r107 (by omega) (by omega) (hv107.mono (by omega)) k9
def f_wind (h : am_F) (s : Int) : Int := f_latest (h 0 3) (h 1) s
def f_way0 (h : am_F) (s : Int) : Int := if f_wind h s = -1 then 4 else f_at (h 0 3) (h 1) (f_wind h s) 1
def f_way (h : am_F) (s turned : Int) : Int := if turned ≠ 0 then am_turn (f_way0 h s).toNat else f_way0 h s
def f_parts (h : am_F) (s : Int) : Int := if f_wind h s = -1 then 0 else f_at (h 0 3) (h 1) (f_wind h s) 2
def f_blows (h r : am_F) (s turned : Int) : am_F := if f_way h s turned = 4 then r else f_blow h r s (f_way h s turned) (f_parts h s)
def WdB (h : am_F) : Prop := ∀ k : Int, (0 ≤ f_at (h 0 3) (h 1) k 1 ∧ f_at (h 0 3) (h 1) k 1 ≤ 8) ∧ 0 ≤ f_at (h 0 3) (h 1) k 2 ∧ f_at (h 0 3) (h 1) k 2 ≤ 8
theorem m_blow {S : am_S} {d u : Nat} {w : AH} {b hb : Nat} {r h : am_F} (hl : b + 10 ≤ w.length) (hx : hb + 20 ≤ b ∨ b + 10 ≤ hb) (hH : Hb w hb h) (hV : HbV h) (hLt : LotB h) (hWd : WdB h) (s turned : Int) (hs : 0 ≤ s ∧ s < 40) (hI : BlI s 0 r) (hd : 3 ≤ d) : am_Out S zX9_blow d u [aR b, aI s, aI turned] (rnW w b hb r) (.inl none) (rnW w b hb (f_blows h r s turned)) := by
  refine am_body rfl (by decide +kernel) rfl (am_cats_cons rfl ( am_cats_cons rfl ( am_cats_cons rfl (am_cats_nil)))) (Nat.le_of_ble_eq_true rfl) (?_ : am_T _ _ _ _ _ 0 [some (aR b), some (aI s), some (aI turned), none, none, none, none, none, none] [] (rnW w b hb r))
  have hV9 := hV
  obtain ⟨v1, v2, v3, v4, v5, v6, v7, v8, v9, v10, v11, v12, v13, v14, v15, v16, v17, v18, v19, v20, v21, v22⟩ := hV9
  refine T_aload_n (am_dec tX9_blow_0 0 rfl) rfl ?_
  refine T_getfield 8 0 (am_dec tX9_blow_0 1 rfl) flX9_43_8 (show (rnW w b hb r)[b]? = some (cO 8 [aR hb, aI (r 0 1), aI (r 0 2), aI (r 0 3), aI (r 0 4), aI (r 0 5), aR (b + 1), aR (b + 2), aR (b + 3), aR (b + 4), aR (b + 5), aR (b + 6), aR (b + 7), aR (b + 8), aR (b + 9)]) from rnW_Rn hl 0 (by decide)) rfl ?_
  refine T_getfield 3 3 (am_dec tX9_blow_0 2 rfl) flX9_114_3 ((rnW_Hb hx hH) 0 (by decide)) rfl ?_
  refine T_iload_n (am_dec tX9_blow_0 3 rfl) rfl ?_
  refine T_callV (as := [aI s]) rfl (am_dec tX9_blow_0 4 rfl) lkX9_118 ((rnW_Hb hx hH) 1 (by decide)) rfl rfl (Nat.le_of_ble_eq_true rfl) (by omega) (m_latest ((rnW_Hb hx hH) 1 (by decide)) ((rnW_Hb hx hH) 2 (by decide)) (by omega) (by omega) s (by omega)) (fun _ => ?_)
  obtain ⟨wd8, hwd8⟩ : ∃ x9 : Int, x9 = f_latest (h 0 3) (h 1) s := ⟨_, rfl⟩
  rw [← hwd8]
  refine T_istore_n (ls' := [some (aR b), some (aI s), some (aI turned), some (aI wd8), none, none, none, none, none]) (am_dec tX9_blow_0 5 rfl) (by decide) rfl ?_
  refine T_iload_n (am_dec tX9_blow_0 6 rfl) rfl ?_
  refine T_iconst (-1) (am_dec tX9_blow_0 7 rfl) rfl ⟨by decide, by decide⟩ ?_
  refine T_icmp_ne 21 (am_dec tX9_blow_0 8 rfl) rfl (fun h14 => ?_) (fun h14 => ?_)
  · refine T_aload_n (am_dec tX9_blow_0 11 rfl) rfl ?_
    refine T_getfield 8 0 (am_dec tX9_blow_0 12 rfl) flX9_43_8 (show (rnW w b hb r)[b]? = some (cO 8 [aR hb, aI (r 0 1), aI (r 0 2), aI (r 0 3), aI (r 0 4), aI (r 0 5), aR (b + 1), aR (b + 2), aR (b + 3), aR (b + 4), aR (b + 5), aR (b + 6), aR (b + 7), aR (b + 8), aR (b + 9)]) from rnW_Rn hl 0 (by decide)) rfl ?_
    refine T_getfield 3 3 (am_dec tX9_blow_0 13 rfl) flX9_114_3 ((rnW_Hb hx hH) 0 (by decide)) rfl ?_
    refine T_iload_n (am_dec tX9_blow_0 14 rfl) rfl ?_
    refine T_iconst 1 (am_dec tX9_blow_0 15 rfl) rfl ⟨by decide, by decide⟩ ?_
    have wb30 := hWd wd8
    refine T_callV (as := [aI wd8, aI 1]) rfl (am_dec tX9_blow_0 16 rfl) lkX9_124 ((rnW_Hb hx hH) 1 (by decide)) rfl rfl (Nat.le_of_ble_eq_true rfl) (by omega) (m_at ((rnW_Hb hx hH) 1 (by decide)) ((rnW_Hb hx hH) 2 (by decide)) (by omega) wd8 1) (fun _ => ?_)
    refine T_istore (ls' := [some (aR b), some (aI s), some (aI turned), some (aI wd8), some (aI (f_at (h 0 3) (h 1) wd8 1)), none, none, none, none]) (am_dec tX9_blow_0 17 rfl) (by decide) rfl ?_
    refine T_iload_n (am_dec tX9_blow_0 18 rfl) rfl ?_
    refine T_iconst (-1) (am_dec tX9_blow_0 19 rfl) rfl ⟨by decide, by decide⟩ ?_
    refine T_icmp_ne 44 (am_dec tX9_blow_0 20 rfl) rfl (fun h37 => ?_) (fun h37 => by exfalso; omega)
    refine T_aload_n (am_dec tX9_blow_0 23 rfl) rfl ?_
    refine T_getfield 8 0 (am_dec tX9_blow_0 24 rfl) flX9_43_8 (show (rnW w b hb r)[b]? = some (cO 8 [aR hb, aI (r 0 1), aI (r 0 2), aI (r 0 3), aI (r 0 4), aI (r 0 5), aR (b + 1), aR (b + 2), aR (b + 3), aR (b + 4), aR (b + 5), aR (b + 6), aR (b + 7), aR (b + 8), aR (b + 9)]) from rnW_Rn hl 0 (by decide)) rfl ?_
    refine T_getfield 3 3 (am_dec tX9_blow_0 25 rfl) flX9_114_3 ((rnW_Hb hx hH) 0 (by decide)) rfl ?_
    refine T_iload_n (am_dec tX9_blow_0 26 rfl) rfl ?_
    refine T_iconst 2 (am_dec tX9_blow_0 27 rfl) rfl ⟨by decide, by decide⟩ ?_
    have wb53 := hWd wd8
    refine T_callV (as := [aI wd8, aI 2]) rfl (am_dec tX9_blow_0 28 rfl) lkX9_124 ((rnW_Hb hx hH) 1 (by decide)) rfl rfl (Nat.le_of_ble_eq_true rfl) (by omega) (m_at ((rnW_Hb hx hH) 1 (by decide)) ((rnW_Hb hx hH) 2 (by decide)) (by omega) wd8 2) (fun _ => ?_)
    refine T_istore (ls' := [some (aR b), some (aI s), some (aI turned), some (aI wd8), some (aI (f_at (h 0 3) (h 1) wd8 1)), some (aI (f_at (h 0 3) (h 1) wd8 2)), none, none, none]) (am_dec tX9_blow_0 29 rfl) (by decide) rfl ?_
    refine T_iload_n (am_dec tX9_blow_0 30 rfl) rfl ?_
    refine T_if_eq 82 (am_dec tX9_blow_0 31 rfl) rfl (fun h59 => ?_) (fun h59 => ?_)
    · have tb := hd
      refine T_iload (am_dec tX9_blow_1 1 rfl) rfl ?_
      refine T_iconst 4 (am_dec tX9_blow_1 2 rfl) rfl ⟨by decide, by decide⟩ ?_
      refine T_icmp_ne 89 (am_dec tX9_blow_1 3 rfl) rfl (fun h85 => ?_) (fun h85 => ?_)
      · refine T_iconst 0 (am_dec tX9_blow_1 5 rfl) rfl ⟨by decide, by decide⟩ ?_
        refine T_istore (ls' := [some (aR b), some (aI s), some (aI turned), some (aI wd8), some (aI (f_at (h 0 3) (h 1) wd8 1)), some (aI (f_at (h 0 3) (h 1) wd8 2)), some (aI 0), none, none]) (am_dec tX9_blow_1 6 rfl) (by decide) rfl ?_
        refine L_blow hl hx hH hV hLt s (f_at (h 0 3) (h 1) wd8 1) (f_at (h 0 3) (h 1) wd8 2) hs (by omega) (by omega) (by omega) turned wd8 (h 0 1 - 0).toNat 0 r (by omega) (by omega) (hI.mono (by omega)) (fun r92 hr92 hv92 => ?_)
        exact T_return (am_dec tX9_blow_2 12 rfl) rfl ⟨rfl, by unfold f_blows; rw [if_neg (by rw [(show f_way h s turned = f_at (h 0 3) (h 1) wd8 1 from by unfold f_way f_way0 f_wind; rw [← hwd8]; (repeat' split) <;> first | rfl | omega)] <;> omega), (show f_way h s turned = f_at (h 0 3) (h 1) wd8 1 from by unfold f_way f_way0 f_wind; rw [← hwd8]; (repeat' split) <;> first | rfl | omega), (show f_parts h s = f_at (h 0 3) (h 1) wd8 2 from by unfold f_parts f_wind; rw [← hwd8]; (repeat' split) <;> first | rfl | omega), hr92, Int.sub_zero]; rfl⟩
      · exact T_return (am_dec tX9_blow_1 4 rfl) rfl ⟨rfl, by rw [show f_blows h r s turned = r from by unfold f_blows; rw [if_pos (by rw [(show f_way h s turned = f_at (h 0 3) (h 1) wd8 1 from by unfold f_way f_way0 f_wind; rw [← hwd8]; (repeat' split) <;> first | rfl | omega)] <;> omega)]]⟩
    · refine T_iload (am_dec tX9_blow_0 32 rfl) rfl ?_
      refine T_if_lt 82 (am_dec tX9_blow_0 33 rfl) rfl (fun h64 => ?_) (fun h64 => ?_)
      · have tb := hd
        refine T_iload (am_dec tX9_blow_1 1 rfl) rfl ?_
        refine T_iconst 4 (am_dec tX9_blow_1 2 rfl) rfl ⟨by decide, by decide⟩ ?_
        refine T_icmp_ne 89 (am_dec tX9_blow_1 3 rfl) rfl (fun h85 => ?_) (fun h85 => ?_)
        · refine T_iconst 0 (am_dec tX9_blow_1 5 rfl) rfl ⟨by decide, by decide⟩ ?_
          refine T_istore (ls' := [some (aR b), some (aI s), some (aI turned), some (aI wd8), some (aI (f_at (h 0 3) (h 1) wd8 1)), some (aI (f_at (h 0 3) (h 1) wd8 2)), some (aI 0), none, none]) (am_dec tX9_blow_1 6 rfl) (by decide) rfl ?_
          refine L_blow hl hx hH hV hLt s (f_at (h 0 3) (h 1) wd8 1) (f_at (h 0 3) (h 1) wd8 2) hs (by omega) (by omega) (by omega) turned wd8 (h 0 1 - 0).toNat 0 r (by omega) (by omega) (hI.mono (by omega)) (fun r92 hr92 hv92 => ?_)
          exact T_return (am_dec tX9_blow_2 12 rfl) rfl ⟨rfl, by unfold f_blows; rw [if_neg (by rw [(show f_way h s turned = f_at (h 0 3) (h 1) wd8 1 from by unfold f_way f_way0 f_wind; rw [← hwd8]; (repeat' split) <;> first | rfl | omega)] <;> omega), (show f_way h s turned = f_at (h 0 3) (h 1) wd8 1 from by unfold f_way f_way0 f_wind; rw [← hwd8]; (repeat' split) <;> first | rfl | omega), (show f_parts h s = f_at (h 0 3) (h 1) wd8 2 from by unfold f_parts f_wind; rw [← hwd8]; (repeat' split) <;> first | rfl | omega), hr92, Int.sub_zero]; rfl⟩
        · exact T_return (am_dec tX9_blow_1 4 rfl) rfl ⟨rfl, by rw [show f_blows h r s turned = r from by unfold f_blows; rw [if_pos (by rw [(show f_way h s turned = f_at (h 0 3) (h 1) wd8 1 from by unfold f_way f_way0 f_wind; rw [← hwd8]; (repeat' split) <;> first | rfl | omega)] <;> omega)]]⟩
      · refine T_iload (am_dec tX9_blow_0 34 rfl) rfl ?_
        refine T_bipush 9 (am_dec tX9_blow_0 35 rfl) rfl ⟨by decide, by decide⟩ ?_
        refine T_icmp_ge 82 (am_dec tX9_blow_0 36 rfl) rfl (fun h71 => ?_) (fun h71 => ?_)
        · have tb := hd
          refine T_iload (am_dec tX9_blow_1 1 rfl) rfl ?_
          refine T_iconst 4 (am_dec tX9_blow_1 2 rfl) rfl ⟨by decide, by decide⟩ ?_
          refine T_icmp_ne 89 (am_dec tX9_blow_1 3 rfl) rfl (fun h85 => ?_) (fun h85 => ?_)
          · refine T_iconst 0 (am_dec tX9_blow_1 5 rfl) rfl ⟨by decide, by decide⟩ ?_
            refine T_istore (ls' := [some (aR b), some (aI s), some (aI turned), some (aI wd8), some (aI (f_at (h 0 3) (h 1) wd8 1)), some (aI (f_at (h 0 3) (h 1) wd8 2)), some (aI 0), none, none]) (am_dec tX9_blow_1 6 rfl) (by decide) rfl ?_
            refine L_blow hl hx hH hV hLt s (f_at (h 0 3) (h 1) wd8 1) (f_at (h 0 3) (h 1) wd8 2) hs (by omega) (by omega) (by omega) turned wd8 (h 0 1 - 0).toNat 0 r (by omega) (by omega) (hI.mono (by omega)) (fun r92 hr92 hv92 => ?_)
            exact T_return (am_dec tX9_blow_2 12 rfl) rfl ⟨rfl, by unfold f_blows; rw [if_neg (by rw [(show f_way h s turned = f_at (h 0 3) (h 1) wd8 1 from by unfold f_way f_way0 f_wind; rw [← hwd8]; (repeat' split) <;> first | rfl | omega)] <;> omega), (show f_way h s turned = f_at (h 0 3) (h 1) wd8 1 from by unfold f_way f_way0 f_wind; rw [← hwd8]; (repeat' split) <;> first | rfl | omega), (show f_parts h s = f_at (h 0 3) (h 1) wd8 2 from by unfold f_parts f_wind; rw [← hwd8]; (repeat' split) <;> first | rfl | omega), hr92, Int.sub_zero]; rfl⟩
          · exact T_return (am_dec tX9_blow_1 4 rfl) rfl ⟨rfl, by rw [show f_blows h r s turned = r from by unfold f_blows; rw [if_pos (by rw [(show f_way h s turned = f_at (h 0 3) (h 1) wd8 1 from by unfold f_way f_way0 f_wind; rw [← hwd8]; (repeat' split) <;> first | rfl | omega)] <;> omega)]]⟩
        · refine T_getturn (ref := "HarbourFog$Run") (am_dec tX9_blow_0 37 rfl) (am_m3 38 rfl rfl) ?_
          refine T_iload (am_dec tX9_blow_0 38 rfl) rfl ?_
          refine T_ialoadT (am_dec tX9_blow_0 39 rfl) (by omega) (by omega) ?_
          refine T_istore (ls' := [some (aR b), some (aI s), some (aI turned), some (aI wd8), some (aI (am_turn (f_at (h 0 3) (h 1) wd8 1 : Int).toNat)), some (aI (f_at (h 0 3) (h 1) wd8 2)), none, none, none]) (am_dec tX9_blow_1 0 rfl) (by decide) rfl ?_
          have tb := am_turn_b ((f_at (h 0 3) (h 1) wd8 1 : Int).toNat)
          refine T_iload (am_dec tX9_blow_1 1 rfl) rfl ?_
          refine T_iconst 4 (am_dec tX9_blow_1 2 rfl) rfl ⟨by decide, by decide⟩ ?_
          refine T_icmp_ne 89 (am_dec tX9_blow_1 3 rfl) rfl (fun h85 => ?_) (fun h85 => ?_)
          · refine T_iconst 0 (am_dec tX9_blow_1 5 rfl) rfl ⟨by decide, by decide⟩ ?_
            refine T_istore (ls' := [some (aR b), some (aI s), some (aI turned), some (aI wd8), some (aI (am_turn (f_at (h 0 3) (h 1) wd8 1 : Int).toNat)), some (aI (f_at (h 0 3) (h 1) wd8 2)), some (aI 0), none, none]) (am_dec tX9_blow_1 6 rfl) (by decide) rfl ?_
            refine L_blow hl hx hH hV hLt s (am_turn (f_at (h 0 3) (h 1) wd8 1 : Int).toNat) (f_at (h 0 3) (h 1) wd8 2) hs (by omega) (by omega) (by omega) turned wd8 (h 0 1 - 0).toNat 0 r (by omega) (by omega) (hI.mono (by omega)) (fun r92 hr92 hv92 => ?_)
            exact T_return (am_dec tX9_blow_2 12 rfl) rfl ⟨rfl, by unfold f_blows; rw [if_neg (by rw [(show f_way h s turned = am_turn (f_at (h 0 3) (h 1) wd8 1 : Int).toNat from by unfold f_way f_way0 f_wind; rw [← hwd8]; (repeat' split) <;> first | rfl | omega)] <;> omega), (show f_way h s turned = am_turn (f_at (h 0 3) (h 1) wd8 1 : Int).toNat from by unfold f_way f_way0 f_wind; rw [← hwd8]; (repeat' split) <;> first | rfl | omega), (show f_parts h s = f_at (h 0 3) (h 1) wd8 2 from by unfold f_parts f_wind; rw [← hwd8]; (repeat' split) <;> first | rfl | omega), hr92, Int.sub_zero]; rfl⟩
          · exact T_return (am_dec tX9_blow_1 4 rfl) rfl ⟨rfl, by rw [show f_blows h r s turned = r from by unfold f_blows; rw [if_pos (by rw [(show f_way h s turned = am_turn (f_at (h 0 3) (h 1) wd8 1 : Int).toNat from by unfold f_way f_way0 f_wind; rw [← hwd8]; (repeat' split) <;> first | rfl | omega)] <;> omega)]]⟩
  · refine T_iconst 4 (am_dec tX9_blow_0 9 rfl) rfl ⟨by decide, by decide⟩ ?_
    refine T_goto 33 (am_dec tX9_blow_0 10 rfl) rfl ?_
    refine T_istore (ls' := [some (aR b), some (aI s), some (aI turned), some (aI wd8), some (aI 4), none, none, none, none]) (am_dec tX9_blow_0 17 rfl) (by decide) rfl ?_
    refine T_iload_n (am_dec tX9_blow_0 18 rfl) rfl ?_
    refine T_iconst (-1) (am_dec tX9_blow_0 19 rfl) rfl ⟨by decide, by decide⟩ ?_
    refine T_icmp_ne 44 (am_dec tX9_blow_0 20 rfl) rfl (fun h37 => by exfalso; omega) (fun h37 => ?_)
    refine T_iconst 0 (am_dec tX9_blow_0 21 rfl) rfl ⟨by decide, by decide⟩ ?_
    refine T_goto 56 (am_dec tX9_blow_0 22 rfl) rfl ?_
    refine T_istore (ls' := [some (aR b), some (aI s), some (aI turned), some (aI wd8), some (aI 4), some (aI 0), none, none, none]) (am_dec tX9_blow_0 29 rfl) (by decide) rfl ?_
    refine T_iload_n (am_dec tX9_blow_0 30 rfl) rfl ?_
    refine T_if_eq 82 (am_dec tX9_blow_0 31 rfl) rfl (fun h59 => ?_) (fun h59 => ?_)
    · have tb := hd
      refine T_iload (am_dec tX9_blow_1 1 rfl) rfl ?_
      refine T_iconst 4 (am_dec tX9_blow_1 2 rfl) rfl ⟨by decide, by decide⟩ ?_
      refine T_icmp_ne 89 (am_dec tX9_blow_1 3 rfl) rfl (fun h85 => by exfalso; omega) (fun h85 => ?_)
      exact T_return (am_dec tX9_blow_1 4 rfl) rfl ⟨rfl, by rw [show f_blows h r s turned = r from by unfold f_blows; rw [if_pos (by rw [(show f_way h s turned = 4 from by unfold f_way f_way0 f_wind; rw [← hwd8]; (repeat' split) <;> first | rfl | omega)] <;> omega)]]⟩
    · refine T_iload (am_dec tX9_blow_0 32 rfl) rfl ?_
      refine T_if_lt 82 (am_dec tX9_blow_0 33 rfl) rfl (fun h64 => by exfalso; omega) (fun h64 => ?_)
      refine T_iload (am_dec tX9_blow_0 34 rfl) rfl ?_
      refine T_bipush 9 (am_dec tX9_blow_0 35 rfl) rfl ⟨by decide, by decide⟩ ?_
      refine T_icmp_ge 82 (am_dec tX9_blow_0 36 rfl) rfl (fun h71 => by exfalso; omega) (fun h71 => ?_)
      refine T_getturn (ref := "HarbourFog$Run") (am_dec tX9_blow_0 37 rfl) (am_m3 38 rfl rfl) ?_
      refine T_iload (am_dec tX9_blow_0 38 rfl) rfl ?_
      refine T_ialoadT (am_dec tX9_blow_0 39 rfl) (by omega) (by omega) ?_
      refine T_istore (ls' := [some (aR b), some (aI s), some (aI turned), some (aI wd8), some (aI (am_turn (4 : Int).toNat)), some (aI 0), none, none, none]) (am_dec tX9_blow_1 0 rfl) (by decide) rfl ?_
      have tb := am_turn_b ((4 : Int).toNat)
      refine T_iload (am_dec tX9_blow_1 1 rfl) rfl ?_
      refine T_iconst 4 (am_dec tX9_blow_1 2 rfl) rfl ⟨by decide, by decide⟩ ?_
      refine T_icmp_ne 89 (am_dec tX9_blow_1 3 rfl) rfl (fun h85 => ?_) (fun h85 => ?_)
      · refine T_iconst 0 (am_dec tX9_blow_1 5 rfl) rfl ⟨by decide, by decide⟩ ?_
        refine T_istore (ls' := [some (aR b), some (aI s), some (aI turned), some (aI wd8), some (aI (am_turn (4 : Int).toNat)), some (aI 0), some (aI 0), none, none]) (am_dec tX9_blow_1 6 rfl) (by decide) rfl ?_
        refine L_blow hl hx hH hV hLt s (am_turn (4 : Int).toNat) 0 hs (by omega) (by omega) (by omega) turned wd8 (h 0 1 - 0).toNat 0 r (by omega) (by omega) (hI.mono (by omega)) (fun r92 hr92 hv92 => ?_)
        exact T_return (am_dec tX9_blow_2 12 rfl) rfl ⟨rfl, by unfold f_blows; rw [if_neg (by rw [(show f_way h s turned = am_turn (4 : Int).toNat from by unfold f_way f_way0 f_wind; rw [← hwd8]; (repeat' split) <;> first | rfl | omega)] <;> omega), (show f_way h s turned = am_turn (4 : Int).toNat from by unfold f_way f_way0 f_wind; rw [← hwd8]; (repeat' split) <;> first | rfl | omega), (show f_parts h s = 0 from by unfold f_parts f_wind; rw [← hwd8]; (repeat' split) <;> first | rfl | omega), hr92, Int.sub_zero]; rfl⟩
      · exact T_return (am_dec tX9_blow_1 4 rfl) rfl ⟨rfl, by rw [show f_blows h r s turned = r from by unfold f_blows; rw [if_pos (by rw [(show f_way h s turned = am_turn (4 : Int).toNat from by unfold f_way f_way0 f_wind; rw [← hwd8]; (repeat' split) <;> first | rfl | omega)] <;> omega)]]⟩
