/-! a run's steps: the parts that write -/
theorem am_wE {S : am_S} {z : am_Z} {d u : Nat} {Q : AO → AH → Prop} {pc : Nat} {ls : List (Option AV)} {st : List AV} {w w2 : AH} (e : w = w2) (k : am_T S z d u Q pc ls st w2) : am_T S z d u Q pc ls st w := e ▸ k
theorem am_outIw {x y : Int} {w w1 : AH} (h : x = y) (hw : w = w1) : (Sum.inl (some (aI x)) : AO) = .inl (some (aI y)) ∧ w = w1 := ⟨by rw [h], hw⟩
theorem am_up_s {f : Nat → Int} {k : Nat} {x : Int} : am_up f k x k = x := if_pos rfl
def am_iand (a b : Int) : Int := (Int32.ofInt a &&& Int32.ofInt b).toInt
def am_ishr (a b : Int) : Int := (Int32.ofInt a >>> (Int32.ofInt b &&& 31)).toInt
def am_iushr (a b : Int) : Int := (((Int32.ofInt a).toUInt32 >>> ((Int32.ofInt b).toUInt32 &&& Int32.toUInt32 31)).toInt32).toInt
def f_draws (r : am_F) : Int := if am_iand (am_iushr (f_seed (r 0 2)) 16) 7 < r 0 3 then 1 else 0
theorem m_draws {S : am_S} {d u : Nat} {w : AH} {b hb : Nat} {r h : am_F} (hl : b + 10 ≤ w.length) (hx : hb + 20 ≤ b ∨ b + 10 ≤ hb) (hH : Hb w hb h) (hV : HbV h) : am_Out S zX9_draws d u [aR b] (rnW w b hb r) (.inl (some (aI (f_draws r)))) (rnW w b hb (am_put r 0 2 (f_seed (r 0 2)))) := by
  refine am_body rfl (by decide +kernel) rfl (am_cats_cons rfl (am_cats_nil)) (Nat.le_of_ble_eq_true rfl) (?_ : am_T _ _ _ _ _ 0 [some (aR b)] [] (rnW w b hb r))
  refine T_aload_n (am_dec tX9_draws_0 0 rfl) rfl ?_
  refine T_aload_n (am_dec tX9_draws_0 1 rfl) rfl ?_
  refine T_getfield 8 2 (am_dec tX9_draws_0 2 rfl) flX9_78_8 (show (rnW w b hb r)[b]? = some (cO 8 [aR hb, aI (r 0 1), aI (r 0 2), aI (r 0 3), aI (r 0 4), aI (r 0 5), aR (b + 1), aR (b + 2), aR (b + 3), aR (b + 4), aR (b + 5), aR (b + 6), aR (b + 7), aR (b + 8), aR (b + 9)]) from rnW_Rn hl 0 (by decide)) rfl ?_
  refine T_ldc 1103515245 (am_dec tX9_draws_0 3 rfl) (am_m3 24 rfl rfl) ⟨by decide, by decide⟩ ?_
  refine T_imulW (am_w32 (r 0 2 * 1103515245)) (am_dec tX9_draws_0 4 rfl) (am_w32e _).symm (am_w32r _) ?_
  refine T_sipush 12345 (am_dec tX9_draws_0 5 rfl) rfl ⟨by decide, by decide⟩ ?_
  refine T_iaddW (f_seed (r 0 2)) (am_dec tX9_draws_0 6 rfl) (am_w32e _).symm (am_w32r _) ?_
  refine T_putfield (fs' := [aR hb, aI (r 0 1), aI (f_seed (r 0 2)), aI (r 0 3), aI (r 0 4), aI (r 0 5), aR (b + 1), aR (b + 2), aR (b + 3), aR (b + 4), aR (b + 5), aR (b + 6), aR (b + 7), aR (b + 8), aR (b + 9)]) 8 2 (am_dec tX9_draws_0 7 rfl) flX9_78_8 rfl rfl rfl trivial (show (rnW w b hb r)[b]? = some (cO 8 [aR hb, aI (r 0 1), aI (r 0 2), aI (r 0 3), aI (r 0 4), aI (r 0 5), aR (b + 1), aR (b + 2), aR (b + 3), aR (b + 4), aR (b + 5), aR (b + 6), aR (b + 7), aR (b + 8), aR (b + 9)]) from rnW_Rn hl 0 (by decide)) (Nat.le_of_ble_eq_true rfl) rfl ?_
  refine am_wE (w2 := rnW w b hb (am_put r 0 2 (f_seed (r 0 2)))) rnW_f2 ?_
  refine T_aload_n (am_dec tX9_draws_0 8 rfl) rfl ?_
  refine T_getfield 8 2 (am_dec tX9_draws_0 9 rfl) flX9_78_8 (show (rnW w b hb (am_put r 0 2 (f_seed (r 0 2))))[b]? = some (cO 8 [aR hb, aI (r 0 1), aI (f_seed (r 0 2)), aI (r 0 3), aI (r 0 4), aI (r 0 5), aR (b + 1), aR (b + 2), aR (b + 3), aR (b + 4), aR (b + 5), aR (b + 6), aR (b + 7), aR (b + 8), aR (b + 9)]) from rnW_Rn hl 0 (by decide)) rfl ?_
  refine T_bipush 16 (am_dec tX9_draws_0 10 rfl) rfl ⟨by decide, by decide⟩ ?_
  refine T_iushr (am_iushr (f_seed (r 0 2)) 16) (am_dec tX9_draws_0 11 rfl) (am_w32e _).symm (am_w32r _) ?_
  refine T_bipush 7 (am_dec tX9_draws_0 12 rfl) rfl ⟨by decide, by decide⟩ ?_
  refine T_iand (am_iand (am_iushr (f_seed (r 0 2)) 16) 7) (am_dec tX9_draws_0 13 rfl) (am_w32e _).symm (am_w32r _) ?_
  refine T_aload_n (am_dec tX9_draws_0 14 rfl) rfl ?_
  refine T_getfield 8 3 (am_dec tX9_draws_0 15 rfl) flX9_51_8 (show (rnW w b hb (am_put r 0 2 (f_seed (r 0 2))))[b]? = some (cO 8 [aR hb, aI (r 0 1), aI (f_seed (r 0 2)), aI (r 0 3), aI (r 0 4), aI (r 0 5), aR (b + 1), aR (b + 2), aR (b + 3), aR (b + 4), aR (b + 5), aR (b + 6), aR (b + 7), aR (b + 8), aR (b + 9)]) from rnW_Rn hl 0 (by decide)) rfl ?_
  refine T_icmp_ge 36 (am_dec tX9_draws_0 16 rfl) rfl (fun h29 => ?_) (fun h29 => ?_)
  · refine T_iconst 0 (am_dec tX9_draws_0 19 rfl) rfl ⟨by decide, by decide⟩ ?_
    exact T_zreturn (am_dec tX9_draws_0 20 rfl) rfl (by first | exact Or.inl rfl | exact Or.inr rfl | omega) (am_outIw (by unfold f_draws; first | rw [if_pos (by omega)] | rw [if_neg (by omega)]) rfl)
  · refine T_iconst 1 (am_dec tX9_draws_0 17 rfl) rfl ⟨by decide, by decide⟩ ?_
    refine T_goto 37 (am_dec tX9_draws_0 18 rfl) rfl ?_
    exact T_zreturn (am_dec tX9_draws_0 20 rfl) rfl (by first | exact Or.inl rfl | exact Or.inr rfl | omega) (am_outIw (by unfold f_draws; first | rw [if_pos (by omega)] | rw [if_neg (by omega)]) rfl)
def f_fogsum (r : am_F) (row : Int) : Int := am_fold (fun i a => a + r 1 i.toNat) (row * 90) 90 0
def f_addUp (r : am_F) (row : Int) : am_F := am_put r 2 row.toNat (f_fogsum r row)
theorem L_addUp {S : am_S} {d u : Nat} {Q : AO → AH → Prop} {w : AH} {b hb : Nat} {r h : am_F} (hl : b + 10 ≤ w.length) (hx : hb + 20 ≤ b ∨ b + 10 ≤ hb) (hH : Hb w hb h) (hV : HbV h) (hF : RnF r) (row : Int) (hr : 0 ≤ row ∧ row ≤ 40) : ∀ (n : Nat) (i : Int) (acc : Int), i + n = (row + 1) * 90 → 0 ≤ i → row * 90 ≤ i ∧ 0 ≤ acc ∧ acc ≤ 99 * (i - row * 90) → (∀ (acc' : Int), acc' = am_fold (fun i a => a + r 1 i.toNat) i n acc → row * 90 ≤ (row + 1) * 90 ∧ 0 ≤ acc' ∧ acc' ≤ 99 * ((row + 1) * 90 - row * 90) → am_T S zX9_addUp d u Q 32 [some (aR b), some (aI row), some (aI acc'), some (aI ((row + 1) * 90))] [] ((rnW w b hb r))) → am_T S zX9_addUp d u Q 7 [some (aR b), some (aI row), some (aI acc), some (aI i)] [] ((rnW w b hb r)) := by
  intro n
  induction n with
  | zero =>
    intro i acc hi9 h0i hinv k9
    have f9 := hF i.toNat
    refine T_iload_n (am_dec tX9_addUp_0 6 rfl) rfl ?_
    refine T_iload_n (am_dec tX9_addUp_0 7 rfl) rfl ?_
    refine T_iconst 1 (am_dec tX9_addUp_0 8 rfl) rfl ⟨by decide, by decide⟩ ?_
    refine T_iadd (row + 1) (am_dec tX9_addUp_0 9 rfl) rfl ⟨by omega, by omega⟩ ?_
    refine T_bipush 90 (am_dec tX9_addUp_0 10 rfl) rfl ⟨by decide, by decide⟩ ?_
    refine T_imul ((row + 1) * 90) (am_dec tX9_addUp_0 11 rfl) rfl ⟨by omega, by omega⟩ ?_
    refine T_icmp_ge 32 (am_dec tX9_addUp_0 12 rfl) rfl (fun h14 => ?_) (fun h14 => by exfalso; omega)
    have e9 : i = (row + 1) * 90 := by omega
    rw [← e9] at k9
    exact k9 acc rfl (by first | exact hinv | omega)
  | succ n ih =>
    intro i acc hi9 h0i hinv k9
    have f9 := hF i.toNat
    refine T_iload_n (am_dec tX9_addUp_0 6 rfl) rfl ?_
    refine T_iload_n (am_dec tX9_addUp_0 7 rfl) rfl ?_
    refine T_iconst 1 (am_dec tX9_addUp_0 8 rfl) rfl ⟨by decide, by decide⟩ ?_
    refine T_iadd (row + 1) (am_dec tX9_addUp_0 9 rfl) rfl ⟨by omega, by omega⟩ ?_
    refine T_bipush 90 (am_dec tX9_addUp_0 10 rfl) rfl ⟨by decide, by decide⟩ ?_
    refine T_imul ((row + 1) * 90) (am_dec tX9_addUp_0 11 rfl) rfl ⟨by omega, by omega⟩ ?_
    refine T_icmp_ge 32 (am_dec tX9_addUp_0 12 rfl) rfl (fun h14 => by exfalso; omega) (fun h14 => ?_)
    refine T_iload_n (am_dec tX9_addUp_0 13 rfl) rfl ?_
    refine T_aload_n (am_dec tX9_addUp_0 14 rfl) rfl ?_
    refine T_getfield 8 6 (am_dec tX9_addUp_0 15 rfl) flX9_11_8 (show (rnW w b hb r)[b]? = some (cO 8 [aR hb, aI (r 0 1), aI (r 0 2), aI (r 0 3), aI (r 0 4), aI (r 0 5), aR (b + 1), aR (b + 2), aR (b + 3), aR (b + 4), aR (b + 5), aR (b + 6), aR (b + 7), aR (b + 8), aR (b + 9)]) from rnW_Rn hl 0 (by decide)) rfl ?_
    refine T_iload_n (am_dec tX9_addUp_0 16 rfl) rfl ?_
    refine T_iaload (am_dec tX9_addUp_0 17 rfl) (show (rnW w b hb r)[b + 1]? = some (cP 0 3690 (r 1)) from rnW_Rn hl 1 (by decide)) (by omega) (by omega) ?_
    refine T_iadd (acc + ((r 1) i.toNat)) (am_dec tX9_addUp_0 18 rfl) rfl ⟨by omega, by omega⟩ ?_
    refine T_istore_n (ls' := [some (aR b), some (aI row), some (aI (acc + ((r 1) i.toNat))), some (aI i)]) (am_dec tX9_addUp_0 19 rfl) (by decide) rfl ?_
    refine T_iinc (ls' := [some (aR b), some (aI row), some (aI (acc + ((r 1) i.toNat))), some (aI (i + 1))]) (i + 1) (am_dec tX9_addUp_0 20 rfl) rfl rfl ⟨by omega, by omega⟩ (by decide) rfl ?_
    refine T_goto 7 (am_dec tX9_addUp_0 21 rfl) rfl ?_
    have e9 : (fun i a => a + r 1 i.toNat) i acc = acc + ((r 1) i.toNat) := rfl
    simp only [am_fold_s, e9] at k9
    exact ih (i + 1) (acc + ((r 1) i.toNat)) (by omega) (by omega) (by omega) k9
theorem m_addUp {S : am_S} {d u : Nat} {w : AH} {b hb : Nat} {r h : am_F} (hl : b + 10 ≤ w.length) (hx : hb + 20 ≤ b ∨ b + 10 ≤ hb) (hH : Hb w hb h) (hV : HbV h) (hF : RnF r) (row : Int) (hr : 0 ≤ row ∧ row ≤ 40) : am_Out S zX9_addUp d u [aR b, aI row] (rnW w b hb r) (.inl none) (rnW w b hb (f_addUp r row)) := by
  refine am_body rfl (by decide +kernel) rfl (am_cats_cons rfl ( am_cats_cons rfl (am_cats_nil))) (Nat.le_of_ble_eq_true rfl) (?_ : am_T _ _ _ _ _ 0 [some (aR b), some (aI row), none, none] [] (rnW w b hb r))
  refine T_iconst 0 (am_dec tX9_addUp_0 0 rfl) rfl ⟨by decide, by decide⟩ ?_
  refine T_istore_n (ls' := [some (aR b), some (aI row), some (aI 0), none]) (am_dec tX9_addUp_0 1 rfl) (by decide) rfl ?_
  refine T_iload_n (am_dec tX9_addUp_0 2 rfl) rfl ?_
  refine T_bipush 90 (am_dec tX9_addUp_0 3 rfl) rfl ⟨by decide, by decide⟩ ?_
  refine T_imul (row * 90) (am_dec tX9_addUp_0 4 rfl) rfl ⟨by omega, by omega⟩ ?_
  refine T_istore_n (ls' := [some (aR b), some (aI row), some (aI 0), some (aI (row * 90))]) (am_dec tX9_addUp_0 5 rfl) (by decide) rfl ?_
  refine L_addUp hl hx hH hV hF row hr ((row + 1) * 90 - (row * 90)).toNat (row * 90) 0 (by omega) (by omega) (by omega) (fun acc7 hacc7 hv7 => ?_)
  refine T_aload_n (am_dec tX9_addUp_0 22 rfl) rfl ?_
  refine T_getfield 8 7 (am_dec tX9_addUp_0 23 rfl) flX9_15_8 (show (rnW w b hb r)[b]? = some (cO 8 [aR hb, aI (r 0 1), aI (r 0 2), aI (r 0 3), aI (r 0 4), aI (r 0 5), aR (b + 1), aR (b + 2), aR (b + 3), aR (b + 4), aR (b + 5), aR (b + 6), aR (b + 7), aR (b + 8), aR (b + 9)]) from rnW_Rn hl 0 (by decide)) rfl ?_
  refine T_iload_n (am_dec tX9_addUp_0 24 rfl) rfl ?_
  refine T_iload_n (am_dec tX9_addUp_0 25 rfl) rfl ?_
  refine T_iastore (am_dec tX9_addUp_0 26 rfl) (show (rnW w b hb r)[b + 2]? = some (cP 0 41 (r 2)) from rnW_Rn hl 2 (by decide)) (by omega) (by omega) ?_
  refine am_wE (w2 := rnW w b hb (am_put r 2 row.toNat acc7)) rnW_p2 ?_
  exact T_return (am_dec tX9_addUp_0 27 rfl) rfl ⟨rfl, by rw [hacc7, show ((row + 1) * 90 - row * 90).toNat = 90 by omega]; rfl⟩
def g_spill (row : Int) (i : Int) (r : am_F) : am_F := if 99 < r 1 i.toNat then am_put (am_put r 3 row.toNat (am_w32 (r 3 row.toNat + (r 1 i.toNat - 99)))) 1 i.toNat 99 else r
def f_spill (r : am_F) (row : Int) : am_F := am_fold (g_spill row) (row * 90) 90 r
/-- the FOG on each CELL within -/
def FgB (r : am_F) (m : Int) : Prop := ∀ j, 0 ≤ r 1 j ∧ r 1 j ≤ m
theorem L_spill {S : am_S} {d u : Nat} {Q : AO → AH → Prop} {w : AH} {b hb : Nat} {h : am_F} (hl : b + 10 ≤ w.length) (hx : hb + 20 ≤ b ∨ b + 10 ≤ hb) (hH : Hb w hb h) (hV : HbV h) (row : Int) (hr : 0 ≤ row ∧ row ≤ 40) : ∀ (n : Nat) (i : Int) (r : am_F), i + n = (row + 1) * 90 → 0 ≤ i → row * 90 ≤ i ∧ FgB r 20000 → (∀ (r' : am_F), r' = am_fold (g_spill row) i n r → row * 90 ≤ (row + 1) * 90 ∧ FgB r' 20000 → am_T S zX9_spill d u Q 58 [some (aR b), some (aI row), some (aI ((row + 1) * 90))] [] (rnW w b hb r')) → am_T S zX9_spill d u Q 5 [some (aR b), some (aI row), some (aI i)] [] (rnW w b hb r) := by
  intro n
  induction n with
  | zero =>
    intro i r hi9 h0i hinv k9
    obtain ⟨i1, i2⟩ := hinv
    obtain ⟨f1, f2⟩ := i2 i.toNat
    have hinv := And.intro i1 i2
    refine T_iload_n (am_dec tX9_spill_0 4 rfl) rfl ?_
    refine T_iload_n (am_dec tX9_spill_0 5 rfl) rfl ?_
    refine T_iconst 1 (am_dec tX9_spill_0 6 rfl) rfl ⟨by decide, by decide⟩ ?_
    refine T_iadd (row + 1) (am_dec tX9_spill_0 7 rfl) rfl ⟨by omega, by omega⟩ ?_
    refine T_bipush 90 (am_dec tX9_spill_0 8 rfl) rfl ⟨by decide, by decide⟩ ?_
    refine T_imul ((row + 1) * 90) (am_dec tX9_spill_0 9 rfl) rfl ⟨by omega, by omega⟩ ?_
    refine T_icmp_ge 58 (am_dec tX9_spill_0 10 rfl) rfl (fun h12 => ?_) (fun h12 => by exfalso; omega)
    have e9 : i = (row + 1) * 90 := by omega
    rw [← e9] at k9
    exact k9 r rfl (by first | exact hinv | omega)
  | succ n ih =>
    intro i r hi9 h0i hinv k9
    obtain ⟨i1, i2⟩ := hinv
    obtain ⟨f1, f2⟩ := i2 i.toNat
    have hinv := And.intro i1 i2
    refine T_iload_n (am_dec tX9_spill_0 4 rfl) rfl ?_
    refine T_iload_n (am_dec tX9_spill_0 5 rfl) rfl ?_
    refine T_iconst 1 (am_dec tX9_spill_0 6 rfl) rfl ⟨by decide, by decide⟩ ?_
    refine T_iadd (row + 1) (am_dec tX9_spill_0 7 rfl) rfl ⟨by omega, by omega⟩ ?_
    refine T_bipush 90 (am_dec tX9_spill_0 8 rfl) rfl ⟨by decide, by decide⟩ ?_
    refine T_imul ((row + 1) * 90) (am_dec tX9_spill_0 9 rfl) rfl ⟨by omega, by omega⟩ ?_
    refine T_icmp_ge 58 (am_dec tX9_spill_0 10 rfl) rfl (fun h12 => by exfalso; omega) (fun h12 => ?_)
    refine T_aload_n (am_dec tX9_spill_0 11 rfl) rfl ?_
    refine T_getfield 8 6 (am_dec tX9_spill_0 12 rfl) flX9_11_8 (show (rnW w b hb r)[b]? = some (cO 8 [aR hb, aI (r 0 1), aI (r 0 2), aI (r 0 3), aI (r 0 4), aI (r 0 5), aR (b + 1), aR (b + 2), aR (b + 3), aR (b + 4), aR (b + 5), aR (b + 6), aR (b + 7), aR (b + 8), aR (b + 9)]) from rnW_Rn hl 0 (by decide)) rfl ?_
    refine T_iload_n (am_dec tX9_spill_0 13 rfl) rfl ?_
    refine T_iaload (am_dec tX9_spill_0 14 rfl) (show (rnW w b hb r)[b + 1]? = some (cP 0 3690 (r 1)) from rnW_Rn hl 1 (by decide)) (by omega) (by omega) ?_
    refine T_bipush 99 (am_dec tX9_spill_0 15 rfl) rfl ⟨by decide, by decide⟩ ?_
    refine T_icmp_le 52 (am_dec tX9_spill_0 16 rfl) rfl (fun h23 => ?_) (fun h23 => ?_)
    · refine T_iinc (ls' := [some (aR b), some (aI row), some (aI (i + 1))]) (i + 1) (am_dec tX9_spill_0 35 rfl) rfl rfl ⟨by omega, by omega⟩ (by decide) rfl ?_
      refine T_goto 5 (am_dec tX9_spill_0 36 rfl) rfl ?_
      have e9 : (g_spill row) i r = r := (by unfold g_spill; first | rw [if_pos (by omega)] | rw [if_neg (by omega)])
      simp only [am_fold_s, e9] at k9
      exact ih (i + 1) r (by omega) (by omega) ⟨by omega, i2⟩ k9
    · refine T_aload_n (am_dec tX9_spill_0 17 rfl) rfl ?_
      refine T_getfield 8 8 (am_dec tX9_spill_0 18 rfl) flX9_18_8 (show (rnW w b hb r)[b]? = some (cO 8 [aR hb, aI (r 0 1), aI (r 0 2), aI (r 0 3), aI (r 0 4), aI (r 0 5), aR (b + 1), aR (b + 2), aR (b + 3), aR (b + 4), aR (b + 5), aR (b + 6), aR (b + 7), aR (b + 8), aR (b + 9)]) from rnW_Rn hl 0 (by decide)) rfl ?_
      refine T_iload_n (am_dec tX9_spill_0 19 rfl) rfl ?_
      refine T_dup2 (am_dec tX9_spill_0 20 rfl) rfl rfl ?_
      refine T_iaload (am_dec tX9_spill_0 21 rfl) (show (rnW w b hb r)[b + 3]? = some (cP 0 41 (r 3)) from rnW_Rn hl 3 (by decide)) (by omega) (by omega) ?_
      refine T_aload_n (am_dec tX9_spill_0 22 rfl) rfl ?_
      refine T_getfield 8 6 (am_dec tX9_spill_0 23 rfl) flX9_11_8 (show (rnW w b hb r)[b]? = some (cO 8 [aR hb, aI (r 0 1), aI (r 0 2), aI (r 0 3), aI (r 0 4), aI (r 0 5), aR (b + 1), aR (b + 2), aR (b + 3), aR (b + 4), aR (b + 5), aR (b + 6), aR (b + 7), aR (b + 8), aR (b + 9)]) from rnW_Rn hl 0 (by decide)) rfl ?_
      refine T_iload_n (am_dec tX9_spill_0 24 rfl) rfl ?_
      refine T_iaload (am_dec tX9_spill_0 25 rfl) (show (rnW w b hb r)[b + 1]? = some (cP 0 3690 (r 1)) from rnW_Rn hl 1 (by decide)) (by omega) (by omega) ?_
      refine T_bipush 99 (am_dec tX9_spill_0 26 rfl) rfl ⟨by decide, by decide⟩ ?_
      refine T_isub (((r 1) i.toNat) - 99) (am_dec tX9_spill_0 27 rfl) rfl ⟨by omega, by omega⟩ ?_
      refine T_iaddW (am_w32 (r 3 row.toNat + (r 1 i.toNat - 99))) (am_dec tX9_spill_0 28 rfl) (am_w32e _).symm (am_w32r _) ?_
      refine T_iastore (am_dec tX9_spill_0 29 rfl) (show (rnW w b hb r)[b + 3]? = some (cP 0 41 (r 3)) from rnW_Rn hl 3 (by decide)) (by omega) (by omega) ?_
      refine am_wE (w2 := rnW w b hb (am_put r 3 row.toNat (am_w32 (r 3 row.toNat + (r 1 i.toNat - 99))))) rnW_p3 ?_
      refine T_aload_n (am_dec tX9_spill_0 30 rfl) rfl ?_
      refine T_getfield 8 6 (am_dec tX9_spill_0 31 rfl) flX9_11_8 (show (rnW w b hb (am_put r 3 row.toNat (am_w32 (r 3 row.toNat + (r 1 i.toNat - 99)))))[b]? = some (cO 8 [aR hb, aI (r 0 1), aI (r 0 2), aI (r 0 3), aI (r 0 4), aI (r 0 5), aR (b + 1), aR (b + 2), aR (b + 3), aR (b + 4), aR (b + 5), aR (b + 6), aR (b + 7), aR (b + 8), aR (b + 9)]) from rnW_Rn hl 0 (by decide)) rfl ?_
      refine T_iload_n (am_dec tX9_spill_0 32 rfl) rfl ?_
      refine T_bipush 99 (am_dec tX9_spill_0 33 rfl) rfl ⟨by decide, by decide⟩ ?_
      refine T_iastore (am_dec tX9_spill_0 34 rfl) (show (rnW w b hb (am_put r 3 row.toNat (am_w32 (r 3 row.toNat + (r 1 i.toNat - 99)))))[b + 1]? = some (cP 0 3690 (r 1)) from rnW_Rn hl 1 (by decide)) (by omega) (by omega) ?_
      refine am_wE (w2 := rnW w b hb (am_put (am_put r 3 row.toNat (am_w32 (r 3 row.toNat + (r 1 i.toNat - 99)))) 1 i.toNat 99)) rnW_p1 ?_
      refine T_iinc (ls' := [some (aR b), some (aI row), some (aI (i + 1))]) (i + 1) (am_dec tX9_spill_0 35 rfl) rfl rfl ⟨by omega, by omega⟩ (by decide) rfl ?_
      refine T_goto 5 (am_dec tX9_spill_0 36 rfl) rfl ?_
      have e9 : (g_spill row) i r = (am_put (am_put r 3 row.toNat (am_w32 (r 3 row.toNat + (r 1 i.toNat - 99)))) 1 i.toNat 99) := (by unfold g_spill; first | rw [if_pos (by omega)] | rw [if_neg (by omega)])
      simp only [am_fold_s, e9] at k9
      exact ih (i + 1) (am_put (am_put r 3 row.toNat (am_w32 (r 3 row.toNat + (r 1 i.toNat - 99)))) 1 i.toNat 99) (by omega) (by omega) ⟨by omega, am_upB i2 (by omega)⟩ k9
theorem m_spill {S : am_S} {d u : Nat} {w : AH} {b hb : Nat} {r h : am_F} (hl : b + 10 ≤ w.length) (hx : hb + 20 ≤ b ∨ b + 10 ≤ hb) (hH : Hb w hb h) (hV : HbV h) (row : Int) (hr : 0 ≤ row ∧ row ≤ 40) (hB : FgB r 20000) : am_Out S zX9_spill d u [aR b, aI row] (rnW w b hb r) (.inl none) (rnW w b hb (f_spill r row)) := by
  refine am_body rfl (by decide +kernel) rfl (am_cats_cons rfl ( am_cats_cons rfl (am_cats_nil))) (Nat.le_of_ble_eq_true rfl) (?_ : am_T _ _ _ _ _ 0 [some (aR b), some (aI row), none] [] (rnW w b hb r))
  refine T_iload_n (am_dec tX9_spill_0 0 rfl) rfl ?_
  refine T_bipush 90 (am_dec tX9_spill_0 1 rfl) rfl ⟨by decide, by decide⟩ ?_
  refine T_imul (row * 90) (am_dec tX9_spill_0 2 rfl) rfl ⟨by omega, by omega⟩ ?_
  refine T_istore_n (ls' := [some (aR b), some (aI row), some (aI (row * 90))]) (am_dec tX9_spill_0 3 rfl) (by decide) rfl ?_
  refine L_spill hl hx hH hV row hr ((row + 1) * 90 - (row * 90)).toNat (row * 90) r (by omega) (by omega) ⟨by omega, hB⟩ (fun r5 hr5 hv5 => ?_)
  exact T_return (am_dec tX9_spill_0 37 rfl) rfl ⟨rfl, by rw [hr5, show ((row + 1) * 90 - row * 90).toNat = 90 by omega]; rfl⟩
