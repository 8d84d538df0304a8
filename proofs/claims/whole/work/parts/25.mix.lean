/-! a STEAMER mixes -/
def g_mixr (h r : am_F) (row cell i : Int) (x : Int × Int) : Int × Int := if f_near h cell i = -1 then x else (x.1 + r 1 (row + f_near h cell i).toNat, x.2 + 1)
def g_mixw (h : am_F) (row cell share i : Int) (r : am_F) : am_F := if f_near h cell i = -1 then r else am_put r 1 (row + f_near h cell i).toNat share
def f_mixr (h r : am_F) (row cell : Int) : Int × Int := am_fold (g_mixr h r row cell) 0 9 (0, 0)
def f_mixw (h r : am_F) (row cell share : Int) : am_F := am_fold (g_mixw h row cell share) 0 9 r
def f_mix (h r : am_F) (row cell : Int) : am_F := if (f_mixr h r row cell).2 ≤ 0 then r else
  am_put (f_mixw h r row cell ((f_mixr h r row cell).1 / (f_mixr h r row cell).2)) 1 (row + cell).toNat (f_mixw h r row cell ((f_mixr h r row cell).1 / (f_mixr h r row cell).2) 1 (row + cell).toNat + ((f_mixr h r row cell).1 - (f_mixr h r row cell).1 / (f_mixr h r row cell).2 * (f_mixr h r row cell).2))
theorem L_mixr {S : am_S} {d u : Nat} {Q : AO → AH → Prop} {w : AH} {b hb : Nat} {r h : am_F} (hl : b + 10 ≤ w.length) (hx : hb + 20 ≤ b ∨ b + 10 ≤ hb) (hH : Hb w hb h) (hV : HbV h) (row cell : Int) (hr : 0 ≤ row ∧ row ≤ 3600) (hc : 0 ≤ cell ∧ cell ≤ 88) (hd : 1 ≤ d) (hB : FgB r 20000) : ∀ (n : Nat) (i : Int) (all : Int) (cells : Int), i + n = 9 → 0 ≤ i → 0 ≤ all ∧ all ≤ 20000 * i ∧ 0 ≤ cells ∧ cells ≤ i → (∀ (all' : Int) (cells' : Int), all' = (am_fold (g_mixr h r row cell) i n (all, cells)).1 → cells' = (am_fold (g_mixr h r row cell) i n (all, cells)).2 → 0 ≤ all' ∧ all' ≤ 20000 * 9 ∧ 0 ≤ cells' ∧ cells' ≤ 9 → am_T S zX9_mix d u Q 51 [some (aR b), some (aI row), some (aI cell), some (aI all'), some (aI cells'), some (aI 9), none, none] [] ((rnW w b hb r))) → am_T S zX9_mix d u Q 8 [some (aR b), some (aI row), some (aI cell), some (aI all), some (aI cells), some (aI i), none, none] [] ((rnW w b hb r)) := by
  intro n
  induction n with
  | zero =>
    intro i all cells hi9 h0i hinv k9
    refine T_iload (am_dec tX9_mix_0 6 rfl) rfl ?_
    refine T_bipush 9 (am_dec tX9_mix_0 7 rfl) rfl ⟨by decide, by decide⟩ ?_
    refine T_icmp_ge 51 (am_dec tX9_mix_0 8 rfl) rfl (fun h12 => ?_) (fun h12 => by exfalso; omega)
    have e9 : i = 9 := by omega
    rw [← e9] at k9
    exact k9 all cells rfl rfl (by first | exact hinv | omega)
  | succ n ih =>
    intro i all cells hi9 h0i hinv k9
    refine T_iload (am_dec tX9_mix_0 6 rfl) rfl ?_
    refine T_bipush 9 (am_dec tX9_mix_0 7 rfl) rfl ⟨by decide, by decide⟩ ?_
    refine T_icmp_ge 51 (am_dec tX9_mix_0 8 rfl) rfl (fun h12 => by exfalso; omega) (fun h12 => ?_)
    refine T_aload_n (am_dec tX9_mix_0 9 rfl) rfl ?_
    refine T_iload_n (am_dec tX9_mix_0 10 rfl) rfl ?_
    refine T_iload (am_dec tX9_mix_0 11 rfl) rfl ?_
    have nb19 := f_near_b hV cell i
    have f9 := hB (row + f_near h cell i).toNat
    refine T_callV (as := [aI cell, aI i]) rfl (am_dec tX9_mix_0 12 rfl) lkX9_157 (show (rnW w b hb r)[b]? = some (cO 8 [aR hb, aI (r 0 1), aI (r 0 2), aI (r 0 3), aI (r 0 4), aI (r 0 5), aR (b + 1), aR (b + 2), aR (b + 3), aR (b + 4), aR (b + 5), aR (b + 6), aR (b + 7), aR (b + 8), aR (b + 9)]) from rnW_Rn hl 0 (by decide)) rfl rfl (Nat.le_of_ble_eq_true rfl) (by omega) (m_near (rnW_Rn hl) (rnW_Hb hx hH) hV cell i (by omega) (by omega)) (fun _ => ?_)
    refine T_istore (ls' := [some (aR b), some (aI row), some (aI cell), some (aI all), some (aI cells), some (aI i), some (aI (f_near h cell i)), none]) (am_dec tX9_mix_0 13 rfl) (by decide) rfl ?_
    refine T_iload (am_dec tX9_mix_0 14 rfl) rfl ?_
    refine T_iconst (-1) (am_dec tX9_mix_0 15 rfl) rfl ⟨by decide, by decide⟩ ?_
    refine T_icmp_eq 45 (am_dec tX9_mix_0 16 rfl) rfl (fun h27 => ?_) (fun h27 => ?_)
    · refine T_iinc (ls' := [some (aR b), some (aI row), some (aI cell), some (aI all), some (aI cells), some (aI (i + 1)), some (aI (f_near h cell i)), none]) (i + 1) (am_dec tX9_mix_0 27 rfl) rfl rfl ⟨by omega, by omega⟩ (by decide) rfl ?_
      refine T_goto 8 (am_dec tX9_mix_0 28 rfl) rfl ?_
      refine T_weak (ls' := [some (aR b), some (aI row), some (aI cell), some (aI all), some (aI cells), some (aI (i + 1)), none, none]) (am_sub_s (am_sub_s (am_sub_s (am_sub_s (am_sub_s (am_sub_s (am_sub_n (am_sub_n am_sub_nil)))))))) ?_
      have e9 : (g_mixr h r row cell) i (all, cells) = (all, cells) := (by unfold g_mixr; first | rw [if_pos (by omega)] | rw [if_neg (by omega)])
      simp only [am_fold_s, e9] at k9
      exact ih (i + 1) all cells (by omega) (by omega) (by omega) k9
    · refine T_iload_n (am_dec tX9_mix_0 17 rfl) rfl ?_
      refine T_aload_n (am_dec tX9_mix_0 18 rfl) rfl ?_
      refine T_getfield 8 6 (am_dec tX9_mix_0 19 rfl) flX9_11_8 (show (rnW w b hb r)[b]? = some (cO 8 [aR hb, aI (r 0 1), aI (r 0 2), aI (r 0 3), aI (r 0 4), aI (r 0 5), aR (b + 1), aR (b + 2), aR (b + 3), aR (b + 4), aR (b + 5), aR (b + 6), aR (b + 7), aR (b + 8), aR (b + 9)]) from rnW_Rn hl 0 (by decide)) rfl ?_
      refine T_iload_n (am_dec tX9_mix_0 20 rfl) rfl ?_
      refine T_iload (am_dec tX9_mix_0 21 rfl) rfl ?_
      refine T_iadd (row + (f_near h cell i)) (am_dec tX9_mix_0 22 rfl) rfl ⟨by omega, by omega⟩ ?_
      refine T_iaload (am_dec tX9_mix_0 23 rfl) (show (rnW w b hb r)[b + 1]? = some (cP 0 3690 (r 1)) from rnW_Rn hl 1 (by decide)) (by omega) (by omega) ?_
      refine T_iadd (all + ((r 1) (row + (f_near h cell i)).toNat)) (am_dec tX9_mix_0 24 rfl) rfl ⟨by omega, by omega⟩ ?_
      refine T_istore_n (ls' := [some (aR b), some (aI row), some (aI cell), some (aI (all + ((r 1) (row + (f_near h cell i)).toNat))), some (aI cells), some (aI i), some (aI (f_near h cell i)), none]) (am_dec tX9_mix_0 25 rfl) (by decide) rfl ?_
      refine T_iinc (ls' := [some (aR b), some (aI row), some (aI cell), some (aI (all + ((r 1) (row + (f_near h cell i)).toNat))), some (aI (cells + 1)), some (aI i), some (aI (f_near h cell i)), none]) (cells + 1) (am_dec tX9_mix_0 26 rfl) rfl rfl ⟨by omega, by omega⟩ (by decide) rfl ?_
      refine T_iinc (ls' := [some (aR b), some (aI row), some (aI cell), some (aI (all + ((r 1) (row + (f_near h cell i)).toNat))), some (aI (cells + 1)), some (aI (i + 1)), some (aI (f_near h cell i)), none]) (i + 1) (am_dec tX9_mix_0 27 rfl) rfl rfl ⟨by omega, by omega⟩ (by decide) rfl ?_
      refine T_goto 8 (am_dec tX9_mix_0 28 rfl) rfl ?_
      refine T_weak (ls' := [some (aR b), some (aI row), some (aI cell), some (aI (all + ((r 1) (row + (f_near h cell i)).toNat))), some (aI (cells + 1)), some (aI (i + 1)), none, none]) (am_sub_s (am_sub_s (am_sub_s (am_sub_s (am_sub_s (am_sub_s (am_sub_n (am_sub_n am_sub_nil)))))))) ?_
      have e9 : (g_mixr h r row cell) i (all, cells) = (all + ((r 1) (row + (f_near h cell i)).toNat), cells + 1) := (by unfold g_mixr; first | rw [if_pos (by omega)] | rw [if_neg (by omega)])
      simp only [am_fold_s, e9] at k9
      exact ih (i + 1) (all + ((r 1) (row + (f_near h cell i)).toNat)) (cells + 1) (by omega) (by omega) (by omega) k9
theorem L_mixw {S : am_S} {d u : Nat} {Q : AO → AH → Prop} {w : AH} {b hb : Nat} {h : am_F} (hl : b + 10 ≤ w.length) (hx : hb + 20 ≤ b ∨ b + 10 ≤ hb) (hH : Hb w hb h) (hV : HbV h) (row cell : Int) (hr : 0 ≤ row ∧ row ≤ 3600) (hc : 0 ≤ cell ∧ cell ≤ 88) (hd : 1 ≤ d) (all cells share : Int) (hs : 0 ≤ share ∧ share ≤ 180000) : ∀ (n : Nat) (i : Int) (r : am_F), i + n = 9 → 0 ≤ i → FgB r 180000 → (∀ (r' : am_F), r' = am_fold (g_mixw h row cell share) i n r → FgB r' 180000 → am_T S zX9_mix d u Q 104 [some (aR b), some (aI row), some (aI cell), some (aI all), some (aI cells), some (aI share), some (aI 9), none] [] (rnW w b hb r')) → am_T S zX9_mix d u Q 65 [some (aR b), some (aI row), some (aI cell), some (aI all), some (aI cells), some (aI share), some (aI i), none] [] (rnW w b hb r) := by
  intro n
  induction n with
  | zero =>
    intro i r hi9 h0i hinv k9
    have i1 := hinv
    refine T_iload (am_dec tX9_mix_0 37 rfl) rfl ?_
    refine T_bipush 9 (am_dec tX9_mix_0 38 rfl) rfl ⟨by decide, by decide⟩ ?_
    refine T_icmp_ge 104 (am_dec tX9_mix_0 39 rfl) rfl (fun h69 => ?_) (fun h69 => by exfalso; omega)
    have e9 : i = 9 := by omega
    rw [← e9] at k9
    exact k9 r rfl (by first | exact hinv | omega)
  | succ n ih =>
    intro i r hi9 h0i hinv k9
    have i1 := hinv
    refine T_iload (am_dec tX9_mix_0 37 rfl) rfl ?_
    refine T_bipush 9 (am_dec tX9_mix_0 38 rfl) rfl ⟨by decide, by decide⟩ ?_
    refine T_icmp_ge 104 (am_dec tX9_mix_0 39 rfl) rfl (fun h69 => by exfalso; omega) (fun h69 => ?_)
    refine T_aload_n (am_dec tX9_mix_1 0 rfl) rfl ?_
    refine T_iload_n (am_dec tX9_mix_1 1 rfl) rfl ?_
    refine T_iload (am_dec tX9_mix_1 2 rfl) rfl ?_
    have nb76 := f_near_b hV cell i
    refine T_callV (as := [aI cell, aI i]) rfl (am_dec tX9_mix_1 3 rfl) lkX9_157 (show (rnW w b hb r)[b]? = some (cO 8 [aR hb, aI (r 0 1), aI (r 0 2), aI (r 0 3), aI (r 0 4), aI (r 0 5), aR (b + 1), aR (b + 2), aR (b + 3), aR (b + 4), aR (b + 5), aR (b + 6), aR (b + 7), aR (b + 8), aR (b + 9)]) from rnW_Rn hl 0 (by decide)) rfl rfl (Nat.le_of_ble_eq_true rfl) (by omega) (m_near (rnW_Rn hl) (rnW_Hb hx hH) hV cell i (by omega) (by omega)) (fun _ => ?_)
    refine T_istore (ls' := [some (aR b), some (aI row), some (aI cell), some (aI all), some (aI cells), some (aI share), some (aI i), some (aI (f_near h cell i))]) (am_dec tX9_mix_1 4 rfl) (by decide) rfl ?_
    refine T_iload (am_dec tX9_mix_1 5 rfl) rfl ?_
    refine T_iconst (-1) (am_dec tX9_mix_1 6 rfl) rfl ⟨by decide, by decide⟩ ?_
    refine T_icmp_eq 98 (am_dec tX9_mix_1 7 rfl) rfl (fun h84 => ?_) (fun h84 => ?_)
    · refine T_iinc (ls' := [some (aR b), some (aI row), some (aI cell), some (aI all), some (aI cells), some (aI share), some (aI (i + 1)), some (aI (f_near h cell i))]) (i + 1) (am_dec tX9_mix_1 15 rfl) rfl rfl ⟨by omega, by omega⟩ (by decide) rfl ?_
      refine T_goto 65 (am_dec tX9_mix_1 16 rfl) rfl ?_
      refine T_weak (ls' := [some (aR b), some (aI row), some (aI cell), some (aI all), some (aI cells), some (aI share), some (aI (i + 1)), none]) (am_sub_s (am_sub_s (am_sub_s (am_sub_s (am_sub_s (am_sub_s (am_sub_s (am_sub_n am_sub_nil)))))))) ?_
      have e9 : (g_mixw h row cell share) i r = r := (by unfold g_mixw; first | rw [if_pos (by omega)] | rw [if_neg (by omega)])
      simp only [am_fold_s, e9] at k9
      exact ih (i + 1) r (by omega) (by omega) i1 k9
    · refine T_aload_n (am_dec tX9_mix_1 8 rfl) rfl ?_
      refine T_getfield 8 6 (am_dec tX9_mix_1 9 rfl) flX9_11_8 (show (rnW w b hb r)[b]? = some (cO 8 [aR hb, aI (r 0 1), aI (r 0 2), aI (r 0 3), aI (r 0 4), aI (r 0 5), aR (b + 1), aR (b + 2), aR (b + 3), aR (b + 4), aR (b + 5), aR (b + 6), aR (b + 7), aR (b + 8), aR (b + 9)]) from rnW_Rn hl 0 (by decide)) rfl ?_
      refine T_iload_n (am_dec tX9_mix_1 10 rfl) rfl ?_
      refine T_iload (am_dec tX9_mix_1 11 rfl) rfl ?_
      refine T_iadd (row + (f_near h cell i)) (am_dec tX9_mix_1 12 rfl) rfl ⟨by omega, by omega⟩ ?_
      refine T_iload (am_dec tX9_mix_1 13 rfl) rfl ?_
      refine T_iastore (am_dec tX9_mix_1 14 rfl) (show (rnW w b hb r)[b + 1]? = some (cP 0 3690 (r 1)) from rnW_Rn hl 1 (by decide)) (by omega) (by omega) ?_
      refine am_wE (w2 := rnW w b hb (am_put r 1 ((row + (f_near h cell i)).toNat) share)) rnW_p1 ?_
      refine T_iinc (ls' := [some (aR b), some (aI row), some (aI cell), some (aI all), some (aI cells), some (aI share), some (aI (i + 1)), some (aI (f_near h cell i))]) (i + 1) (am_dec tX9_mix_1 15 rfl) rfl rfl ⟨by omega, by omega⟩ (by decide) rfl ?_
      refine T_goto 65 (am_dec tX9_mix_1 16 rfl) rfl ?_
      refine T_weak (ls' := [some (aR b), some (aI row), some (aI cell), some (aI all), some (aI cells), some (aI share), some (aI (i + 1)), none]) (am_sub_s (am_sub_s (am_sub_s (am_sub_s (am_sub_s (am_sub_s (am_sub_s (am_sub_n am_sub_nil)))))))) ?_
      have e9 : (g_mixw h row cell share) i r = (am_put r 1 ((row + (f_near h cell i)).toNat) share) := (by unfold g_mixw; first | rw [if_pos (by omega)] | rw [if_neg (by omega)])
      simp only [am_fold_s, e9] at k9
      exact ih (i + 1) (am_put r 1 ((row + (f_near h cell i)).toNat) share) (by omega) (by omega) (am_upB i1 (by omega)) k9
theorem m_mix {S : am_S} {d u : Nat} {w : AH} {b hb : Nat} {r h : am_F} (hl : b + 10 ≤ w.length) (hx : hb + 20 ≤ b ∨ b + 10 ≤ hb) (hH : Hb w hb h) (hV : HbV h) (row cell : Int) (hr : 0 ≤ row ∧ row ≤ 3600) (hc : 0 ≤ cell ∧ cell ≤ 88) (hd : 2 ≤ d) (hB : FgB r 20000) : am_Out S zX9_mix d u [aR b, aI row, aI cell] (rnW w b hb r) (.inl none) (rnW w b hb (f_mix h r row cell)) := by
  refine am_body rfl (by decide +kernel) rfl (am_cats_cons rfl ( am_cats_cons rfl ( am_cats_cons rfl (am_cats_nil)))) (Nat.le_of_ble_eq_true rfl) (?_ : am_T _ _ _ _ _ 0 [some (aR b), some (aI row), some (aI cell), none, none, none, none, none] [] (rnW w b hb r))
  refine T_iconst 0 (am_dec tX9_mix_0 0 rfl) rfl ⟨by decide, by decide⟩ ?_
  refine T_istore_n (ls' := [some (aR b), some (aI row), some (aI cell), some (aI 0), none, none, none, none]) (am_dec tX9_mix_0 1 rfl) (by decide) rfl ?_
  refine T_iconst 0 (am_dec tX9_mix_0 2 rfl) rfl ⟨by decide, by decide⟩ ?_
  refine T_istore (ls' := [some (aR b), some (aI row), some (aI cell), some (aI 0), some (aI 0), none, none, none]) (am_dec tX9_mix_0 3 rfl) (by decide) rfl ?_
  refine T_iconst 0 (am_dec tX9_mix_0 4 rfl) rfl ⟨by decide, by decide⟩ ?_
  refine T_istore (ls' := [some (aR b), some (aI row), some (aI cell), some (aI 0), some (aI 0), some (aI 0), none, none]) (am_dec tX9_mix_0 5 rfl) (by decide) rfl ?_
  refine L_mixr hl hx hH hV row cell hr hc (by omega) hB ((9 : Int) - 0).toNat 0 0 0 (by omega) (by omega) (by omega) (fun all8 cells8 hall8 hcells8 hv8 => ?_)
  simp only [show ((9 : Int) - 0).toNat = 9 from rfl] at hall8 hcells8
  refine T_iload (am_dec tX9_mix_0 29 rfl) rfl ?_
  refine T_if_le 122 (am_dec tX9_mix_0 30 rfl) rfl (fun h53 => ?_) (fun h53 => ?_)
  · exact T_return (am_dec tX9_mix_1 31 rfl) rfl ⟨rfl, by rw [show f_mix h r row cell = r from by unfold f_mix; rw [if_pos (by unfold f_mixr; omega)]]⟩
  · obtain ⟨sh, hsh⟩ : ∃ x : Int, x = all8 / cells8 := ⟨_, rfl⟩
    have s1 : 0 ≤ sh := by rw [hsh]; exact Int.ediv_nonneg (by omega) (by omega)
    have s2 : sh ≤ all8 := by rw [hsh]; exact Int.ediv_le_self _ (by omega)
    have s3 : sh * cells8 ≤ all8 := by rw [hsh]; exact Int.ediv_mul_le _ (by omega)
    have s4 : 0 ≤ sh * cells8 := Int.mul_nonneg s1 (by omega)
    refine T_iload_n (am_dec tX9_mix_0 31 rfl) rfl ?_
    refine T_iload (am_dec tX9_mix_0 32 rfl) rfl ?_
    refine T_idiv (sh) (am_dec tX9_mix_0 33 rfl) (by omega) (by rw [am_td (by omega), ← hsh]) ⟨by omega, by omega⟩ ?_
    refine T_istore (ls' := [some (aR b), some (aI row), some (aI cell), some (aI all8), some (aI cells8), some (aI sh), none, none]) (am_dec tX9_mix_0 34 rfl) (by decide) rfl ?_
    refine T_iconst 0 (am_dec tX9_mix_0 35 rfl) rfl ⟨by decide, by decide⟩ ?_
    refine T_istore (ls' := [some (aR b), some (aI row), some (aI cell), some (aI all8), some (aI cells8), some (aI sh), some (aI 0), none]) (am_dec tX9_mix_0 36 rfl) (by decide) rfl ?_
    refine L_mixw hl hx hH hV row cell hr hc (by omega) all8 cells8 sh ⟨s1, by omega⟩ ((9 : Int) - 0).toNat 0 r (by omega) (by omega) (fun j => ⟨(hB j).1, by have := (hB j).2; omega⟩) (fun r65 hr65 hv65 => ?_)
    simp only [show ((9 : Int) - 0).toNat = 9 from rfl] at hr65
    have f65 := hv65 (row + cell).toNat
    refine T_aload_n (am_dec tX9_mix_1 17 rfl) rfl ?_
    refine T_getfield 8 6 (am_dec tX9_mix_1 18 rfl) flX9_11_8 (show (rnW w b hb r65)[b]? = some (cO 8 [aR hb, aI (r65 0 1), aI (r65 0 2), aI (r65 0 3), aI (r65 0 4), aI (r65 0 5), aR (b + 1), aR (b + 2), aR (b + 3), aR (b + 4), aR (b + 5), aR (b + 6), aR (b + 7), aR (b + 8), aR (b + 9)]) from rnW_Rn hl 0 (by decide)) rfl ?_
    refine T_iload_n (am_dec tX9_mix_1 19 rfl) rfl ?_
    refine T_iload_n (am_dec tX9_mix_1 20 rfl) rfl ?_
    refine T_iadd (row + cell) (am_dec tX9_mix_1 21 rfl) rfl ⟨by omega, by omega⟩ ?_
    refine T_dup2 (am_dec tX9_mix_1 22 rfl) rfl rfl ?_
    refine T_iaload (am_dec tX9_mix_1 23 rfl) (show (rnW w b hb r65)[b + 1]? = some (cP 0 3690 (r65 1)) from rnW_Rn hl 1 (by decide)) (by omega) (by omega) ?_
    refine T_iload_n (am_dec tX9_mix_1 24 rfl) rfl ?_
    refine T_iload (am_dec tX9_mix_1 25 rfl) rfl ?_
    refine T_iload (am_dec tX9_mix_1 26 rfl) rfl ?_
    refine T_imul (sh * cells8) (am_dec tX9_mix_1 27 rfl) rfl ⟨by omega, by omega⟩ ?_
    refine T_isub (all8 - (sh * cells8)) (am_dec tX9_mix_1 28 rfl) rfl ⟨by omega, by omega⟩ ?_
    refine T_iadd (((r65 1) (row + cell).toNat) + (all8 - (sh * cells8))) (am_dec tX9_mix_1 29 rfl) rfl ⟨by omega, by omega⟩ ?_
    refine T_iastore (am_dec tX9_mix_1 30 rfl) (show (rnW w b hb r65)[b + 1]? = some (cP 0 3690 (r65 1)) from rnW_Rn hl 1 (by decide)) (by omega) (by omega) ?_
    refine am_wE (w2 := rnW w b hb (am_put r65 1 ((row + cell).toNat) (((r65 1) (row + cell).toNat) + (all8 - (sh * cells8))))) rnW_p1 ?_
    exact T_return (am_dec tX9_mix_1 31 rfl) rfl ⟨rfl, by unfold f_mix; rw [if_neg (by unfold f_mixr; omega), hr65, hsh, hall8, hcells8]; rfl⟩
