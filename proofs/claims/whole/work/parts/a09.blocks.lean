/-! the port reader: blocks, banks, lots, walks -/
theorem c_readBlock_x {ee ss b : am_F} (h : RdI b) (t : TpI ee) (q : SpI ss) : RdI (c_readBlock ee ss b) ∧ (0 ≤ c_readBlock ee ss b 0 7 ∧ c_readBlock ee ss b 0 7 ≤ c_readBlock ee ss b 0 9 ∧ c_readBlock ee ss b 0 9 < ss 0 0) ∧ (0 ≤ c_readBlock ee ss b 0 8 ∧ c_readBlock ee ss b 0 8 ≤ c_readBlock ee ss b 0 10 ∧ c_readBlock ee ss b 0 10 < ss 0 1) ∧ ∀ k j, ¬ (k = 0 ∧ 2 ≤ j ∧ j ≤ 10) → c_readBlock ee ss b k j = b k j := by
  obtain ⟨v1, v2, v3, v4, v5⟩ := (HbI_A q.1).1
  unfold c_readBlock
  dsimp only
  have b1 := c_number_b ee b (lo := 0) (hi := ss 0 0 - 1) (by omega)
  have x1 := (Rd2.rf h).number t 0 (ss 0 0 - 1)
  generalize c_number ee b 0 (ss 0 0 - 1) = u1 at *
  have i1 : RdI (am_put u1.2 0 7 u1.1) := RdI_k x1.1 (by decide) (by decide) (by decide)
  have b2 := c_number_b ee (am_put u1.2 0 7 u1.1) (lo := 0) (hi := ss 0 1 - 1) (by omega)
  have x2 := (Rd2.rf i1).number t 0 (ss 0 1 - 1)
  generalize c_number ee (am_put u1.2 0 7 u1.1) 0 (ss 0 1 - 1) = u2 at *
  have i2 : RdI (am_put u2.2 0 8 u2.1) := RdI_k x2.1 (by decide) (by decide) (by decide)
  have f27 : u2.2 0 7 = u1.1 := x2.2 0 7 (by decide)
  have b3 := c_number_b ee (am_put u2.2 0 8 u2.1) (lo := u2.2 0 7) (hi := ss 0 0 - 1) (by omega)
  have x3 := (Rd2.rf i2).number t (u2.2 0 7) (ss 0 0 - 1)
  generalize c_number ee (am_put u2.2 0 8 u2.1) (u2.2 0 7) (ss 0 0 - 1) = u3 at *
  have i3 : RdI (am_put u3.2 0 9 u3.1) := RdI_k x3.1 (by decide) (by decide) (by decide)
  have f38 : u3.2 0 8 = u2.1 := x3.2 0 8 (by decide)
  have f37 : u3.2 0 7 = u2.2 0 7 := x3.2 0 7 (by decide)
  have b4 := c_number_b ee (am_put u3.2 0 9 u3.1) (lo := u3.2 0 8) (hi := ss 0 1 - 1) (by omega)
  have x4 := (Rd2.rf i3).number t (u3.2 0 8) (ss 0 1 - 1)
  generalize c_number ee (am_put u3.2 0 9 u3.1) (u3.2 0 8) (ss 0 1 - 1) = u4 at *
  have f47 : u4.2 0 7 = u3.2 0 7 := x4.2 0 7 (by decide)
  have f48 : u4.2 0 8 = u3.2 0 8 := x4.2 0 8 (by decide)
  have f49 : u4.2 0 9 = u3.1 := x4.2 0 9 (by decide)
  refine ⟨RdI_k x4.1 (by decide) (by decide) (by decide), ⟨?_, ?_, ?_⟩, ⟨?_, ?_, ?_⟩, fun k j hk => ?_⟩
  · show 0 ≤ u4.2 0 7; omega
  · show u4.2 0 7 ≤ u4.2 0 9; omega
  · show u4.2 0 9 < _; omega
  · show 0 ≤ u4.2 0 8; omega
  · show u4.2 0 8 ≤ u4.1; omega
  · show u4.1 < _; omega
  · rw [am_put_o (fun e => hk ⟨e.1, by omega, by omega⟩), x4.2 k j (fun e => hk ⟨e.1, by omega, by omega⟩), am_put_o (fun e => hk ⟨e.1, by omega, by omega⟩), x3.2 k j (fun e => hk ⟨e.1, by omega, by omega⟩), am_put_o (fun e => hk ⟨e.1, by omega, by omega⟩), x2.2 k j (fun e => hk ⟨e.1, by omega, by omega⟩), am_put_o (fun e => hk ⟨e.1, by omega, by omega⟩), x1.2 k j (fun e => hk ⟨e.1, by omega, by omega⟩)]
def p_c_blockIsOwned_18 (ss : am_F) (y : Int) : Int → Option Int := fun x => (let v36 : Int := f_lotOn ss (x + (10 * y)); (if v36 = (-1) then none else some 1))
theorem L_c_blockIsOwned_18 {S : am_S} {d u : Nat} {Q : AO → AH → Prop} {w : AH} {hb sp rb rs : Nat} {ro : AV} (hl : 109 ≤ w.length) (hp : hb = 1 ∧ sp = 21 ∨ hb = 21 ∧ sp = 1) (hr : rb = 41 ∧ rs = 46 ∨ rb = 46 ∧ rs = 41) (ee : am_F) (hh : am_F) (ss : am_F) (uu : am_F) (vv : am_F) (pp : am_F) (kk : am_F) (rr : am_F) (tt : am_F) (gg : am_F) (aa : am_F) (dd : am_F) (bd : am_F) (ga : am_F) (im : am_F) (y : Int) (hS : SpI ss) (hbk : (0 ≤ pp 0 7 ∧ pp 0 7 ≤ pp 0 9 ∧ pp 0 9 ≤ 8) ∧ 0 ≤ pp 0 8 ∧ pp 0 8 ≤ pp 0 10 ∧ pp 0 10 ≤ 8) (ho5 : 0 ≤ y ∧ y < (pp 0 10) + 1) (hd : 1 ≤ d) (B9 : Int) (hB : B9 = (pp 0 9) + 1) : ∀ (n : Nat) (x : Int), x + n = B9 → 0 ≤ x → (am_find (p_c_blockIsOwned_18 ss y) x n = none → am_T S zX5_blockIsOwned d u Q 51 [some (aR 52), some (aI y), none] [] (hfW w hb sp rb rs hb (aR sp) ro ee hh ss uu vv pp kk rr tt gg aa dd bd ga im)) → (∀ r9, am_find (p_c_blockIsOwned_18 ss y) x n = some r9 → Q (.inl (some (aI r9))) (hfW w hb sp rb rs hb (aR sp) ro ee hh ss uu vv pp kk rr tt gg aa dd bd ga im)) → am_T S zX5_blockIsOwned d u Q 18 [some (aR 52), some (aI y), some (aI x)] [] (hfW w hb sp rb rs hb (aR sp) ro ee hh ss uu vv pp kk rr tt gg aa dd bd ga im) := by
  intro n
  induction n with
  | zero =>
    intro x hi9 h0i k9 kr9
    have e9 : x = B9 := by omega
    subst e9
    obtain ⟨vs1, vs2, vs3, vs4, vs5, vs6, vs7, vs8, vs9, vs10, vs11, vs12, vs13, vs14, vs15, vs16, vs17, vs18, vs19, vs20, vs21, vs22⟩ := (HbI_A hS.1).1
    refine T_iload_n (am_dec tX5_blockIsOwned_0 10 rfl) rfl ?_
    refine T_aload_n (am_dec tX5_blockIsOwned_0 11 rfl) rfl ?_
    refine T_getfield 5 9 (am_dec tX5_blockIsOwned_0 12 rfl) flX5_134_5 (show (hfW w hb sp rb rs hb (aR sp) ro ee hh ss uu vv pp kk rr tt gg aa dd bd ga im)[52]? = some (cO 5 [aR 51, aI (pp 0 1), aI (pp 0 2), aI (pp 0 3), aI (pp 0 4), aI (pp 0 5), aR sp, aI (pp 0 7), aI (pp 0 8), aI (pp 0 9), aI (pp 0 10)]) from (hfW_c hl 52 (by decide))) rfl ?_
    refine T_icmp_gt 51 (am_dec tX5_blockIsOwned_0 13 rfl) rfl (fun h23 => ?_) (fun h23 => by exfalso; omega)
    refine T_weak (ls' := [some (aR 52), some (aI y), none]) (am_sub_s (am_sub_s (am_sub_n am_sub_nil))) ?_
    exact k9 rfl
  | succ n ih =>
    intro x hi9 h0i k9 kr9
    obtain ⟨vs1, vs2, vs3, vs4, vs5, vs6, vs7, vs8, vs9, vs10, vs11, vs12, vs13, vs14, vs15, vs16, vs17, vs18, vs19, vs20, vs21, vs22⟩ := (HbI_A hS.1).1
    refine T_iload_n (am_dec tX5_blockIsOwned_0 10 rfl) rfl ?_
    refine T_aload_n (am_dec tX5_blockIsOwned_0 11 rfl) rfl ?_
    refine T_getfield 5 9 (am_dec tX5_blockIsOwned_0 12 rfl) flX5_134_5 (show (hfW w hb sp rb rs hb (aR sp) ro ee hh ss uu vv pp kk rr tt gg aa dd bd ga im)[52]? = some (cO 5 [aR 51, aI (pp 0 1), aI (pp 0 2), aI (pp 0 3), aI (pp 0 4), aI (pp 0 5), aR sp, aI (pp 0 7), aI (pp 0 8), aI (pp 0 9), aI (pp 0 10)]) from (hfW_c hl 52 (by decide))) rfl ?_
    refine T_icmp_gt 51 (am_dec tX5_blockIsOwned_0 13 rfl) rfl (fun h23 => by exfalso; omega) (fun h23 => ?_)
    refine T_aload_n (am_dec tX5_blockIsOwned_0 14 rfl) rfl ?_
    refine T_getfield 5 6 (am_dec tX5_blockIsOwned_0 15 rfl) flX5_9_5 (show (hfW w hb sp rb rs hb (aR sp) ro ee hh ss uu vv pp kk rr tt gg aa dd bd ga im)[52]? = some (cO 5 [aR 51, aI (pp 0 1), aI (pp 0 2), aI (pp 0 3), aI (pp 0 4), aI (pp 0 5), aR sp, aI (pp 0 7), aI (pp 0 8), aI (pp 0 9), aI (pp 0 10)]) from (hfW_c hl 52 (by decide))) rfl ?_
    refine T_iload_n (am_dec tX5_blockIsOwned_0 16 rfl) rfl ?_
    refine T_bipush 10 (am_dec tX5_blockIsOwned_0 17 rfl) rfl ⟨by decide, by decide⟩ ?_
    refine T_iload_n (am_dec tX5_blockIsOwned_0 18 rfl) rfl ?_
    refine T_imul (10 * y) (am_dec tX5_blockIsOwned_0 19 rfl) rfl ⟨by omega, by omega⟩ ?_
    refine T_iadd (x + (10 * y)) (am_dec tX5_blockIsOwned_0 20 rfl) rfl ⟨by omega, by omega⟩ ?_
    refine T_callV (as := [aI (x + (10 * y))]) rfl (am_dec tX5_blockIsOwned_0 21 rfl) lkX5_192 (show (hfW w hb sp rb rs hb (aR sp) ro ee hh ss uu vv pp kk rr tt gg aa dd bd ga im)[sp]? = some (cO 3 [aI (ss 0 0), aI (ss 0 1), aI (ss 0 2), aR (sp + 1), aR (sp + 3), aR (sp + 5), aR (sp + 7), aR (sp + 9), aR (sp + 11), aR (sp + 13), aR (sp + 15), aR (sp + 17), aR (sp + 18), aR (sp + 19)]) from ((hf_S hl hp) 0 (by decide))) rfl rfl (Nat.le_of_ble_eq_true rfl) (by omega) (m_lotOn (d := d - 1) (hf_S hl hp) (x + (10 * y))) (fun _ => ?_)
    refine T_nm (fun v36 hv36 => ?_)
    refine T_iconst (-1) (am_dec tX5_blockIsOwned_0 22 rfl) rfl ⟨by decide, by decide⟩ ?_
    refine T_icmp_eq 45 (am_dec tX5_blockIsOwned_0 23 rfl) rfl (fun h40 => ?_) (fun h40 => ?_)
    · refine T_iinc (ls' := [some (aR 52), some (aI y), some (aI (x + 1))]) (x + 1) (am_dec tX5_blockIsOwned_0 26 rfl) rfl rfl ⟨by omega, by omega⟩ (by decide) rfl ?_
      refine T_goto 18 (am_dec tX5_blockIsOwned_0 27 rfl) rfl ?_
      have e9 : (p_c_blockIsOwned_18 ss y) x = none := (by have s9 := hv36.symm; subst s9; exact (if_pos h40))
      rw [am_find_n e9] at k9 kr9
      exact ih (x + 1) (by omega) (by omega) k9 kr9
    · refine T_iconst 1 (am_dec tX5_blockIsOwned_0 24 rfl) rfl ⟨by decide, by decide⟩ ?_
      exact T_zreturn (am_dec tX5_blockIsOwned_0 25 rfl) rfl (by first | exact Or.inl rfl | exact Or.inr rfl | omega) (kr9 _ (am_find_y (show (p_c_blockIsOwned_18 ss y) x = some 1 from (by have s9 := hv36.symm; subst s9; exact (if_neg h40)))))
def p_c_blockIsOwned_5 (ss : am_F) (pp : am_F) : Int → Option Int := fun y => (Option.elim (am_find (p_c_blockIsOwned_18 ss y) (pp 0 7) ((pp 0 9) + 1 - (pp 0 7)).toNat) none (fun r9 => some r9))
theorem L_c_blockIsOwned_5 {S : am_S} {d u : Nat} {Q : AO → AH → Prop} {w : AH} {hb sp rb rs : Nat} {ro : AV} (hl : 109 ≤ w.length) (hp : hb = 1 ∧ sp = 21 ∨ hb = 21 ∧ sp = 1) (hr : rb = 41 ∧ rs = 46 ∨ rb = 46 ∧ rs = 41) (ee : am_F) (hh : am_F) (ss : am_F) (uu : am_F) (vv : am_F) (pp : am_F) (kk : am_F) (rr : am_F) (tt : am_F) (gg : am_F) (aa : am_F) (dd : am_F) (bd : am_F) (ga : am_F) (im : am_F) (hS : SpI ss) (hbk : (0 ≤ pp 0 7 ∧ pp 0 7 ≤ pp 0 9 ∧ pp 0 9 ≤ 8) ∧ 0 ≤ pp 0 8 ∧ pp 0 8 ≤ pp 0 10 ∧ pp 0 10 ≤ 8)  (hd : 1 ≤ d) (B9 : Int) (hB : B9 = (pp 0 10) + 1) : ∀ (n : Nat) (y : Int), y + n = B9 → 0 ≤ y → (am_find (p_c_blockIsOwned_5 ss pp) y n = none → am_T S zX5_blockIsOwned d u Q 57 [none, none, none] [] (hfW w hb sp rb rs hb (aR sp) ro ee hh ss uu vv pp kk rr tt gg aa dd bd ga im)) → (∀ r9, am_find (p_c_blockIsOwned_5 ss pp) y n = some r9 → Q (.inl (some (aI r9))) (hfW w hb sp rb rs hb (aR sp) ro ee hh ss uu vv pp kk rr tt gg aa dd bd ga im)) → am_T S zX5_blockIsOwned d u Q 5 [some (aR 52), some (aI y), none] [] (hfW w hb sp rb rs hb (aR sp) ro ee hh ss uu vv pp kk rr tt gg aa dd bd ga im) := by
  intro n
  induction n with
  | zero =>
    intro y hi9 h0i k9 kr9
    have e9 : y = B9 := by omega
    subst e9
    obtain ⟨vs1, vs2, vs3, vs4, vs5, vs6, vs7, vs8, vs9, vs10, vs11, vs12, vs13, vs14, vs15, vs16, vs17, vs18, vs19, vs20, vs21, vs22⟩ := (HbI_A hS.1).1
    refine T_iload_n (am_dec tX5_blockIsOwned_0 3 rfl) rfl ?_
    refine T_aload_n (am_dec tX5_blockIsOwned_0 4 rfl) rfl ?_
    refine T_getfield 5 10 (am_dec tX5_blockIsOwned_0 5 rfl) flX5_137_5 (show (hfW w hb sp rb rs hb (aR sp) ro ee hh ss uu vv pp kk rr tt gg aa dd bd ga im)[52]? = some (cO 5 [aR 51, aI (pp 0 1), aI (pp 0 2), aI (pp 0 3), aI (pp 0 4), aI (pp 0 5), aR sp, aI (pp 0 7), aI (pp 0 8), aI (pp 0 9), aI (pp 0 10)]) from (hfW_c hl 52 (by decide))) rfl ?_
    refine T_icmp_gt 57 (am_dec tX5_blockIsOwned_0 6 rfl) rfl (fun h10 => ?_) (fun h10 => by exfalso; omega)
    refine T_weak (ls' := [none, none, none]) (am_sub_n (am_sub_n (am_sub_n am_sub_nil))) ?_
    exact k9 rfl
  | succ n ih =>
    intro y hi9 h0i k9 kr9
    obtain ⟨vs1, vs2, vs3, vs4, vs5, vs6, vs7, vs8, vs9, vs10, vs11, vs12, vs13, vs14, vs15, vs16, vs17, vs18, vs19, vs20, vs21, vs22⟩ := (HbI_A hS.1).1
    refine T_iload_n (am_dec tX5_blockIsOwned_0 3 rfl) rfl ?_
    refine T_aload_n (am_dec tX5_blockIsOwned_0 4 rfl) rfl ?_
    refine T_getfield 5 10 (am_dec tX5_blockIsOwned_0 5 rfl) flX5_137_5 (show (hfW w hb sp rb rs hb (aR sp) ro ee hh ss uu vv pp kk rr tt gg aa dd bd ga im)[52]? = some (cO 5 [aR 51, aI (pp 0 1), aI (pp 0 2), aI (pp 0 3), aI (pp 0 4), aI (pp 0 5), aR sp, aI (pp 0 7), aI (pp 0 8), aI (pp 0 9), aI (pp 0 10)]) from (hfW_c hl 52 (by decide))) rfl ?_
    refine T_icmp_gt 57 (am_dec tX5_blockIsOwned_0 6 rfl) rfl (fun h10 => by exfalso; omega) (fun h10 => ?_)
    refine T_aload_n (am_dec tX5_blockIsOwned_0 7 rfl) rfl ?_
    refine T_getfield 5 7 (am_dec tX5_blockIsOwned_0 8 rfl) flX5_128_5 (show (hfW w hb sp rb rs hb (aR sp) ro ee hh ss uu vv pp kk rr tt gg aa dd bd ga im)[52]? = some (cO 5 [aR 51, aI (pp 0 1), aI (pp 0 2), aI (pp 0 3), aI (pp 0 4), aI (pp 0 5), aR sp, aI (pp 0 7), aI (pp 0 8), aI (pp 0 9), aI (pp 0 10)]) from (hfW_c hl 52 (by decide))) rfl ?_
    refine T_istore_n (ls' := [some (aR 52), some (aI y), some (aI (pp 0 7))]) (am_dec tX5_blockIsOwned_0 9 rfl) (by decide) rfl ?_
    refine L_c_blockIsOwned_18 hl hp hr ee hh ss uu vv pp kk rr tt gg aa dd bd ga im y hS hbk (by omega) (by omega) _ rfl ((pp 0 9) + 1 - (pp 0 7)).toNat (pp 0 7)  (by omega) (by omega) (fun hn18 => ?_) (fun r18 hr18 => (kr9 _ (am_find_y (show (p_c_blockIsOwned_5 ss pp) y = some r18 from (am_el_s hr18)))))
    refine T_iinc (ls' := [some (aR 52), some (aI (y + 1)), none]) (y + 1) (am_dec tX5_blockIsOwned_0 28 rfl) rfl rfl ⟨by omega, by omega⟩ (by decide) rfl ?_
    refine T_goto 5 (am_dec tX5_blockIsOwned_0 29 rfl) rfl ?_
    have e9 : (p_c_blockIsOwned_5 ss pp) y = none := (am_el_n hn18)
    rw [am_find_n e9] at k9 kr9
    exact ih (y + 1) (by omega) (by omega) k9 kr9
def c_blockIsOwned (ss : am_F) (pp : am_F) : Int := (Option.elim (am_find (p_c_blockIsOwned_5 ss pp) (pp 0 8) ((pp 0 10) + 1 - (pp 0 8)).toNat) 0 (fun r9 => r9))
theorem mc_blockIsOwned {S : am_S} {d u : Nat} {w : AH} {hb sp rb rs : Nat} {ro : AV} (hl : 109 ≤ w.length) (hp : hb = 1 ∧ sp = 21 ∨ hb = 21 ∧ sp = 1) (hr : rb = 41 ∧ rs = 46 ∨ rb = 46 ∧ rs = 41) {ee : am_F} {hh : am_F} {ss : am_F} {uu : am_F} {vv : am_F} {pp : am_F} {kk : am_F} {rr : am_F} {tt : am_F} {gg : am_F} {aa : am_F} {dd : am_F} {bd : am_F} {ga : am_F} {im : am_F}  (hS : SpI ss) (hbk : (0 ≤ pp 0 7 ∧ pp 0 7 ≤ pp 0 9 ∧ pp 0 9 ≤ 8) ∧ 0 ≤ pp 0 8 ∧ pp 0 8 ≤ pp 0 10 ∧ pp 0 10 ≤ 8)  (hd : 1 ≤ d) : am_Out S zX5_blockIsOwned d u [aR 52] (hfW w hb sp rb rs hb (aR sp) ro ee hh ss uu vv pp kk rr tt gg aa dd bd ga im) (.inl (some (aI (c_blockIsOwned ss pp)))) (hfW w hb sp rb rs hb (aR sp) ro ee hh ss uu vv pp kk rr tt gg aa dd bd ga im) := by
  have key : ∀ Q : AO → AH → Prop, Q (.inl (some (aI (c_blockIsOwned ss pp)))) (hfW w hb sp rb rs hb (aR sp) ro ee hh ss uu vv pp kk rr tt gg aa dd bd ga im) → am_M S zX5_blockIsOwned d u [aR 52] (hfW w hb sp rb rs hb (aR sp) ro ee hh ss uu vv pp kk rr tt gg aa dd bd ga im) Q := by
    intro Q hQ
    refine am_body rfl (by decide +kernel) rfl (am_cats_cons rfl (am_cats_nil)) (Nat.le_of_ble_eq_true rfl) (?_ : am_T _ _ _ _ _ 0 [some (aR 52), none, none] [] (hfW w hb sp rb rs hb (aR sp) ro ee hh ss uu vv pp kk rr tt gg aa dd bd ga im))
    obtain ⟨vs1, vs2, vs3, vs4, vs5, vs6, vs7, vs8, vs9, vs10, vs11, vs12, vs13, vs14, vs15, vs16, vs17, vs18, vs19, vs20, vs21, vs22⟩ := (HbI_A hS.1).1
    refine T_aload_n (am_dec tX5_blockIsOwned_0 0 rfl) rfl ?_
    refine T_getfield 5 8 (am_dec tX5_blockIsOwned_0 1 rfl) flX5_131_5 (show (hfW w hb sp rb rs hb (aR sp) ro ee hh ss uu vv pp kk rr tt gg aa dd bd ga im)[52]? = some (cO 5 [aR 51, aI (pp 0 1), aI (pp 0 2), aI (pp 0 3), aI (pp 0 4), aI (pp 0 5), aR sp, aI (pp 0 7), aI (pp 0 8), aI (pp 0 9), aI (pp 0 10)]) from (hfW_c hl 52 (by decide))) rfl ?_
    refine T_istore_n (ls' := [some (aR 52), some (aI (pp 0 8)), none]) (am_dec tX5_blockIsOwned_0 2 rfl) (by decide) rfl ?_
    refine L_c_blockIsOwned_5 hl hp hr ee hh ss uu vv pp kk rr tt gg aa dd bd ga im hS hbk  (by omega) _ rfl ((pp 0 10) + 1 - (pp 0 8)).toNat (pp 0 8)  (by omega) (by omega) (fun hn5 => ?_) (fun r5 hr5 => (am_tr (fun (x9 : Int) => Q (.inl (some (aI (x9)))) (hfW w hb sp rb rs hb (aR sp) ro ee hh ss uu vv pp kk rr tt gg aa dd bd ga im)) (y := r5) (show (c_blockIsOwned ss pp) = r5 from (am_el_s hr5)) hQ))
    refine T_iconst 0 (am_dec tX5_blockIsOwned_0 30 rfl) rfl ⟨by decide, by decide⟩ ?_
    exact T_zreturn (am_dec tX5_blockIsOwned_0 31 rfl) rfl (by first | exact Or.inl rfl | exact Or.inr rfl | omega) (am_tr (fun (x9 : Int) => Q (.inl (some (aI (x9)))) (hfW w hb sp rb rs hb (aR sp) ro ee hh ss uu vv pp kk rr tt gg aa dd bd ga im)) (y := 0) (show (c_blockIsOwned ss pp) = 0 from (am_el_n hn5)) hQ)
  exact key _ ⟨rfl, rfl⟩
def c_giveToS (ss : am_F) (lot : Int) (cell : Int) : am_F := (if cell < 0 then ss else (if 90 ≤ cell then ss else (am_put ss 10 cell.toNat lot)))
theorem mc_giveToS {S : am_S} {d u : Nat} {w : AH} {hb sp rb rs : Nat} {ro : AV} (hl : 109 ≤ w.length) (hp : hb = 1 ∧ sp = 21 ∨ hb = 21 ∧ sp = 1) (hr : rb = 41 ∧ rs = 46 ∨ rb = 46 ∧ rs = 41) {ee : am_F} {hh : am_F} {ss : am_F} {uu : am_F} {vv : am_F} {pp : am_F} {kk : am_F} {rr : am_F} {tt : am_F} {gg : am_F} {aa : am_F} {dd : am_F} {bd : am_F} {ga : am_F} {im : am_F} (lot : Int) (cell : Int)   (hd : 1 ≤ d) : am_Out S zX3_giveTo d u [aR sp, aI lot, aI cell] (hfW w hb sp rb rs hb (aR sp) ro ee hh ss uu vv pp kk rr tt gg aa dd bd ga im) (.inl none) (hfW w hb sp rb rs hb (aR sp) ro ee hh (c_giveToS ss lot cell) uu vv pp kk rr tt gg aa dd bd ga im) := by
  have key : ∀ Q : AO → AH → Prop, Q (.inl none) (hfW w hb sp rb rs hb (aR sp) ro ee hh (c_giveToS ss lot cell) uu vv pp kk rr tt gg aa dd bd ga im) → am_M S zX3_giveTo d u [aR sp, aI lot, aI cell] (hfW w hb sp rb rs hb (aR sp) ro ee hh ss uu vv pp kk rr tt gg aa dd bd ga im) Q := by
    intro Q hQ
    refine am_body rfl (by decide +kernel) rfl (am_cats_cons rfl ( am_cats_cons rfl ( am_cats_cons rfl (am_cats_nil)))) (Nat.le_of_ble_eq_true rfl) (?_ : am_T _ _ _ _ _ 0 [some (aR sp), some (aI lot), some (aI cell)] [] (hfW w hb sp rb rs hb (aR sp) ro ee hh ss uu vv pp kk rr tt gg aa dd bd ga im))
    refine T_iload_n (am_dec tX3_giveTo_0 0 rfl) rfl ?_
    have K1 : ∀ (ss1 : am_F), ss1 = (if cell < 0 then ss else (if 90 ≤ cell then ss else (am_put ss 10 cell.toNat lot))) →  am_T S zX3_giveTo d u Q 17 [none, none, none] [] (hfW w hb sp rb rs hb (aR sp) ro ee hh ss1 uu vv pp kk rr tt gg aa dd bd ga im) := by
      intro ss1 hss1 
      exact T_return (am_dec tX3_giveTo_0 10 rfl) rfl (am_tr (fun (x9 : am_F) => Q (.inl none) (hfW w hb sp rb rs hb (aR sp) ro ee hh x9 uu vv pp kk rr tt gg aa dd bd ga im)) (y := ss1) (show (c_giveToS ss lot cell) = ss1 from (by have s9 := hss1.symm; subst s9; exact rfl)) hQ)
    refine T_if_lt 17 (am_dec tX3_giveTo_0 1 rfl) rfl (fun h1 => ?_) (fun h1 => ?_)
    · refine T_weak (ls' := [none, none, none]) (am_sub_n (am_sub_n (am_sub_n am_sub_nil))) ?_
      exact K1 _ (if_pos h1).symm 
    · refine T_iload_n (am_dec tX3_giveTo_0 2 rfl) rfl ?_
      refine T_bipush 90 (am_dec tX3_giveTo_0 3 rfl) rfl ⟨by decide, by decide⟩ ?_
      have K7 : ∀ (ss7 : am_F), ss7 = (if 90 ≤ cell then ss else (am_put ss 10 cell.toNat lot)) →  am_T S zX3_giveTo d u Q 17 [none, none, none] [] (hfW w hb sp rb rs hb (aR sp) ro ee hh ss7 uu vv pp kk rr tt gg aa dd bd ga im) := by
        intro ss7 hss7 
        exact K1 _ (by have s9 := hss7.symm; subst s9; exact (if_neg h1).symm) 
      refine T_icmp_ge 17 (am_dec tX3_giveTo_0 4 rfl) rfl (fun h7 => ?_) (fun h7 => ?_)
      · refine T_weak (ls' := [none, none, none]) (am_sub_n (am_sub_n (am_sub_n am_sub_nil))) ?_
        exact K7 _ (if_pos h7).symm 
      · refine T_aload_n (am_dec tX3_giveTo_0 5 rfl) rfl ?_
        refine T_getfield 3 12 (am_dec tX3_giveTo_0 6 rfl) flX3_45_3 (show (hfW w hb sp rb rs hb (aR sp) ro ee hh ss uu vv pp kk rr tt gg aa dd bd ga im)[sp]? = some (cO 3 [aI (ss 0 0), aI (ss 0 1), aI (ss 0 2), aR (sp + 1), aR (sp + 3), aR (sp + 5), aR (sp + 7), aR (sp + 9), aR (sp + 11), aR (sp + 13), aR (sp + 15), aR (sp + 17), aR (sp + 18), aR (sp + 19)]) from ((hf_S hl hp) 0 (by decide))) rfl ?_
        refine T_iload_n (am_dec tX3_giveTo_0 7 rfl) rfl ?_
        refine T_iload_n (am_dec tX3_giveTo_0 8 rfl) rfl ?_
        refine T_iastore (am_dec tX3_giveTo_0 9 rfl) (show (hfW w hb sp rb rs hb (aR sp) ro ee hh ss uu vv pp kk rr tt gg aa dd bd ga im)[sp + 18]? = some (cP 0 90 (ss 10)) from ((hf_S hl hp) 18 (by decide))) (by omega) (by omega) ?_
        refine am_wE (w2 := hfW w hb sp rb rs hb (aR sp) ro ee hh (am_put ss 10 cell.toNat lot) uu vv pp kk rr tt gg aa dd bd ga im) (am_via (hf_uS hp) (hbW_p18 (w := hfW w hb sp rb rs hb (aR sp) ro ee hh ss uu vv pp kk rr tt gg aa dd bd ga im)) (hf_uS hp)) ?_
        refine T_weak (ls' := [none, none, none]) (am_sub_n (am_sub_n (am_sub_n am_sub_nil))) ?_
        exact K7 _ (if_neg h7).symm 
  exact key _ ⟨rfl, rfl⟩
def c_putPathS (ss : am_F) (wk : Int) (mv : Int) (cell : Int) : am_F := (if wk < 0 then ss else (if 4 ≤ wk then ss else (if mv < 0 then ss else (if 12 < mv then ss else (am_put ss 9 (((wk * 13) + mv).toNat) cell)))))
theorem mc_putPathS {S : am_S} {d u : Nat} {w : AH} {hb sp rb rs : Nat} {ro : AV} (hl : 109 ≤ w.length) (hp : hb = 1 ∧ sp = 21 ∨ hb = 21 ∧ sp = 1) (hr : rb = 41 ∧ rs = 46 ∨ rb = 46 ∧ rs = 41) {ee : am_F} {hh : am_F} {ss : am_F} {uu : am_F} {vv : am_F} {pp : am_F} {kk : am_F} {rr : am_F} {tt : am_F} {gg : am_F} {aa : am_F} {dd : am_F} {bd : am_F} {ga : am_F} {im : am_F} (wk : Int) (mv : Int) (cell : Int)   (hd : 1 ≤ d) : am_Out S zX3_putPath d u [aR sp, aI wk, aI mv, aI cell] (hfW w hb sp rb rs hb (aR sp) ro ee hh ss uu vv pp kk rr tt gg aa dd bd ga im) (.inl none) (hfW w hb sp rb rs hb (aR sp) ro ee hh (c_putPathS ss wk mv cell) uu vv pp kk rr tt gg aa dd bd ga im) := by
  have key : ∀ Q : AO → AH → Prop, Q (.inl none) (hfW w hb sp rb rs hb (aR sp) ro ee hh (c_putPathS ss wk mv cell) uu vv pp kk rr tt gg aa dd bd ga im) → am_M S zX3_putPath d u [aR sp, aI wk, aI mv, aI cell] (hfW w hb sp rb rs hb (aR sp) ro ee hh ss uu vv pp kk rr tt gg aa dd bd ga im) Q := by
    intro Q hQ
    refine am_body rfl (by decide +kernel) rfl (am_cats_cons rfl ( am_cats_cons rfl ( am_cats_cons rfl ( am_cats_cons rfl (am_cats_nil))))) (Nat.le_of_ble_eq_true rfl) (?_ : am_T _ _ _ _ _ 0 [some (aR sp), some (aI wk), some (aI mv), some (aI cell)] [] (hfW w hb sp rb rs hb (aR sp) ro ee hh ss uu vv pp kk rr tt gg aa dd bd ga im))
    refine T_iload_n (am_dec tX3_putPath_0 0 rfl) rfl ?_
    have K1 : ∀ (ss1 : am_F), ss1 = (if wk < 0 then ss else (if 4 ≤ wk then ss else (if mv < 0 then ss else (if 12 < mv then ss else (am_put ss 9 (((wk * 13) + mv).toNat) cell))))) →  am_T S zX3_putPath d u Q 31 [none, none, none, none] [] (hfW w hb sp rb rs hb (aR sp) ro ee hh ss1 uu vv pp kk rr tt gg aa dd bd ga im) := by
      intro ss1 hss1 
      exact T_return (am_dec tX3_putPath_0 19 rfl) rfl (am_tr (fun (x9 : am_F) => Q (.inl none) (hfW w hb sp rb rs hb (aR sp) ro ee hh x9 uu vv pp kk rr tt gg aa dd bd ga im)) (y := ss1) (show (c_putPathS ss wk mv cell) = ss1 from (by have s9 := hss1.symm; subst s9; exact rfl)) hQ)
    refine T_if_lt 31 (am_dec tX3_putPath_0 1 rfl) rfl (fun h1 => ?_) (fun h1 => ?_)
    · refine T_weak (ls' := [none, none, none, none]) (am_sub_n (am_sub_n (am_sub_n (am_sub_n am_sub_nil)))) ?_
      exact K1 _ (if_pos h1).symm 
    · refine T_iload_n (am_dec tX3_putPath_0 2 rfl) rfl ?_
      refine T_iconst 4 (am_dec tX3_putPath_0 3 rfl) rfl ⟨by decide, by decide⟩ ?_
      have K6 : ∀ (ss6 : am_F), ss6 = (if 4 ≤ wk then ss else (if mv < 0 then ss else (if 12 < mv then ss else (am_put ss 9 (((wk * 13) + mv).toNat) cell)))) →  am_T S zX3_putPath d u Q 31 [none, none, none, none] [] (hfW w hb sp rb rs hb (aR sp) ro ee hh ss6 uu vv pp kk rr tt gg aa dd bd ga im) := by
        intro ss6 hss6 
        exact K1 _ (by have s9 := hss6.symm; subst s9; exact (if_neg h1).symm) 
      refine T_icmp_ge 31 (am_dec tX3_putPath_0 4 rfl) rfl (fun h6 => ?_) (fun h6 => ?_)
      · refine T_weak (ls' := [none, none, none, none]) (am_sub_n (am_sub_n (am_sub_n (am_sub_n am_sub_nil)))) ?_
        exact K6 _ (if_pos h6).symm 
      · refine T_iload_n (am_dec tX3_putPath_0 5 rfl) rfl ?_
        have K10 : ∀ (ss10 : am_F), ss10 = (if mv < 0 then ss else (if 12 < mv then ss else (am_put ss 9 (((wk * 13) + mv).toNat) cell))) →  am_T S zX3_putPath d u Q 31 [none, none, none, none] [] (hfW w hb sp rb rs hb (aR sp) ro ee hh ss10 uu vv pp kk rr tt gg aa dd bd ga im) := by
          intro ss10 hss10 
          exact K6 _ (by have s9 := hss10.symm; subst s9; exact (if_neg h6).symm) 
        refine T_if_lt 31 (am_dec tX3_putPath_0 6 rfl) rfl (fun h10 => ?_) (fun h10 => ?_)
        · refine T_weak (ls' := [none, none, none, none]) (am_sub_n (am_sub_n (am_sub_n (am_sub_n am_sub_nil)))) ?_
          exact K10 _ (if_pos h10).symm 
        · refine T_iload_n (am_dec tX3_putPath_0 7 rfl) rfl ?_
          refine T_bipush 12 (am_dec tX3_putPath_0 8 rfl) rfl ⟨by decide, by decide⟩ ?_
          have K16 : ∀ (ss16 : am_F), ss16 = (if 12 < mv then ss else (am_put ss 9 (((wk * 13) + mv).toNat) cell)) →  am_T S zX3_putPath d u Q 31 [none, none, none, none] [] (hfW w hb sp rb rs hb (aR sp) ro ee hh ss16 uu vv pp kk rr tt gg aa dd bd ga im) := by
            intro ss16 hss16 
            exact K10 _ (by have s9 := hss16.symm; subst s9; exact (if_neg h10).symm) 
          refine T_icmp_gt 31 (am_dec tX3_putPath_0 9 rfl) rfl (fun h16 => ?_) (fun h16 => ?_)
          · refine T_weak (ls' := [none, none, none, none]) (am_sub_n (am_sub_n (am_sub_n (am_sub_n am_sub_nil)))) ?_
            exact K16 _ (if_pos h16).symm 
          · refine T_aload_n (am_dec tX3_putPath_0 10 rfl) rfl ?_
            refine T_getfield 3 11 (am_dec tX3_putPath_0 11 rfl) flX3_41_3 (show (hfW w hb sp rb rs hb (aR sp) ro ee hh ss uu vv pp kk rr tt gg aa dd bd ga im)[sp]? = some (cO 3 [aI (ss 0 0), aI (ss 0 1), aI (ss 0 2), aR (sp + 1), aR (sp + 3), aR (sp + 5), aR (sp + 7), aR (sp + 9), aR (sp + 11), aR (sp + 13), aR (sp + 15), aR (sp + 17), aR (sp + 18), aR (sp + 19)]) from ((hf_S hl hp) 0 (by decide))) rfl ?_
            refine T_iload_n (am_dec tX3_putPath_0 12 rfl) rfl ?_
            refine T_bipush 13 (am_dec tX3_putPath_0 13 rfl) rfl ⟨by decide, by decide⟩ ?_
            refine T_imul (wk * 13) (am_dec tX3_putPath_0 14 rfl) rfl ⟨by omega, by omega⟩ ?_
            refine T_iload_n (am_dec tX3_putPath_0 15 rfl) rfl ?_
            refine T_iadd ((wk * 13) + mv) (am_dec tX3_putPath_0 16 rfl) rfl ⟨by omega, by omega⟩ ?_
            refine T_iload_n (am_dec tX3_putPath_0 17 rfl) rfl ?_
            refine T_iastore (am_dec tX3_putPath_0 18 rfl) (show (hfW w hb sp rb rs hb (aR sp) ro ee hh ss uu vv pp kk rr tt gg aa dd bd ga im)[sp + 17]? = some (cP 0 52 (ss 9)) from ((hf_S hl hp) 17 (by decide))) (by omega) (by omega) ?_
            refine am_wE (w2 := hfW w hb sp rb rs hb (aR sp) ro ee hh (am_put ss 9 (((wk * 13) + mv).toNat) cell) uu vv pp kk rr tt gg aa dd bd ga im) (am_via (hf_uS hp) (hbW_p17 (w := hfW w hb sp rb rs hb (aR sp) ro ee hh ss uu vv pp kk rr tt gg aa dd bd ga im)) (hf_uS hp)) ?_
            refine T_weak (ls' := [none, none, none, none]) (am_sub_n (am_sub_n (am_sub_n (am_sub_n am_sub_nil)))) ?_
            exact K16 _ (if_neg h16).symm 
  exact key _ ⟨rfl, rfl⟩
theorem c_giveToS_I {h : am_F} (q : SpI h) (l c : Int) (hl : -1 ≤ l ∧ l < 6) : SpI (c_giveToS h l c) := by
  unfold c_giveToS
  repeat' split
  all_goals first | exact q | exact SpI_lot q _ _ hl
theorem c_putPathS_I {h : am_F} (q : SpI h) (k m c : Int) (hc : 0 ≤ c ∧ c ≤ 88) : SpI (c_putPathS h k m c) := by
  unfold c_putPathS
  repeat' split
  all_goals first | exact q | exact SpI_path q _ _ hc
theorem c_putPathS_0 (h : am_F) (k m c : Int) (r j : Nat) (hr : r ≠ 9) : c_putPathS h k m c r j = h r j := by
  unfold c_putPathS
  repeat' split
  all_goals first | rfl | exact congrFun (if_neg hr) j | (unfold am_put; rw [if_neg hr])
theorem c_giveToS_0 (h : am_F) (l c : Int) (r j : Nat) (hr : r ≠ 10) : c_giveToS h l c r j = h r j := by
  unfold c_giveToS
  repeat' split
  all_goals first | rfl | (unfold am_put; rw [if_neg hr])
def g_c_ownBlock_18 (y : Int) (x : Int) (ss : am_F) : am_F := c_giveToS ss (ss 0 7) (x + (10 * y))
theorem L_c_ownBlock_18 {S : am_S} {d u : Nat} {Q : AO → AH → Prop} {w : AH} {hb sp rb rs : Nat} {ro : AV} (hl : 109 ≤ w.length) (hp : hb = 1 ∧ sp = 21 ∨ hb = 21 ∧ sp = 1) (hr : rb = 41 ∧ rs = 46 ∨ rb = 46 ∧ rs = 41) (ee : am_F) (hh : am_F) (uu : am_F) (vv : am_F) (pp : am_F) (kk : am_F) (rr : am_F) (tt : am_F) (gg : am_F) (aa : am_F) (dd : am_F) (bd : am_F) (ga : am_F) (im : am_F) (y : Int)  (hbk : (0 ≤ pp 0 7 ∧ pp 0 7 ≤ pp 0 9 ∧ pp 0 9 ≤ 8) ∧ 0 ≤ pp 0 8 ∧ pp 0 8 ≤ pp 0 10 ∧ pp 0 10 ≤ 8) (ho5 : 0 ≤ y ∧ y < (pp 0 10) + 1) (hd : 2 ≤ d) (B9 : Int) (hB : B9 = (pp 0 9) + 1) : ∀ (n : Nat) (x : Int) (ss : am_F), x + n = B9 → 0 ≤ x → SpI ss ∧ ss 0 7 < 6 → (∀ (ss' : am_F), ss' = am_fold (g_c_ownBlock_18 y) x n ss → SpI ss' ∧ ss' 0 7 < 6 → am_T S zX5_ownBlock d u Q 55 [some (aR 52), some (aI y), none] [] (hfW w hb sp rb rs hb (aR sp) ro ee hh ss' uu vv pp kk rr tt gg aa dd bd ga im)) → am_T S zX5_ownBlock d u Q 18 [some (aR 52), some (aI y), some (aI x)] [] (hfW w hb sp rb rs hb (aR sp) ro ee hh ss uu vv pp kk rr tt gg aa dd bd ga im) := by
  intro n
  induction n with
  | zero =>
    intro x ss hi9 h0i hinv k9
    have e9 : x = B9 := by omega
    subst e9
    have hS := hinv.1
    have hl6 := hinv.2
    obtain ⟨vs1, vs2, vs3, vs4, vs5, vs6, vs7, vs8, vs9, vs10, vs11, vs12, vs13, vs14, vs15, vs16, vs17, vs18, vs19, vs20, vs21, vs22⟩ := (HbI_A hS.1).1
    refine T_iload_n (am_dec tX5_ownBlock_0 10 rfl) rfl ?_
    refine T_aload_n (am_dec tX5_ownBlock_0 11 rfl) rfl ?_
    refine T_getfield 5 9 (am_dec tX5_ownBlock_0 12 rfl) flX5_134_5 (show (hfW w hb sp rb rs hb (aR sp) ro ee hh ss uu vv pp kk rr tt gg aa dd bd ga im)[52]? = some (cO 5 [aR 51, aI (pp 0 1), aI (pp 0 2), aI (pp 0 3), aI (pp 0 4), aI (pp 0 5), aR sp, aI (pp 0 7), aI (pp 0 8), aI (pp 0 9), aI (pp 0 10)]) from (hfW_c hl 52 (by decide))) rfl ?_
    refine T_icmp_gt 55 (am_dec tX5_ownBlock_0 13 rfl) rfl (fun h23 => ?_) (fun h23 => by exfalso; omega)
    refine T_weak (ls' := [some (aR 52), some (aI y), none]) (am_sub_s (am_sub_s (am_sub_n am_sub_nil))) ?_
    exact k9 ss rfl hinv
  | succ n ih =>
    intro x ss hi9 h0i hinv k9
    have hS := hinv.1
    have hl6 := hinv.2
    obtain ⟨vs1, vs2, vs3, vs4, vs5, vs6, vs7, vs8, vs9, vs10, vs11, vs12, vs13, vs14, vs15, vs16, vs17, vs18, vs19, vs20, vs21, vs22⟩ := (HbI_A hS.1).1
    refine T_iload_n (am_dec tX5_ownBlock_0 10 rfl) rfl ?_
    refine T_aload_n (am_dec tX5_ownBlock_0 11 rfl) rfl ?_
    refine T_getfield 5 9 (am_dec tX5_ownBlock_0 12 rfl) flX5_134_5 (show (hfW w hb sp rb rs hb (aR sp) ro ee hh ss uu vv pp kk rr tt gg aa dd bd ga im)[52]? = some (cO 5 [aR 51, aI (pp 0 1), aI (pp 0 2), aI (pp 0 3), aI (pp 0 4), aI (pp 0 5), aR sp, aI (pp 0 7), aI (pp 0 8), aI (pp 0 9), aI (pp 0 10)]) from (hfW_c hl 52 (by decide))) rfl ?_
    refine T_icmp_gt 55 (am_dec tX5_ownBlock_0 13 rfl) rfl (fun h23 => by exfalso; omega) (fun h23 => ?_)
    refine T_aload_n (am_dec tX5_ownBlock_0 14 rfl) rfl ?_
    refine T_getfield 5 6 (am_dec tX5_ownBlock_0 15 rfl) flX5_9_5 (show (hfW w hb sp rb rs hb (aR sp) ro ee hh ss uu vv pp kk rr tt gg aa dd bd ga im)[52]? = some (cO 5 [aR 51, aI (pp 0 1), aI (pp 0 2), aI (pp 0 3), aI (pp 0 4), aI (pp 0 5), aR sp, aI (pp 0 7), aI (pp 0 8), aI (pp 0 9), aI (pp 0 10)]) from (hfW_c hl 52 (by decide))) rfl ?_
    refine T_aload_n (am_dec tX5_ownBlock_0 16 rfl) rfl ?_
    refine T_getfield 5 6 (am_dec tX5_ownBlock_0 17 rfl) flX5_9_5 (show (hfW w hb sp rb rs hb (aR sp) ro ee hh ss uu vv pp kk rr tt gg aa dd bd ga im)[52]? = some (cO 5 [aR 51, aI (pp 0 1), aI (pp 0 2), aI (pp 0 3), aI (pp 0 4), aI (pp 0 5), aR sp, aI (pp 0 7), aI (pp 0 8), aI (pp 0 9), aI (pp 0 10)]) from (hfW_c hl 52 (by decide))) rfl ?_
    refine T_getfield 3 7 (am_dec tX5_ownBlock_0 18 rfl) flX5_183_3 (show (hfW w hb sp rb rs hb (aR sp) ro ee hh ss uu vv pp kk rr tt gg aa dd bd ga im)[sp]? = some (cO 3 [aI (ss 0 0), aI (ss 0 1), aI (ss 0 2), aR (sp + 1), aR (sp + 3), aR (sp + 5), aR (sp + 7), aR (sp + 9), aR (sp + 11), aR (sp + 13), aR (sp + 15), aR (sp + 17), aR (sp + 18), aR (sp + 19)]) from ((hf_S hl hp) 0 (by decide))) rfl ?_
    refine T_getfield 9 2 (am_dec tX5_ownBlock_0 19 rfl) flX5_196_9 (show (hfW w hb sp rb rs hb (aR sp) ro ee hh ss uu vv pp kk rr tt gg aa dd bd ga im)[sp + 9]? = some (cO 9 [aI 6, aR (sp + 10), aI (ss 0 7)]) from ((hf_S hl hp) 9 (by decide))) rfl ?_
    refine T_iload_n (am_dec tX5_ownBlock_0 20 rfl) rfl ?_
    refine T_bipush 10 (am_dec tX5_ownBlock_0 21 rfl) rfl ⟨by decide, by decide⟩ ?_
    refine T_iload_n (am_dec tX5_ownBlock_0 22 rfl) rfl ?_
    refine T_imul (10 * y) (am_dec tX5_ownBlock_0 23 rfl) rfl ⟨by omega, by omega⟩ ?_
    refine T_iadd (x + (10 * y)) (am_dec tX5_ownBlock_0 24 rfl) rfl ⟨by omega, by omega⟩ ?_
    refine T_callV (as := [aI (ss 0 7), aI (x + (10 * y))]) rfl (am_dec tX5_ownBlock_0 25 rfl) lkX5_199 (show (hfW w hb sp rb rs hb (aR sp) ro ee hh ss uu vv pp kk rr tt gg aa dd bd ga im)[sp]? = some (cO 3 [aI (ss 0 0), aI (ss 0 1), aI (ss 0 2), aR (sp + 1), aR (sp + 3), aR (sp + 5), aR (sp + 7), aR (sp + 9), aR (sp + 11), aR (sp + 13), aR (sp + 15), aR (sp + 17), aR (sp + 18), aR (sp + 19)]) from ((hf_S hl hp) 0 (by decide))) rfl rfl (Nat.le_of_ble_eq_true rfl) (by omega) (mc_giveToS (d := d - 1) hl hp hr (ss 0 7) (x + (10 * y))   (by omega)) (fun _ => ?_)
    refine T_nmH (W := fun x9 => hfW w hb sp rb rs hb (aR sp) ro ee hh x9 uu vv pp kk rr tt gg aa dd bd ga im) (v := c_giveToS ss (ss 0 7) (x + (10 * y))) (fun ss46 hss46 => ?_)
    have hSss46 : SpI ss46 := by rw [hss46]; exact c_giveToS_I hS _ _ (by omega)
    have hzss46_0 : ss46 0 0 = ss 0 0 := by rw [hss46]; exact c_giveToS_0 _ _ _ 0 0 (by decide)
    have hzss46_1 : ss46 0 1 = ss 0 1 := by rw [hss46]; exact c_giveToS_0 _ _ _ 0 1 (by decide)
    have hzss46_7 : ss46 0 7 = ss 0 7 := by rw [hss46]; exact c_giveToS_0 _ _ _ 0 7 (by decide)
    have hzss46_8 : ss46 0 8 = ss 0 8 := by rw [hss46]; exact c_giveToS_0 _ _ _ 0 8 (by decide)
    refine T_iinc (ls' := [some (aR 52), some (aI y), some (aI (x + 1))]) (x + 1) (am_dec tX5_ownBlock_0 26 rfl) rfl rfl ⟨by omega, by omega⟩ (by decide) rfl ?_
    refine T_goto 18 (am_dec tX5_ownBlock_0 27 rfl) rfl ?_
    have e9 : (g_c_ownBlock_18 y) x ss = ss46 := (by have s9 := hss46.symm; subst s9; exact rfl)
    simp only [am_fold_s, e9] at k9
    exact ih (x + 1) ss46 (by omega) (by omega) ⟨hSss46, by omega⟩ k9
def g_c_ownBlock_5 (pp : am_F) (y : Int) (ss : am_F) : am_F := am_fold (g_c_ownBlock_18 y) (pp 0 7) ((pp 0 9) + 1 - (pp 0 7)).toNat ss
theorem L_c_ownBlock_5 {S : am_S} {d u : Nat} {Q : AO → AH → Prop} {w : AH} {hb sp rb rs : Nat} {ro : AV} (hl : 109 ≤ w.length) (hp : hb = 1 ∧ sp = 21 ∨ hb = 21 ∧ sp = 1) (hr : rb = 41 ∧ rs = 46 ∨ rb = 46 ∧ rs = 41) (ee : am_F) (hh : am_F) (uu : am_F) (vv : am_F) (pp : am_F) (kk : am_F) (rr : am_F) (tt : am_F) (gg : am_F) (aa : am_F) (dd : am_F) (bd : am_F) (ga : am_F) (im : am_F)  (hbk : (0 ≤ pp 0 7 ∧ pp 0 7 ≤ pp 0 9 ∧ pp 0 9 ≤ 8) ∧ 0 ≤ pp 0 8 ∧ pp 0 8 ≤ pp 0 10 ∧ pp 0 10 ≤ 8) (hd : 2 ≤ d) (B9 : Int) (hB : B9 = (pp 0 10) + 1) : ∀ (n : Nat) (y : Int) (ss : am_F), y + n = B9 → 0 ≤ y → SpI ss ∧ ss 0 7 < 6 → (∀ (ss' : am_F), ss' = am_fold (g_c_ownBlock_5 pp) y n ss → SpI ss' ∧ ss' 0 7 < 6 → am_T S zX5_ownBlock d u Q 61 [none, none, none] [] (hfW w hb sp rb rs hb (aR sp) ro ee hh ss' uu vv pp kk rr tt gg aa dd bd ga im)) → am_T S zX5_ownBlock d u Q 5 [some (aR 52), some (aI y), none] [] (hfW w hb sp rb rs hb (aR sp) ro ee hh ss uu vv pp kk rr tt gg aa dd bd ga im) := by
  intro n
  induction n with
  | zero =>
    intro y ss hi9 h0i hinv k9
    have e9 : y = B9 := by omega
    subst e9
    have hS := hinv.1
    have hl6 := hinv.2
    obtain ⟨vs1, vs2, vs3, vs4, vs5, vs6, vs7, vs8, vs9, vs10, vs11, vs12, vs13, vs14, vs15, vs16, vs17, vs18, vs19, vs20, vs21, vs22⟩ := (HbI_A hS.1).1
    refine T_iload_n (am_dec tX5_ownBlock_0 3 rfl) rfl ?_
    refine T_aload_n (am_dec tX5_ownBlock_0 4 rfl) rfl ?_
    refine T_getfield 5 10 (am_dec tX5_ownBlock_0 5 rfl) flX5_137_5 (show (hfW w hb sp rb rs hb (aR sp) ro ee hh ss uu vv pp kk rr tt gg aa dd bd ga im)[52]? = some (cO 5 [aR 51, aI (pp 0 1), aI (pp 0 2), aI (pp 0 3), aI (pp 0 4), aI (pp 0 5), aR sp, aI (pp 0 7), aI (pp 0 8), aI (pp 0 9), aI (pp 0 10)]) from (hfW_c hl 52 (by decide))) rfl ?_
    refine T_icmp_gt 61 (am_dec tX5_ownBlock_0 6 rfl) rfl (fun h10 => ?_) (fun h10 => by exfalso; omega)
    refine T_weak (ls' := [none, none, none]) (am_sub_n (am_sub_n (am_sub_n am_sub_nil))) ?_
    exact k9 ss rfl hinv
  | succ n ih =>
    intro y ss hi9 h0i hinv k9
    have hS := hinv.1
    have hl6 := hinv.2
    obtain ⟨vs1, vs2, vs3, vs4, vs5, vs6, vs7, vs8, vs9, vs10, vs11, vs12, vs13, vs14, vs15, vs16, vs17, vs18, vs19, vs20, vs21, vs22⟩ := (HbI_A hS.1).1
    refine T_iload_n (am_dec tX5_ownBlock_0 3 rfl) rfl ?_
    refine T_aload_n (am_dec tX5_ownBlock_0 4 rfl) rfl ?_
    refine T_getfield 5 10 (am_dec tX5_ownBlock_0 5 rfl) flX5_137_5 (show (hfW w hb sp rb rs hb (aR sp) ro ee hh ss uu vv pp kk rr tt gg aa dd bd ga im)[52]? = some (cO 5 [aR 51, aI (pp 0 1), aI (pp 0 2), aI (pp 0 3), aI (pp 0 4), aI (pp 0 5), aR sp, aI (pp 0 7), aI (pp 0 8), aI (pp 0 9), aI (pp 0 10)]) from (hfW_c hl 52 (by decide))) rfl ?_
    refine T_icmp_gt 61 (am_dec tX5_ownBlock_0 6 rfl) rfl (fun h10 => by exfalso; omega) (fun h10 => ?_)
    refine T_aload_n (am_dec tX5_ownBlock_0 7 rfl) rfl ?_
    refine T_getfield 5 7 (am_dec tX5_ownBlock_0 8 rfl) flX5_128_5 (show (hfW w hb sp rb rs hb (aR sp) ro ee hh ss uu vv pp kk rr tt gg aa dd bd ga im)[52]? = some (cO 5 [aR 51, aI (pp 0 1), aI (pp 0 2), aI (pp 0 3), aI (pp 0 4), aI (pp 0 5), aR sp, aI (pp 0 7), aI (pp 0 8), aI (pp 0 9), aI (pp 0 10)]) from (hfW_c hl 52 (by decide))) rfl ?_
    refine T_istore_n (ls' := [some (aR 52), some (aI y), some (aI (pp 0 7))]) (am_dec tX5_ownBlock_0 9 rfl) (by decide) rfl ?_
    refine L_c_ownBlock_18 hl hp hr ee hh uu vv pp kk rr tt gg aa dd bd ga im y  (by omega) (by omega) (by omega) _ rfl ((pp 0 9) + 1 - (pp 0 7)).toNat (pp 0 7) ss (by omega) (by omega) ⟨hS, by omega⟩ (fun ss18 hss18 hv18 => ?_)
    refine T_iinc (ls' := [some (aR 52), some (aI (y + 1)), none]) (y + 1) (am_dec tX5_ownBlock_0 28 rfl) rfl rfl ⟨by omega, by omega⟩ (by decide) rfl ?_
    refine T_goto 5 (am_dec tX5_ownBlock_0 29 rfl) rfl ?_
    have e9 : (g_c_ownBlock_5 pp) y ss = ss18 := (by have s9 := hss18.symm; subst s9; exact rfl)
    simp only [am_fold_s, e9] at k9
    exact ih (y + 1) ss18 (by omega) (by omega) ⟨hv18.1, by omega⟩ k9
def c_ownBlock (ss : am_F) (pp : am_F) : am_F := am_fold (g_c_ownBlock_5 pp) (pp 0 8) ((pp 0 10) + 1 - (pp 0 8)).toNat ss
theorem mc_ownBlock {S : am_S} {d u : Nat} {w : AH} {hb sp rb rs : Nat} {ro : AV} (hl : 109 ≤ w.length) (hp : hb = 1 ∧ sp = 21 ∨ hb = 21 ∧ sp = 1) (hr : rb = 41 ∧ rs = 46 ∨ rb = 46 ∧ rs = 41) {ee : am_F} {hh : am_F} {ss : am_F} {uu : am_F} {vv : am_F} {pp : am_F} {kk : am_F} {rr : am_F} {tt : am_F} {gg : am_F} {aa : am_F} {dd : am_F} {bd : am_F} {ga : am_F} {im : am_F}  (hS : SpI ss) (hbk : (0 ≤ pp 0 7 ∧ pp 0 7 ≤ pp 0 9 ∧ pp 0 9 ≤ 8) ∧ 0 ≤ pp 0 8 ∧ pp 0 8 ≤ pp 0 10 ∧ pp 0 10 ≤ 8) (hl6 : ss 0 7 < 6)  (hd : 2 ≤ d) : am_Out S zX5_ownBlock d u [aR 52] (hfW w hb sp rb rs hb (aR sp) ro ee hh ss uu vv pp kk rr tt gg aa dd bd ga im) (.inl none) (hfW w hb sp rb rs hb (aR sp) ro ee hh (c_ownBlock ss pp) uu vv pp kk rr tt gg aa dd bd ga im) := by
  have key : ∀ Q : AO → AH → Prop, Q (.inl none) (hfW w hb sp rb rs hb (aR sp) ro ee hh (c_ownBlock ss pp) uu vv pp kk rr tt gg aa dd bd ga im) → am_M S zX5_ownBlock d u [aR 52] (hfW w hb sp rb rs hb (aR sp) ro ee hh ss uu vv pp kk rr tt gg aa dd bd ga im) Q := by
    intro Q hQ
    refine am_body rfl (by decide +kernel) rfl (am_cats_cons rfl (am_cats_nil)) (Nat.le_of_ble_eq_true rfl) (?_ : am_T _ _ _ _ _ 0 [some (aR 52), none, none] [] (hfW w hb sp rb rs hb (aR sp) ro ee hh ss uu vv pp kk rr tt gg aa dd bd ga im))
    obtain ⟨vs1, vs2, vs3, vs4, vs5, vs6, vs7, vs8, vs9, vs10, vs11, vs12, vs13, vs14, vs15, vs16, vs17, vs18, vs19, vs20, vs21, vs22⟩ := (HbI_A hS.1).1
    refine T_aload_n (am_dec tX5_ownBlock_0 0 rfl) rfl ?_
    refine T_getfield 5 8 (am_dec tX5_ownBlock_0 1 rfl) flX5_131_5 (show (hfW w hb sp rb rs hb (aR sp) ro ee hh ss uu vv pp kk rr tt gg aa dd bd ga im)[52]? = some (cO 5 [aR 51, aI (pp 0 1), aI (pp 0 2), aI (pp 0 3), aI (pp 0 4), aI (pp 0 5), aR sp, aI (pp 0 7), aI (pp 0 8), aI (pp 0 9), aI (pp 0 10)]) from (hfW_c hl 52 (by decide))) rfl ?_
    refine T_istore_n (ls' := [some (aR 52), some (aI (pp 0 8)), none]) (am_dec tX5_ownBlock_0 2 rfl) (by decide) rfl ?_
    refine L_c_ownBlock_5 hl hp hr ee hh uu vv pp kk rr tt gg aa dd bd ga im  (by omega) (by omega) _ rfl ((pp 0 10) + 1 - (pp 0 8)).toNat (pp 0 8) ss (by omega) (by omega) ⟨hS, by omega⟩ (fun ss5 hss5 hv5 => ?_)
    exact T_return (am_dec tX5_ownBlock_0 30 rfl) rfl (am_tr (fun (x9 : am_F) => Q (.inl none) (hfW w hb sp rb rs hb (aR sp) ro ee hh x9 uu vv pp kk rr tt gg aa dd bd ga im)) (y := ss5) (show (c_ownBlock ss pp) = ss5 from (by have s9 := hss5.symm; subst s9; exact rfl)) hQ)
  exact key _ ⟨rfl, rfl⟩
