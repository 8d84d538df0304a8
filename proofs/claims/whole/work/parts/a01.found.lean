/-! found, gauges, bids, images, the tape -/
theorem c_fits_I {hb : Nat} {hh rr tt dd ga : am_F} (hI : HbI hh) (hR : RnI rr) (q : RnI tt) {s c : Int} (hs : 0 ≤ s ∧ s < 40) : RnI (c_fits hb hh rr tt dd ga s c).2 := by
  unfold c_fits
  dsimp only
  split
  · split
    · exact q
    · exact am_wr_inv (P := fun x : Int × am_F => (0 ≤ x.1 ∧ x.1 ≤ 40) ∧ RnI x.2) (R := fun x : Int × am_F => RnI x.2) (fun x => 40 - x.1) (fun x hx => by show 0 ≤ 40 - x.1; omega) (fun x y hx hf => by
        unfold w_c_fits_50 at hf
        dsimp only at hf
        split at hf
        · cases hf
        · split at hf
          · cases hf
          · split at hf
            · cases hf
            · split at hf
              · cases hf
                refine ⟨⟨?_, f_upTo_I (HbI_A hI) hx.2⟩, ?_⟩
                · dsimp only; omega
                · dsimp only; omega
              · cases hf) (fun x y hx hf => by
        unfold w_c_fits_50 at hf
        dsimp only at hf
        split at hf
        · cases hf; exact hx.2
        · split at hf
          · cases hf; exact hx.2
          · split at hf
            · cases hf; exact f_upTo_I (HbI_A hI) hx.2
            · split at hf
              · cases hf
              · cases hf; exact f_upTo_I (HbI_A hI) hx.2) 41 _ ⟨⟨by dsimp only; omega, by dsimp only; omega⟩, f_duel_I q hR.2.1 hs⟩ (by dsimp only; omega)
  · exact q
def g_c_seek_71 (hb : Nat) (hh : am_F) (rr : am_F) (ga : am_F) (s : Int) (y : Int) (x : Int) (x9 : am_F × am_F) : am_F × am_F := let tt := x9.1; let dd := x9.2; (let u97 : Int × am_F := c_fits hb hh rr tt dd ga s (x + (10 * y)); (let dd100 : am_F := (if (u97).1 = 0 then dd else c_keep dd s (x + (10 * y))); ((u97).2, dd100)))
theorem L_c_seek_71 {S : am_S} {d u : Nat} {Q : AO → AH → Prop} {w : AH} {hb sp rb rs : Nat} {po ro : AV} (hl : 109 ≤ w.length) (hp : hb = 1 ∧ sp = 21 ∨ hb = 21 ∧ sp = 1) (hr : rb = 41 ∧ rs = 46 ∨ rb = 46 ∧ rs = 41) (ee : am_F) (hh : am_F) (ss : am_F) (uu : am_F) (vv : am_F) (pp : am_F) (kk : am_F) (rr : am_F) (gg : am_F) (aa : am_F) (bd : am_F) (ga : am_F) (im : am_F) (s : Int) (y : Int)  (hI : HbI hh) (hRI : RnI rr) (hG : GaI ga) (hs9 : 0 ≤ s ∧ s < 40) (ho56 : 0 ≤ y ∧ y < hh 0 1) (hd : 7 ≤ d) (B9 : Int) (hB : B9 = hh 0 0) : ∀ (n : Nat) (x : Int) (tt : am_F) (dd : am_F), x + n = B9 → 0 ≤ x → RnI tt → (∀ (tt' : am_F) (dd' : am_F), tt' = (am_fold (g_c_seek_71 hb hh rr ga s y) x n (tt, dd)).1 → dd' = (am_fold (g_c_seek_71 hb hh rr ga s y) x n (tt, dd)).2 → RnI tt' → am_T S zX1_seek d u Q 123 [some (aR 83), some (aR 54), some (aR 64), some (aR 86), some (aI s), some (aI y), none] [] (hfW w hb sp rb rs hb po ro ee hh ss uu vv pp kk rr tt' gg aa dd' bd ga im)) → am_T S zX1_seek d u Q 71 [some (aR 83), some (aR 54), some (aR 64), some (aR 86), some (aI s), some (aI y), some (aI x)] [] (hfW w hb sp rb rs hb po ro ee hh ss uu vv pp kk rr tt gg aa dd bd ga im) := by
  intro n
  induction n with
  | zero =>
    intro x tt dd hi9 h0i hinv k9
    have e9 : x = B9 := by omega
    subst e9
    obtain ⟨vh1, vh2, vh3, vh4, vh5, vh6, vh7, vh8, vh9, vh10, vh11, vh12, vh13, vh14, vh15, vh16, vh17, vh18, vh19, vh20, vh21, vh22⟩ := (HbI_A hI).1
    have hG9 := hG
    obtain ⟨vg0, ⟨vg1, vg2⟩, vg3⟩ := hG9
    have hTI := hinv
    refine T_iload (am_dec tX1_seek_0 38 rfl) rfl ?_
    refine T_aload_n (am_dec tX1_seek_0 39 rfl) rfl ?_
    refine T_getfield 8 0 (am_dec tX1_seek_1 0 rfl) flX1_61_8 (show (hfW w hb sp rb rs hb po ro ee hh ss uu vv pp kk rr tt gg aa dd bd ga im)[54]? = some (cO 8 [aR hb, aI (rr 0 1), aI (rr 0 2), aI (rr 0 3), aI (rr 0 4), aI (rr 0 5), aR 55, aR 56, aR 57, aR 58, aR 59, aR 60, aR 61, aR 62, aR 63]) from (hfW_c hl 54 (by decide))) rfl ?_
    refine T_getfield 3 0 (am_dec tX1_seek_1 1 rfl) flX1_70_3 (show (hfW w hb sp rb rs hb po ro ee hh ss uu vv pp kk rr tt gg aa dd bd ga im)[hb]? = some (cO 3 [aI (hh 0 0), aI (hh 0 1), aI (hh 0 2), aR (hb + 1), aR (hb + 3), aR (hb + 5), aR (hb + 7), aR (hb + 9), aR (hb + 11), aR (hb + 13), aR (hb + 15), aR (hb + 17), aR (hb + 18), aR (hb + 19)]) from ((hf_H hl hp) 0 (by decide))) rfl ?_
    refine T_icmp_ge 123 (am_dec tX1_seek_1 2 rfl) rfl (fun h80 => ?_) (fun h80 => by exfalso; omega)
    refine T_weak (ls' := [some (aR 83), some (aR 54), some (aR 64), some (aR 86), some (aI s), some (aI y), none]) (am_sub_s (am_sub_s (am_sub_s (am_sub_s (am_sub_s (am_sub_s (am_sub_n am_sub_nil))))))) ?_
    exact k9 tt dd rfl rfl hinv
  | succ n ih =>
    intro x tt dd hi9 h0i hinv k9
    obtain ⟨vh1, vh2, vh3, vh4, vh5, vh6, vh7, vh8, vh9, vh10, vh11, vh12, vh13, vh14, vh15, vh16, vh17, vh18, vh19, vh20, vh21, vh22⟩ := (HbI_A hI).1
    have hG9 := hG
    obtain ⟨vg0, ⟨vg1, vg2⟩, vg3⟩ := hG9
    have hTI := hinv
    refine T_iload (am_dec tX1_seek_0 38 rfl) rfl ?_
    refine T_aload_n (am_dec tX1_seek_0 39 rfl) rfl ?_
    refine T_getfield 8 0 (am_dec tX1_seek_1 0 rfl) flX1_61_8 (show (hfW w hb sp rb rs hb po ro ee hh ss uu vv pp kk rr tt gg aa dd bd ga im)[54]? = some (cO 8 [aR hb, aI (rr 0 1), aI (rr 0 2), aI (rr 0 3), aI (rr 0 4), aI (rr 0 5), aR 55, aR 56, aR 57, aR 58, aR 59, aR 60, aR 61, aR 62, aR 63]) from (hfW_c hl 54 (by decide))) rfl ?_
    refine T_getfield 3 0 (am_dec tX1_seek_1 1 rfl) flX1_70_3 (show (hfW w hb sp rb rs hb po ro ee hh ss uu vv pp kk rr tt gg aa dd bd ga im)[hb]? = some (cO 3 [aI (hh 0 0), aI (hh 0 1), aI (hh 0 2), aR (hb + 1), aR (hb + 3), aR (hb + 5), aR (hb + 7), aR (hb + 9), aR (hb + 11), aR (hb + 13), aR (hb + 15), aR (hb + 17), aR (hb + 18), aR (hb + 19)]) from ((hf_H hl hp) 0 (by decide))) rfl ?_
    refine T_icmp_ge 123 (am_dec tX1_seek_1 2 rfl) rfl (fun h80 => by exfalso; omega) (fun h80 => ?_)
    refine T_aload_n (am_dec tX1_seek_1 3 rfl) rfl ?_
    refine T_aload_n (am_dec tX1_seek_1 4 rfl) rfl ?_
    refine T_aload_n (am_dec tX1_seek_1 5 rfl) rfl ?_
    refine T_aload_n (am_dec tX1_seek_1 6 rfl) rfl ?_
    refine T_iload (am_dec tX1_seek_1 7 rfl) rfl ?_
    refine T_iload (am_dec tX1_seek_1 8 rfl) rfl ?_
    refine T_bipush 10 (am_dec tX1_seek_1 9 rfl) rfl ⟨by decide, by decide⟩ ?_
    refine T_iload (am_dec tX1_seek_1 10 rfl) rfl ?_
    refine T_imul (10 * y) (am_dec tX1_seek_1 11 rfl) rfl ⟨by omega, by omega⟩ ?_
    refine T_iadd (x + (10 * y)) (am_dec tX1_seek_1 12 rfl) rfl ⟨by omega, by omega⟩ ?_
    refine T_callV (as := [aR 54, aR 64, aR 86, aI s, aI (x + (10 * y))]) rfl (am_dec tX1_seek_1 13 rfl) lkX1_73 (show (hfW w hb sp rb rs hb po ro ee hh ss uu vv pp kk rr tt gg aa dd bd ga im)[83]? = some (cO 1 [aI (dd 0 0), aI (dd 0 1), aI (dd 0 2), aI (dd 0 3), aI (dd 0 4), aI (dd 0 5), aI (dd 0 6)]) from (hfW_c hl 83 (by decide))) rfl rfl (Nat.le_of_ble_eq_true rfl) (by omega) (mc_fits (d := d - 1) hl hp hr s (x + (10 * y))  hI hRI hTI hG (by omega) (by omega) (by omega)) (fun _ => ?_)
    obtain ⟨u97, hu97⟩ : ∃ x9, x9 = c_fits hb hh rr tt dd ga s (x + (10 * y)) := ⟨_, rfl⟩
    rw [← hu97]
    have hIu97 : RnI u97.2 := by rw [hu97]; exact c_fits_I hI hRI hTI (by omega)
    have K100 : ∀ (dd100 : am_F), dd100 = (if (u97).1 = 0 then dd else c_keep dd s (x + (10 * y))) →  am_T S zX1_seek d u Q 117 [some (aR 83), some (aR 54), some (aR 64), some (aR 86), some (aI s), some (aI y), some (aI x)] [] (hfW w hb sp rb rs hb po ro ee hh ss uu vv pp kk rr ((u97).2) gg aa dd100 bd ga im) := by
      intro dd100 hdd100 
      refine T_iinc (ls' := [some (aR 83), some (aR 54), some (aR 64), some (aR 86), some (aI s), some (aI y), some (aI (x + 1))]) (x + 1) (am_dec tX1_seek_1 23 rfl) rfl rfl ⟨by omega, by omega⟩ (by decide) rfl ?_
      refine T_goto 71 (am_dec tX1_seek_1 24 rfl) rfl ?_
      have e9 : (g_c_seek_71 hb hh rr ga s y) x (tt, dd) = ((u97).2, dd100) := (by have s9 := hu97.symm; subst s9; have s9 := hdd100.symm; subst s9; exact rfl)
      simp only [am_fold_s, e9] at k9
      exact ih (x + 1) ((u97).2) dd100 (by omega) (by omega) hIu97 k9
    refine T_if_eq 117 (am_dec tX1_seek_1 14 rfl) rfl (fun h100 => ?_) (fun h100 => ?_)
    · exact K100 _ (if_pos h100).symm 
    · refine T_aload_n (am_dec tX1_seek_1 15 rfl) rfl ?_
      refine T_iload (am_dec tX1_seek_1 16 rfl) rfl ?_
      refine T_iload (am_dec tX1_seek_1 17 rfl) rfl ?_
      refine T_bipush 10 (am_dec tX1_seek_1 18 rfl) rfl ⟨by decide, by decide⟩ ?_
      refine T_iload (am_dec tX1_seek_1 19 rfl) rfl ?_
      refine T_imul (10 * y) (am_dec tX1_seek_1 20 rfl) rfl ⟨by omega, by omega⟩ ?_
      refine T_iadd (x + (10 * y)) (am_dec tX1_seek_1 21 rfl) rfl ⟨by omega, by omega⟩ ?_
      refine T_callV (as := [aI s, aI (x + (10 * y))]) rfl (am_dec tX1_seek_1 22 rfl) lkX1_77 (show (hfW w hb sp rb rs hb po ro ee hh ss uu vv pp kk rr ((u97).2) gg aa dd bd ga im)[83]? = some (cO 1 [aI (dd 0 0), aI (dd 0 1), aI (dd 0 2), aI (dd 0 3), aI (dd 0 4), aI (dd 0 5), aI (dd 0 6)]) from (hfW_c hl 83 (by decide))) rfl rfl (Nat.le_of_ble_eq_true rfl) (by omega) (mc_keep (d := d - 1) hl hp hr s (x + (10 * y))   ) (fun _ => ?_)
      refine T_nmH (W := fun x9 => hfW w hb sp rb rs hb po ro ee hh ss uu vv pp kk rr ((u97).2) gg aa x9 bd ga im) (v := c_keep dd s (x + (10 * y))) (fun dd114 hdd114 => ?_)
      exact K100 _ (by have s9 := hdd114.symm; subst s9; exact (if_neg h100).symm) 
def g_c_seek_56 (hb : Nat) (hh : am_F) (rr : am_F) (ga : am_F) (s : Int) (y : Int) (x9 : am_F × am_F) : am_F × am_F := let tt := x9.1; let dd := x9.2; (let tt71 : am_F := (am_fold (g_c_seek_71 hb hh rr ga s y) 0 (hh 0 0).toNat (tt, dd)).1; (let dd71 : am_F := (am_fold (g_c_seek_71 hb hh rr ga s y) 0 (hh 0 0).toNat (tt, dd)).2; (tt71, dd71)))
theorem L_c_seek_56 {S : am_S} {d u : Nat} {Q : AO → AH → Prop} {w : AH} {hb sp rb rs : Nat} {po ro : AV} (hl : 109 ≤ w.length) (hp : hb = 1 ∧ sp = 21 ∨ hb = 21 ∧ sp = 1) (hr : rb = 41 ∧ rs = 46 ∨ rb = 46 ∧ rs = 41) (ee : am_F) (hh : am_F) (ss : am_F) (uu : am_F) (vv : am_F) (pp : am_F) (kk : am_F) (rr : am_F) (gg : am_F) (aa : am_F) (bd : am_F) (ga : am_F) (im : am_F) (s : Int)  (hI : HbI hh) (hRI : RnI rr) (hG : GaI ga) (hs9 : 0 ≤ s ∧ s < 40) (hd : 7 ≤ d) (B9 : Int) (hB : B9 = hh 0 1) : ∀ (n : Nat) (y : Int) (tt : am_F) (dd : am_F), y + n = B9 → 0 ≤ y → RnI tt → (∀ (tt' : am_F) (dd' : am_F), tt' = (am_fold (g_c_seek_56 hb hh rr ga s) y n (tt, dd)).1 → dd' = (am_fold (g_c_seek_56 hb hh rr ga s) y n (tt, dd)).2 → RnI tt' → am_T S zX1_seek d u Q 129 [some (aR 83), some (aR 54), some (aR 64), some (aR 86), some (aI s), none, none] [] (hfW w hb sp rb rs hb po ro ee hh ss uu vv pp kk rr tt' gg aa dd' bd ga im)) → am_T S zX1_seek d u Q 56 [some (aR 83), some (aR 54), some (aR 64), some (aR 86), some (aI s), some (aI y), none] [] (hfW w hb sp rb rs hb po ro ee hh ss uu vv pp kk rr tt gg aa dd bd ga im) := by
  intro n
  induction n with
  | zero =>
    intro y tt dd hi9 h0i hinv k9
    have e9 : y = B9 := by omega
    subst e9
    obtain ⟨vh1, vh2, vh3, vh4, vh5, vh6, vh7, vh8, vh9, vh10, vh11, vh12, vh13, vh14, vh15, vh16, vh17, vh18, vh19, vh20, vh21, vh22⟩ := (HbI_A hI).1
    have hG9 := hG
    obtain ⟨vg0, ⟨vg1, vg2⟩, vg3⟩ := hG9
    have hTI := hinv
    refine T_iload (am_dec tX1_seek_0 31 rfl) rfl ?_
    refine T_aload_n (am_dec tX1_seek_0 32 rfl) rfl ?_
    refine T_getfield 8 0 (am_dec tX1_seek_0 33 rfl) flX1_61_8 (show (hfW w hb sp rb rs hb po ro ee hh ss uu vv pp kk rr tt gg aa dd bd ga im)[54]? = some (cO 8 [aR hb, aI (rr 0 1), aI (rr 0 2), aI (rr 0 3), aI (rr 0 4), aI (rr 0 5), aR 55, aR 56, aR 57, aR 58, aR 59, aR 60, aR 61, aR 62, aR 63]) from (hfW_c hl 54 (by decide))) rfl ?_
    refine T_getfield 3 1 (am_dec tX1_seek_0 34 rfl) flX1_65_3 (show (hfW w hb sp rb rs hb po ro ee hh ss uu vv pp kk rr tt gg aa dd bd ga im)[hb]? = some (cO 3 [aI (hh 0 0), aI (hh 0 1), aI (hh 0 2), aR (hb + 1), aR (hb + 3), aR (hb + 5), aR (hb + 7), aR (hb + 9), aR (hb + 11), aR (hb + 13), aR (hb + 15), aR (hb + 17), aR (hb + 18), aR (hb + 19)]) from ((hf_H hl hp) 0 (by decide))) rfl ?_
    refine T_icmp_ge 129 (am_dec tX1_seek_0 35 rfl) rfl (fun h65 => ?_) (fun h65 => by exfalso; omega)
    refine T_weak (ls' := [some (aR 83), some (aR 54), some (aR 64), some (aR 86), some (aI s), none, none]) (am_sub_s (am_sub_s (am_sub_s (am_sub_s (am_sub_s (am_sub_n (am_sub_n am_sub_nil))))))) ?_
    exact k9 tt dd rfl rfl hinv
  | succ n ih =>
    intro y tt dd hi9 h0i hinv k9
    obtain ⟨vh1, vh2, vh3, vh4, vh5, vh6, vh7, vh8, vh9, vh10, vh11, vh12, vh13, vh14, vh15, vh16, vh17, vh18, vh19, vh20, vh21, vh22⟩ := (HbI_A hI).1
    have hG9 := hG
    obtain ⟨vg0, ⟨vg1, vg2⟩, vg3⟩ := hG9
    have hTI := hinv
    refine T_iload (am_dec tX1_seek_0 31 rfl) rfl ?_
    refine T_aload_n (am_dec tX1_seek_0 32 rfl) rfl ?_
    refine T_getfield 8 0 (am_dec tX1_seek_0 33 rfl) flX1_61_8 (show (hfW w hb sp rb rs hb po ro ee hh ss uu vv pp kk rr tt gg aa dd bd ga im)[54]? = some (cO 8 [aR hb, aI (rr 0 1), aI (rr 0 2), aI (rr 0 3), aI (rr 0 4), aI (rr 0 5), aR 55, aR 56, aR 57, aR 58, aR 59, aR 60, aR 61, aR 62, aR 63]) from (hfW_c hl 54 (by decide))) rfl ?_
    refine T_getfield 3 1 (am_dec tX1_seek_0 34 rfl) flX1_65_3 (show (hfW w hb sp rb rs hb po ro ee hh ss uu vv pp kk rr tt gg aa dd bd ga im)[hb]? = some (cO 3 [aI (hh 0 0), aI (hh 0 1), aI (hh 0 2), aR (hb + 1), aR (hb + 3), aR (hb + 5), aR (hb + 7), aR (hb + 9), aR (hb + 11), aR (hb + 13), aR (hb + 15), aR (hb + 17), aR (hb + 18), aR (hb + 19)]) from ((hf_H hl hp) 0 (by decide))) rfl ?_
    refine T_icmp_ge 129 (am_dec tX1_seek_0 35 rfl) rfl (fun h65 => by exfalso; omega) (fun h65 => ?_)
    refine T_iconst 0 (am_dec tX1_seek_0 36 rfl) rfl ⟨by decide, by decide⟩ ?_
    refine T_istore (ls' := [some (aR 83), some (aR 54), some (aR 64), some (aR 86), some (aI s), some (aI y), some (aI 0)]) (am_dec tX1_seek_0 37 rfl) (by decide) rfl ?_
    refine L_c_seek_71 hl hp hr ee hh ss uu vv pp kk rr gg aa bd ga im s y  hI hRI hG (by omega) (by omega) (by omega) _ rfl (hh 0 0).toNat 0 tt dd (by omega) (by omega) hTI (fun tt71 dd71 htt71 hdd71 hv71 => ?_)
    refine T_iinc (ls' := [some (aR 83), some (aR 54), some (aR 64), some (aR 86), some (aI s), some (aI (y + 1)), none]) (y + 1) (am_dec tX1_seek_1 25 rfl) rfl rfl ⟨by omega, by omega⟩ (by decide) rfl ?_
    refine T_goto 56 (am_dec tX1_seek_1 26 rfl) rfl ?_
    have e9 : (g_c_seek_56 hb hh rr ga s) y (tt, dd) = (tt71, dd71) := (by have s9 := htt71.symm; subst s9; have s9 := hdd71.symm; subst s9; exact rfl)
    simp only [am_fold_s, e9] at k9
    exact ih (y + 1) tt71 dd71 (by omega) (by omega) hv71 k9
def w_c_seek_37 (hb : Nat) (hh : am_F) (rr : am_F) (ga : am_F) (x9 : Int × am_F × am_F) : (Int × am_F × am_F) ⊕ (Int × am_F × am_F) := let s : Int := x9.1; let tt : am_F := x9.2.1; let dd : am_F := x9.2.2; (if 40 ≤ s then .inr (s, tt, dd) else (if dd 0 4 < s then .inr (s, tt, dd) else (let tt56 : am_F := (am_fold (g_c_seek_56 hb hh rr ga s) 0 (hh 0 1).toNat (tt, dd)).1; (let dd56 : am_F := (am_fold (g_c_seek_56 hb hh rr ga s) 0 (hh 0 1).toNat (tt, dd)).2; .inl ((s + 1), tt56, dd56)))))
theorem L_c_seek_37 {S : am_S} {d u : Nat} {Q : AO → AH → Prop} {w : AH} {hb sp rb rs : Nat} {po ro : AV} (hl : 109 ≤ w.length) (hp : hb = 1 ∧ sp = 21 ∨ hb = 21 ∧ sp = 1) (hr : rb = 41 ∧ rs = 46 ∨ rb = 46 ∧ rs = 41) (ee : am_F) (hh : am_F) (ss : am_F) (uu : am_F) (vv : am_F) (pp : am_F) (kk : am_F) (rr : am_F) (gg : am_F) (aa : am_F) (bd : am_F) (ga : am_F) (im : am_F) (hI : HbI hh) (hRI : RnI rr) (hG : GaI ga)  (hd : 7 ≤ d) : ∀ (n : Nat) (s : Int) (tt : am_F) (dd : am_F), 40 - s < n → RnI tt ∧ 0 ≤ s ∧ s ≤ 40 → (∀ (s' : Int) (tt' : am_F) (dd' : am_F), s' = (am_wh (w_c_seek_37 hb hh rr ga) n (s, tt, dd)).1 → tt' = (am_wh (w_c_seek_37 hb hh rr ga) n (s, tt, dd)).2.1 → dd' = (am_wh (w_c_seek_37 hb hh rr ga) n (s, tt, dd)).2.2 → RnI tt' ∧ 0 ≤ s' ∧ s' ≤ 40 → am_T S zX1_seek d u Q 135 [none, none, none, none, none, none, none] [] (hfW w hb sp rb rs hb po ro ee hh ss uu vv pp kk rr tt' gg aa dd' bd ga im)) → am_T S zX1_seek d u Q 37 [some (aR 83), some (aR 54), some (aR 64), some (aR 86), some (aI s), none, none] [] (hfW w hb sp rb rs hb po ro ee hh ss uu vv pp kk rr tt gg aa dd bd ga im) := by
  intro n
  induction n with
  | zero =>
    intro s tt dd hm9 hinv k9
    obtain ⟨vh1, vh2, vh3, vh4, vh5, vh6, vh7, vh8, vh9, vh10, vh11, vh12, vh13, vh14, vh15, vh16, vh17, vh18, vh19, vh20, vh21, vh22⟩ := (HbI_A hI).1
    have hG9 := hG
    obtain ⟨vg0, ⟨vg1, vg2⟩, vg3⟩ := hG9
    have hTI := hinv.1
    exfalso; omega
  | succ n ih =>
    intro s tt dd hm9 hinv k9
    obtain ⟨vh1, vh2, vh3, vh4, vh5, vh6, vh7, vh8, vh9, vh10, vh11, vh12, vh13, vh14, vh15, vh16, vh17, vh18, vh19, vh20, vh21, vh22⟩ := (HbI_A hI).1
    have hG9 := hG
    obtain ⟨vg0, ⟨vg1, vg2⟩, vg3⟩ := hG9
    have hTI := hinv.1
    refine T_iload (am_dec tX1_seek_0 22 rfl) rfl ?_
    refine T_bipush 40 (am_dec tX1_seek_0 23 rfl) rfl ⟨by decide, by decide⟩ ?_
    refine T_icmp_ge 135 (am_dec tX1_seek_0 24 rfl) rfl (fun h41 => ?_) (fun h41 => ?_)
    · refine T_weak (ls' := [none, none, none, none, none, none, none]) (am_sub_n (am_sub_n (am_sub_n (am_sub_n (am_sub_n (am_sub_n (am_sub_n am_sub_nil))))))) ?_
      have e9 : (w_c_seek_37 hb hh rr ga) (s, tt, dd) = .inr (s, tt, dd) := (if_pos h41)
      simp only [am_wh_r e9] at k9
      exact k9 _ _ _ rfl rfl rfl ⟨hTI, by omega, by omega⟩
    · refine T_iload (am_dec tX1_seek_0 25 rfl) rfl ?_
      refine T_aload_n (am_dec tX1_seek_0 26 rfl) rfl ?_
      refine T_getfield 1 4 (am_dec tX1_seek_0 27 rfl) flX1_58_1 (show (hfW w hb sp rb rs hb po ro ee hh ss uu vv pp kk rr tt gg aa dd bd ga im)[83]? = some (cO 1 [aI (dd 0 0), aI (dd 0 1), aI (dd 0 2), aI (dd 0 3), aI (dd 0 4), aI (dd 0 5), aI (dd 0 6)]) from (hfW_c hl 83 (by decide))) rfl ?_
      refine T_icmp_gt 135 (am_dec tX1_seek_0 28 rfl) rfl (fun h50 => ?_) (fun h50 => ?_)
      · refine T_weak (ls' := [none, none, none, none, none, none, none]) (am_sub_n (am_sub_n (am_sub_n (am_sub_n (am_sub_n (am_sub_n (am_sub_n am_sub_nil))))))) ?_
        have e9 : (w_c_seek_37 hb hh rr ga) (s, tt, dd) = .inr (s, tt, dd) := ((if_neg h41).trans (if_pos h50))
        simp only [am_wh_r e9] at k9
        exact k9 _ _ _ rfl rfl rfl ⟨hTI, by omega, by omega⟩
      · refine T_iconst 0 (am_dec tX1_seek_0 29 rfl) rfl ⟨by decide, by decide⟩ ?_
        refine T_istore (ls' := [some (aR 83), some (aR 54), some (aR 64), some (aR 86), some (aI s), some (aI 0), none]) (am_dec tX1_seek_0 30 rfl) (by decide) rfl ?_
        refine L_c_seek_56 hl hp hr ee hh ss uu vv pp kk rr gg aa bd ga im s  hI hRI hG (by omega) (by omega) _ rfl (hh 0 1).toNat 0 tt dd (by omega) (by omega) hTI (fun tt56 dd56 htt56 hdd56 hv56 => ?_)
        refine T_iinc (ls' := [some (aR 83), some (aR 54), some (aR 64), some (aR 86), some (aI (s + 1)), none, none]) (s + 1) (am_dec tX1_seek_1 27 rfl) rfl rfl ⟨by omega, by omega⟩ (by decide) rfl ?_
        refine T_goto 37 (am_dec tX1_seek_1 28 rfl) rfl ?_
        have e9 : (w_c_seek_37 hb hh rr ga) (s, tt, dd) = .inl (s + 1, tt56, dd56) := (by have s9 := htt56.symm; subst s9; have s9 := hdd56.symm; subst s9; exact ((if_neg h41).trans (if_neg h50)))
        simp only [am_wh_l e9] at k9
        exact ih (s + 1) tt56 dd56 (by omega) ⟨hv56, by omega, by omega⟩ k9
def c_seek (hb : Nat) (hh : am_F) (rr : am_F) (tt : am_F) (dd : am_F) (ga : am_F) : am_F × am_F × am_F := (if dd 0 0 = 0 then (let u31 : am_F × am_F := c_lookWithout hh rr (am_put (am_put (am_put (am_put dd 0 0 1) 0 1 0) 0 2 (-1)) 0 3 (-1)) ga; (let tt37 : am_F := (am_wh (w_c_seek_37 hb hh ((u31).1) ga) 41 (0, tt, ((u31).2))).2.1; (let dd37 : am_F := (am_wh (w_c_seek_37 hb hh ((u31).1) ga) 41 (0, tt, ((u31).2))).2.2; ((u31).1, tt37, dd37)))) else (rr, tt, dd))
theorem mc_seek {S : am_S} {d u : Nat} {w : AH} {hb sp rb rs : Nat} {po ro : AV} (hl : 109 ≤ w.length) (hp : hb = 1 ∧ sp = 21 ∨ hb = 21 ∧ sp = 1) (hr : rb = 41 ∧ rs = 46 ∨ rb = 46 ∧ rs = 41) {ee : am_F} {hh : am_F} {ss : am_F} {uu : am_F} {vv : am_F} {pp : am_F} {kk : am_F} {rr : am_F} {tt : am_F} {gg : am_F} {aa : am_F} {dd : am_F} {bd : am_F} {ga : am_F} {im : am_F}  (hI : HbI hh) (hRI : RnI rr) (hTI : RnI tt) (hG : GaI ga)  (hd : 7 ≤ d) : am_Out S zX1_seek d u [aR 83, aR 54, aR 64, aR 86] (hfW w hb sp rb rs hb po ro ee hh ss uu vv pp kk rr tt gg aa dd bd ga im) (.inl none) (hfW w hb sp rb rs hb po ro ee hh ss uu vv pp kk ((c_seek hb hh rr tt dd ga).1) ((c_seek hb hh rr tt dd ga).2.1) gg aa ((c_seek hb hh rr tt dd ga).2.2) bd ga im) := by
  have key : ∀ Q : AO → AH → Prop, Q (.inl none) (hfW w hb sp rb rs hb po ro ee hh ss uu vv pp kk ((c_seek hb hh rr tt dd ga).1) ((c_seek hb hh rr tt dd ga).2.1) gg aa ((c_seek hb hh rr tt dd ga).2.2) bd ga im) → am_M S zX1_seek d u [aR 83, aR 54, aR 64, aR 86] (hfW w hb sp rb rs hb po ro ee hh ss uu vv pp kk rr tt gg aa dd bd ga im) Q := by
    intro Q hQ
    refine am_body rfl (by decide +kernel) rfl (am_cats_cons rfl ( am_cats_cons rfl ( am_cats_cons rfl ( am_cats_cons rfl (am_cats_nil))))) (Nat.le_of_ble_eq_true rfl) (?_ : am_T _ _ _ _ _ 0 [some (aR 83), some (aR 54), some (aR 64), some (aR 86), none, none, none] [] (hfW w hb sp rb rs hb po ro ee hh ss uu vv pp kk rr tt gg aa dd bd ga im))
    obtain ⟨vh1, vh2, vh3, vh4, vh5, vh6, vh7, vh8, vh9, vh10, vh11, vh12, vh13, vh14, vh15, vh16, vh17, vh18, vh19, vh20, vh21, vh22⟩ := (HbI_A hI).1
    have hG9 := hG
    obtain ⟨vg0, ⟨vg1, vg2⟩, vg3⟩ := hG9
    refine T_aload_n (am_dec tX1_seek_0 0 rfl) rfl ?_
    refine T_getfield 1 0 (am_dec tX1_seek_0 1 rfl) flX1_43_1 (show (hfW w hb sp rb rs hb po ro ee hh ss uu vv pp kk rr tt gg aa dd bd ga im)[83]? = some (cO 1 [aI (dd 0 0), aI (dd 0 1), aI (dd 0 2), aI (dd 0 3), aI (dd 0 4), aI (dd 0 5), aI (dd 0 6)]) from (hfW_c hl 83 (by decide))) rfl ?_
    refine T_if_eq 8 (am_dec tX1_seek_0 2 rfl) rfl (fun h4 => ?_) (fun h4 => ?_)
    · refine T_aload_n (am_dec tX1_seek_0 4 rfl) rfl ?_
      refine T_iconst 1 (am_dec tX1_seek_0 5 rfl) rfl ⟨by decide, by decide⟩ ?_
      refine T_putfield (fs' := [aI 1, aI (dd 0 1), aI (dd 0 2), aI (dd 0 3), aI (dd 0 4), aI (dd 0 5), aI (dd 0 6)]) 1 0 (am_dec tX1_seek_0 6 rfl) flX1_43_1 rfl rfl rfl (Or.inr rfl) (show (hfW w hb sp rb rs hb po ro ee hh ss uu vv pp kk rr tt gg aa dd bd ga im)[83]? = some (cO 1 [aI (dd 0 0), aI (dd 0 1), aI (dd 0 2), aI (dd 0 3), aI (dd 0 4), aI (dd 0 5), aI (dd 0 6)]) from (hfW_c hl 83 (by decide))) (Nat.le_of_ble_eq_true rfl) rfl ?_
      refine am_wE (w2 := hfW w hb sp rb rs hb po ro ee hh ss uu vv pp kk rr tt gg aa (am_put dd 0 0 1) bd ga im) (hf_dd0 hl) ?_
      refine T_aload_n (am_dec tX1_seek_0 7 rfl) rfl ?_
      refine T_iconst 0 (am_dec tX1_seek_0 8 rfl) rfl ⟨by decide, by decide⟩ ?_
      refine T_putfield (fs' := [aI 1, aI 0, aI (dd 0 2), aI (dd 0 3), aI (dd 0 4), aI (dd 0 5), aI (dd 0 6)]) 1 1 (am_dec tX1_seek_0 9 rfl) flX1_47_1 rfl rfl rfl trivial (show (hfW w hb sp rb rs hb po ro ee hh ss uu vv pp kk rr tt gg aa (am_put dd 0 0 1) bd ga im)[83]? = some (cO 1 [aI 1, aI (dd 0 1), aI (dd 0 2), aI (dd 0 3), aI (dd 0 4), aI (dd 0 5), aI (dd 0 6)]) from (hfW_c hl 83 (by decide))) (Nat.le_of_ble_eq_true rfl) rfl ?_
      refine am_wE (w2 := hfW w hb sp rb rs hb po ro ee hh ss uu vv pp kk rr tt gg aa (am_put (am_put dd 0 0 1) 0 1 0) bd ga im) (hf_dd1 hl) ?_
      refine T_aload_n (am_dec tX1_seek_0 10 rfl) rfl ?_
      refine T_iconst (-1) (am_dec tX1_seek_0 11 rfl) rfl ⟨by decide, by decide⟩ ?_
      refine T_putfield (fs' := [aI 1, aI 0, aI (-1), aI (dd 0 3), aI (dd 0 4), aI (dd 0 5), aI (dd 0 6)]) 1 2 (am_dec tX1_seek_0 12 rfl) flX1_48_1 rfl rfl rfl trivial (show (hfW w hb sp rb rs hb po ro ee hh ss uu vv pp kk rr tt gg aa (am_put (am_put dd 0 0 1) 0 1 0) bd ga im)[83]? = some (cO 1 [aI 1, aI 0, aI (dd 0 2), aI (dd 0 3), aI (dd 0 4), aI (dd 0 5), aI (dd 0 6)]) from (hfW_c hl 83 (by decide))) (Nat.le_of_ble_eq_true rfl) rfl ?_
      refine am_wE (w2 := hfW w hb sp rb rs hb po ro ee hh ss uu vv pp kk rr tt gg aa (am_put (am_put (am_put dd 0 0 1) 0 1 0) 0 2 (-1)) bd ga im) (hf_dd2 hl) ?_
      refine T_aload_n (am_dec tX1_seek_0 13 rfl) rfl ?_
      refine T_iconst (-1) (am_dec tX1_seek_0 14 rfl) rfl ⟨by decide, by decide⟩ ?_
      refine T_putfield (fs' := [aI 1, aI 0, aI (-1), aI (-1), aI (dd 0 4), aI (dd 0 5), aI (dd 0 6)]) 1 3 (am_dec tX1_seek_0 15 rfl) flX1_51_1 rfl rfl rfl trivial (show (hfW w hb sp rb rs hb po ro ee hh ss uu vv pp kk rr tt gg aa (am_put (am_put (am_put dd 0 0 1) 0 1 0) 0 2 (-1)) bd ga im)[83]? = some (cO 1 [aI 1, aI 0, aI (-1), aI (dd 0 3), aI (dd 0 4), aI (dd 0 5), aI (dd 0 6)]) from (hfW_c hl 83 (by decide))) (Nat.le_of_ble_eq_true rfl) rfl ?_
      refine am_wE (w2 := hfW w hb sp rb rs hb po ro ee hh ss uu vv pp kk rr tt gg aa (am_put (am_put (am_put (am_put dd 0 0 1) 0 1 0) 0 2 (-1)) 0 3 (-1)) bd ga im) (hf_dd3 hl) ?_
      refine T_aload_n (am_dec tX1_seek_0 16 rfl) rfl ?_
      refine T_aload_n (am_dec tX1_seek_0 17 rfl) rfl ?_
      refine T_aload_n (am_dec tX1_seek_0 18 rfl) rfl ?_
      refine T_callV (as := [aR 54, aR 86]) rfl (am_dec tX1_seek_0 19 rfl) lkX1_54 (show (hfW w hb sp rb rs hb po ro ee hh ss uu vv pp kk rr tt gg aa (am_put (am_put (am_put (am_put dd 0 0 1) 0 1 0) 0 2 (-1)) 0 3 (-1)) bd ga im)[83]? = some (cO 1 [aI 1, aI 0, aI (-1), aI (-1), aI (dd 0 4), aI (dd 0 5), aI (dd 0 6)]) from (hfW_c hl 83 (by decide))) rfl rfl (Nat.le_of_ble_eq_true rfl) (by omega) (mc_lookWithout (d := d - 1) hl hp hr   hI hRI hG (by omega)) (fun _ => ?_)
      obtain ⟨u31, hu31⟩ : ∃ x9, x9 = c_lookWithout hh rr (am_put (am_put (am_put (am_put dd 0 0 1) 0 1 0) 0 2 (-1)) 0 3 (-1)) ga := ⟨_, rfl⟩
      rw [← hu31]
      have hIu31 : RnI u31.1 := by rw [hu31]; exact f_upTo_I (HbI_A hI) hRI
      refine T_iconst 0 (am_dec tX1_seek_0 20 rfl) rfl ⟨by decide, by decide⟩ ?_
      refine T_istore (ls' := [some (aR 83), some (aR 54), some (aR 64), some (aR 86), some (aI 0), none, none]) (am_dec tX1_seek_0 21 rfl) (by decide) rfl ?_
      refine L_c_seek_37 hl hp hr ee hh ss uu vv pp kk ((u31).1) gg aa bd ga im hI hIu31 hG  (by omega) 41 0 tt ((u31).2) (by omega) ⟨hTI, by omega, by omega⟩ (fun s_37 tt37 dd37 hs_37 htt37 hdd37 hv37 => ?_)
      exact T_return (am_dec tX1_seek_1 29 rfl) rfl (am_tr (fun (x9 : am_F × am_F × am_F) => Q (.inl none) (hfW w hb sp rb rs hb po ro ee hh ss uu vv pp kk x9.1 x9.2.1 gg aa x9.2.2 bd ga im)) (y := ((u31).1, tt37, dd37)) (show (c_seek hb hh rr tt dd ga) = ((u31).1, tt37, dd37) from (by have s9 := hu31.symm; subst s9; have s9 := hs_37.symm; subst s9; have s9 := htt37.symm; subst s9; have s9 := hdd37.symm; subst s9; exact (if_pos h4))) hQ)
    · exact T_return (am_dec tX1_seek_0 3 rfl) rfl (am_tr (fun (x9 : am_F × am_F × am_F) => Q (.inl none) (hfW w hb sp rb rs hb po ro ee hh ss uu vv pp kk x9.1 x9.2.1 gg aa x9.2.2 bd ga im)) (y := (rr, tt, dd)) (show (c_seek hb hh rr tt dd ga) = (rr, tt, dd) from (if_neg h4)) hQ)
  exact key _ ⟨rfl, rfl⟩
def c_found (hb : Nat) (ee : am_F) (hh : am_F) (rr : am_F) (tt : am_F) (dd : am_F) (ga : am_F) (what : Int) : Int × Int × am_F × am_F × am_F × am_F := (if n_range what 0 2 = 0 then (let u23 : am_F × am_F × am_F := c_seek hb hh rr tt dd ga; (if what = 0 then (0, ((u23).2.2 0 1), ee, (u23).1, (u23).2.1, (u23).2.2) else (if what = 1 then (0, ((u23).2.2 0 2), ee, (u23).1, (u23).2.1, (u23).2.2) else (0, ((u23).2.2 0 3), ee, (u23).1, (u23).2.1, (u23).2.2)))) else ((n_range what 0 2), 0, n_ref ee (n_range what 0 2), rr, tt, dd))
theorem mc_found {S : am_S} {d u : Nat} {w : AH} {hb sp rb rs : Nat} {po ro : AV} (hl : 109 ≤ w.length) (hp : hb = 1 ∧ sp = 21 ∨ hb = 21 ∧ sp = 1) (hr : rb = 41 ∧ rs = 46 ∨ rb = 46 ∧ rs = 41) {ee : am_F} {hh : am_F} {ss : am_F} {uu : am_F} {vv : am_F} {pp : am_F} {kk : am_F} {rr : am_F} {tt : am_F} {gg : am_F} {aa : am_F} {dd : am_F} {bd : am_F} {ga : am_F} {im : am_F} (what : Int) (hI : HbI hh) (hRI : RnI rr) (hTI : RnI tt) (hG : GaI ga) (hu : 1 ≤ u) (hd : 8 ≤ d) : am_Out S zX11_found d u [aR 0, aI what] (hfW w hb sp rb rs hb po ro ee hh ss uu vv pp kk rr tt gg aa dd bd ga im) (am_oc ((c_found hb ee hh rr tt dd ga what).1) ((c_found hb ee hh rr tt dd ga what).2.1)) (hfW w hb sp rb rs hb po ro ((c_found hb ee hh rr tt dd ga what).2.2.1) hh ss uu vv pp kk ((c_found hb ee hh rr tt dd ga what).2.2.2.1) ((c_found hb ee hh rr tt dd ga what).2.2.2.2.1) gg aa ((c_found hb ee hh rr tt dd ga what).2.2.2.2.2) bd ga im) := by
  have key : ∀ Q : AO → AH → Prop, Q (am_oc ((c_found hb ee hh rr tt dd ga what).1) ((c_found hb ee hh rr tt dd ga what).2.1)) (hfW w hb sp rb rs hb po ro ((c_found hb ee hh rr tt dd ga what).2.2.1) hh ss uu vv pp kk ((c_found hb ee hh rr tt dd ga what).2.2.2.1) ((c_found hb ee hh rr tt dd ga what).2.2.2.2.1) gg aa ((c_found hb ee hh rr tt dd ga what).2.2.2.2.2) bd ga im) → am_M S zX11_found d u [aR 0, aI what] (hfW w hb sp rb rs hb po ro ee hh ss uu vv pp kk rr tt gg aa dd bd ga im) Q := by
    intro Q hQ
    refine am_body rfl (by decide +kernel) rfl (am_cats_cons rfl ( am_cats_cons rfl (am_cats_nil))) (Nat.le_of_ble_eq_true rfl) (?_ : am_T _ _ _ _ _ 0 [some (aR 0), some (aI what)] [] (hfW w hb sp rb rs hb po ro ee hh ss uu vv pp kk rr tt gg aa dd bd ga im))
    obtain ⟨vh1, vh2, vh3, vh4, vh5, vh6, vh7, vh8, vh9, vh10, vh11, vh12, vh13, vh14, vh15, vh16, vh17, vh18, vh19, vh20, vh21, vh22⟩ := (HbI_A hI).1
    have hG9 := hG
    obtain ⟨vg0, ⟨vg1, vg2⟩, vg3⟩ := hG9
    refine T_aload_n (am_dec tX11_found_0 0 rfl) rfl ?_
    refine T_iload_n (am_dec tX11_found_0 1 rfl) rfl ?_
    refine T_iconst 0 (am_dec tX11_found_0 2 rfl) rfl ⟨by decide, by decide⟩ ?_
    refine T_iconst 2 (am_dec tX11_found_0 3 rfl) rfl ⟨by decide, by decide⟩ ?_
    refine T_callVo (as := [aI what, aI 0, aI 2]) (code := n_range what 0 2) rfl (am_dec tX11_found_0 4 rfl) lkX11_117 (show (hfW w hb sp rb rs hb po ro ee hh ss uu vv pp kk rr tt gg aa dd bd ga im)[0]? = some (cO 10 [aR hb, aR sp, aR rb, aR rs, aR 52, aR 53, aR 51, aI (ee 0 7), aI (ee 0 8), aR 54, aR 64, aR 74, aR 77, aR 83, aR 84, aR 86, aR 88, aI (ee 0 17), aR 107, aR 108]) from (hfW_c hl 0 (by decide))) rfl rfl (Nat.le_of_ble_eq_true rfl) (by omega) (by omega) (fun hN4 => (mx_range0 (d := d - 1) hl hp hr what 0 2  hN4 (by omega))) (fun hN4 => (x_rangeX (d := d - 1) hl hp hr what 0 2  hN4 (by omega) (by omega))) (fun hN4 => ?_) (fun hN4 => ?_)
    · exact (am_tr (fun (x9 : Int × Int × am_F × am_F × am_F × am_F) => Q (am_oc (x9.1) (x9.2.1)) (hfW w hb sp rb rs hb po ro x9.2.2.1 hh ss uu vv pp kk x9.2.2.2.1 x9.2.2.2.2.1 gg aa x9.2.2.2.2.2 bd ga im)) (y := ((n_range what 0 2), 0, n_ref ee (n_range what 0 2), rr, tt, dd)) (show (c_found hb ee hh rr tt dd ga what) = ((n_range what 0 2), 0, n_ref ee (n_range what 0 2), rr, tt, dd) from (if_neg hN4)) hQ)
    have hk4 := n_range_0 hN4
    refine T_aload_n (am_dec tX11_found_0 5 rfl) rfl ?_
    refine T_getfield 10 13 (am_dec tX11_found_0 6 rfl) flX11_82_10 (show (hfW w hb sp rb rs hb po ro ee hh ss uu vv pp kk rr tt gg aa dd bd ga im)[0]? = some (cO 10 [aR hb, aR sp, aR rb, aR rs, aR 52, aR 53, aR 51, aI (ee 0 7), aI (ee 0 8), aR 54, aR 64, aR 74, aR 77, aR 83, aR 84, aR 86, aR 88, aI (ee 0 17), aR 107, aR 108]) from (hfW_c hl 0 (by decide))) rfl ?_
    refine T_aload_n (am_dec tX11_found_0 7 rfl) rfl ?_
    refine T_getfield 10 9 (am_dec tX11_found_0 8 rfl) flX11_58_10 (show (hfW w hb sp rb rs hb po ro ee hh ss uu vv pp kk rr tt gg aa dd bd ga im)[0]? = some (cO 10 [aR hb, aR sp, aR rb, aR rs, aR 52, aR 53, aR 51, aI (ee 0 7), aI (ee 0 8), aR 54, aR 64, aR 74, aR 77, aR 83, aR 84, aR 86, aR 88, aI (ee 0 17), aR 107, aR 108]) from (hfW_c hl 0 (by decide))) rfl ?_
    refine T_aload_n (am_dec tX11_found_0 9 rfl) rfl ?_
    refine T_getfield 10 10 (am_dec tX11_found_0 10 rfl) flX11_62_10 (show (hfW w hb sp rb rs hb po ro ee hh ss uu vv pp kk rr tt gg aa dd bd ga im)[0]? = some (cO 10 [aR hb, aR sp, aR rb, aR rs, aR 52, aR 53, aR 51, aI (ee 0 7), aI (ee 0 8), aR 54, aR 64, aR 74, aR 77, aR 83, aR 84, aR 86, aR 88, aI (ee 0 17), aR 107, aR 108]) from (hfW_c hl 0 (by decide))) rfl ?_
    refine T_aload_n (am_dec tX11_found_0 11 rfl) rfl ?_
    refine T_getfield 10 15 (am_dec tX11_found_0 12 rfl) flX11_95_10 (show (hfW w hb sp rb rs hb po ro ee hh ss uu vv pp kk rr tt gg aa dd bd ga im)[0]? = some (cO 10 [aR hb, aR sp, aR rb, aR rs, aR 52, aR 53, aR 51, aI (ee 0 7), aI (ee 0 8), aR 54, aR 64, aR 74, aR 77, aR 83, aR 84, aR 86, aR 88, aI (ee 0 17), aR 107, aR 108]) from (hfW_c hl 0 (by decide))) rfl ?_
    refine T_callV (as := [aR 54, aR 64, aR 86]) rfl (am_dec tX11_found_0 13 rfl) lkX11_400 (show (hfW w hb sp rb rs hb po ro ee hh ss uu vv pp kk rr tt gg aa dd bd ga im)[83]? = some (cO 1 [aI (dd 0 0), aI (dd 0 1), aI (dd 0 2), aI (dd 0 3), aI (dd 0 4), aI (dd 0 5), aI (dd 0 6)]) from (hfW_c hl 83 (by decide))) rfl rfl (Nat.le_of_ble_eq_true rfl) (by omega) (mc_seek (d := d - 1) hl hp hr   hI hRI hTI hG (by omega)) (fun _ => ?_)
    obtain ⟨u23, hu23⟩ : ∃ x9, x9 = c_seek hb hh rr tt dd ga := ⟨_, rfl⟩
    rw [← hu23]
    refine T_iload_n (am_dec tX11_found_0 14 rfl) rfl ?_
    by_cases e27_0 : what = 0
    · refine T_lookup (off := 25) 52 (am_dec tX11_found_0 15 rfl) (by decide) (if_pos e27_0.symm) rfl ?_
      refine T_aload_n (am_dec tX11_found_0 16 rfl) rfl ?_
      refine T_getfield 10 13 (am_dec tX11_found_0 17 rfl) flX11_82_10 (show (hfW w hb sp rb rs hb po ro ee hh ss uu vv pp kk ((u23).1) ((u23).2.1) gg aa ((u23).2.2) bd ga im)[0]? = some (cO 10 [aR hb, aR sp, aR rb, aR rs, aR 52, aR 53, aR 51, aI (ee 0 7), aI (ee 0 8), aR 54, aR 64, aR 74, aR 77, aR 83, aR 84, aR 86, aR 88, aI (ee 0 17), aR 107, aR 108]) from (hfW_c hl 0 (by decide))) rfl ?_
      refine T_getfield 1 1 (am_dec tX11_found_0 18 rfl) flX11_404_1 (show (hfW w hb sp rb rs hb po ro ee hh ss uu vv pp kk ((u23).1) ((u23).2.1) gg aa ((u23).2.2) bd ga im)[83]? = some (cO 1 [aI ((u23).2.2 0 0), aI ((u23).2.2 0 1), aI ((u23).2.2 0 2), aI ((u23).2.2 0 3), aI ((u23).2.2 0 4), aI ((u23).2.2 0 5), aI ((u23).2.2 0 6)]) from (hfW_c hl 83 (by decide))) rfl ?_
      exact T_ireturn (am_dec tX11_found_0 19 rfl) rfl (am_tr (fun (x9 : Int × Int × am_F × am_F × am_F × am_F) => Q (am_oc (x9.1) (x9.2.1)) (hfW w hb sp rb rs hb po ro x9.2.2.1 hh ss uu vv pp kk x9.2.2.2.1 x9.2.2.2.2.1 gg aa x9.2.2.2.2.2 bd ga im)) (y := (0, ((u23).2.2 0 1), ee, (u23).1, (u23).2.1, (u23).2.2)) (show (c_found hb ee hh rr tt dd ga what) = (0, ((u23).2.2 0 1), ee, (u23).1, (u23).2.1, (u23).2.2) from (by have s9 := hu23.symm; subst s9; exact ((if_pos hN4).trans (if_pos e27_0)))) hQ)
    by_cases e27_1 : what = 1
    · refine T_lookup (off := 33) 60 (am_dec tX11_found_0 15 rfl) (by decide) ((if_neg (fun q9 => e27_0 q9.symm)).trans (if_pos e27_1.symm)) rfl ?_
      refine T_aload_n (am_dec tX11_found_0 20 rfl) rfl ?_
      refine T_getfield 10 13 (am_dec tX11_found_0 21 rfl) flX11_82_10 (show (hfW w hb sp rb rs hb po ro ee hh ss uu vv pp kk ((u23).1) ((u23).2.1) gg aa ((u23).2.2) bd ga im)[0]? = some (cO 10 [aR hb, aR sp, aR rb, aR rs, aR 52, aR 53, aR 51, aI (ee 0 7), aI (ee 0 8), aR 54, aR 64, aR 74, aR 77, aR 83, aR 84, aR 86, aR 88, aI (ee 0 17), aR 107, aR 108]) from (hfW_c hl 0 (by decide))) rfl ?_
      refine T_getfield 1 2 (am_dec tX11_found_0 22 rfl) flX11_405_1 (show (hfW w hb sp rb rs hb po ro ee hh ss uu vv pp kk ((u23).1) ((u23).2.1) gg aa ((u23).2.2) bd ga im)[83]? = some (cO 1 [aI ((u23).2.2 0 0), aI ((u23).2.2 0 1), aI ((u23).2.2 0 2), aI ((u23).2.2 0 3), aI ((u23).2.2 0 4), aI ((u23).2.2 0 5), aI ((u23).2.2 0 6)]) from (hfW_c hl 83 (by decide))) rfl ?_
      exact T_ireturn (am_dec tX11_found_0 23 rfl) rfl (am_tr (fun (x9 : Int × Int × am_F × am_F × am_F × am_F) => Q (am_oc (x9.1) (x9.2.1)) (hfW w hb sp rb rs hb po ro x9.2.2.1 hh ss uu vv pp kk x9.2.2.2.1 x9.2.2.2.2.1 gg aa x9.2.2.2.2.2 bd ga im)) (y := (0, ((u23).2.2 0 2), ee, (u23).1, (u23).2.1, (u23).2.2)) (show (c_found hb ee hh rr tt dd ga what) = (0, ((u23).2.2 0 2), ee, (u23).1, (u23).2.1, (u23).2.2) from (by have s9 := hu23.symm; subst s9; exact ((if_pos hN4).trans ((if_neg e27_0).trans (if_pos e27_1))))) hQ)
    refine T_lookup (off := 41) 68 (am_dec tX11_found_0 15 rfl) (by decide) ((if_neg (fun q9 => e27_0 q9.symm)).trans ((if_neg (fun q9 => e27_1 q9.symm)))) rfl ?_
    refine T_aload_n (am_dec tX11_found_0 24 rfl) rfl ?_
    refine T_getfield 10 13 (am_dec tX11_found_0 25 rfl) flX11_82_10 (show (hfW w hb sp rb rs hb po ro ee hh ss uu vv pp kk ((u23).1) ((u23).2.1) gg aa ((u23).2.2) bd ga im)[0]? = some (cO 10 [aR hb, aR sp, aR rb, aR rs, aR 52, aR 53, aR 51, aI (ee 0 7), aI (ee 0 8), aR 54, aR 64, aR 74, aR 77, aR 83, aR 84, aR 86, aR 88, aI (ee 0 17), aR 107, aR 108]) from (hfW_c hl 0 (by decide))) rfl ?_
    refine T_getfield 1 3 (am_dec tX11_found_0 26 rfl) flX11_408_1 (show (hfW w hb sp rb rs hb po ro ee hh ss uu vv pp kk ((u23).1) ((u23).2.1) gg aa ((u23).2.2) bd ga im)[83]? = some (cO 1 [aI ((u23).2.2 0 0), aI ((u23).2.2 0 1), aI ((u23).2.2 0 2), aI ((u23).2.2 0 3), aI ((u23).2.2 0 4), aI ((u23).2.2 0 5), aI ((u23).2.2 0 6)]) from (hfW_c hl 83 (by decide))) rfl ?_
    exact T_ireturn (am_dec tX11_found_0 27 rfl) rfl (am_tr (fun (x9 : Int × Int × am_F × am_F × am_F × am_F) => Q (am_oc (x9.1) (x9.2.1)) (hfW w hb sp rb rs hb po ro x9.2.2.1 hh ss uu vv pp kk x9.2.2.2.1 x9.2.2.2.2.1 gg aa x9.2.2.2.2.2 bd ga im)) (y := (0, ((u23).2.2 0 3), ee, (u23).1, (u23).2.1, (u23).2.2)) (show (c_found hb ee hh rr tt dd ga what) = (0, ((u23).2.2 0 3), ee, (u23).1, (u23).2.1, (u23).2.2) from (by have s9 := hu23.symm; subst s9; exact ((if_pos hN4).trans ((if_neg e27_0).trans (if_neg e27_1))))) hQ)
  exact key _ ⟨rfl, rfl⟩
def c_right (hh : am_F) (rr : am_F) (ga : am_F) : Int × am_F := (let u8 : Int × am_F := c_areRight hh rr ga; (((u8).1), (u8).2))
theorem mc_right {S : am_S} {d u : Nat} {w : AH} {hb sp rb rs : Nat} {po ro : AV} (hl : 109 ≤ w.length) (hp : hb = 1 ∧ sp = 21 ∨ hb = 21 ∧ sp = 1) (hr : rb = 41 ∧ rs = 46 ∨ rb = 46 ∧ rs = 41) {ee : am_F} {hh : am_F} {ss : am_F} {uu : am_F} {vv : am_F} {pp : am_F} {kk : am_F} {rr : am_F} {tt : am_F} {gg : am_F} {aa : am_F} {dd : am_F} {bd : am_F} {ga : am_F} {im : am_F}  (hI : HbI hh) (hRI : RnI rr) (hG : GaI ga)  (hd : 7 ≤ d) : am_Out S zX11_right d u [aR 0] (hfW w hb sp rb rs hb po ro ee hh ss uu vv pp kk rr tt gg aa dd bd ga im) (.inl (some (aI ((c_right hh rr ga).1)))) (hfW w hb sp rb rs hb po ro ee hh ss uu vv pp kk ((c_right hh rr ga).2) tt gg aa dd bd ga im) := by
  have key : ∀ Q : AO → AH → Prop, Q (.inl (some (aI ((c_right hh rr ga).1)))) (hfW w hb sp rb rs hb po ro ee hh ss uu vv pp kk ((c_right hh rr ga).2) tt gg aa dd bd ga im) → am_M S zX11_right d u [aR 0] (hfW w hb sp rb rs hb po ro ee hh ss uu vv pp kk rr tt gg aa dd bd ga im) Q := by
    intro Q hQ
    refine am_body rfl (by decide +kernel) rfl (am_cats_cons rfl (am_cats_nil)) (Nat.le_of_ble_eq_true rfl) (?_ : am_T _ _ _ _ _ 0 [some (aR 0)] [] (hfW w hb sp rb rs hb po ro ee hh ss uu vv pp kk rr tt gg aa dd bd ga im))
    obtain ⟨vh1, vh2, vh3, vh4, vh5, vh6, vh7, vh8, vh9, vh10, vh11, vh12, vh13, vh14, vh15, vh16, vh17, vh18, vh19, vh20, vh21, vh22⟩ := (HbI_A hI).1
    have hG9 := hG
    obtain ⟨vg0, ⟨vg1, vg2⟩, vg3⟩ := hG9
    refine T_aload_n (am_dec tX11_right_0 0 rfl) rfl ?_
    refine T_getfield 10 9 (am_dec tX11_right_0 1 rfl) flX11_58_10 (show (hfW w hb sp rb rs hb po ro ee hh ss uu vv pp kk rr tt gg aa dd bd ga im)[0]? = some (cO 10 [aR hb, aR sp, aR rb, aR rs, aR 52, aR 53, aR 51, aI (ee 0 7), aI (ee 0 8), aR 54, aR 64, aR 74, aR 77, aR 83, aR 84, aR 86, aR 88, aI (ee 0 17), aR 107, aR 108]) from (hfW_c hl 0 (by decide))) rfl ?_
    refine T_aload_n (am_dec tX11_right_0 2 rfl) rfl ?_
    refine T_getfield 10 15 (am_dec tX11_right_0 3 rfl) flX11_95_10 (show (hfW w hb sp rb rs hb po ro ee hh ss uu vv pp kk rr tt gg aa dd bd ga im)[0]? = some (cO 10 [aR hb, aR sp, aR rb, aR rs, aR 52, aR 53, aR 51, aI (ee 0 7), aI (ee 0 8), aR 54, aR 64, aR 74, aR 77, aR 83, aR 84, aR 86, aR 88, aI (ee 0 17), aR 107, aR 108]) from (hfW_c hl 0 (by decide))) rfl ?_
    refine T_callS (as := [aR 54, aR 86]) rfl (am_dec tX11_right_0 4 rfl) lkX11_396 rfl (Nat.le_of_ble_eq_true rfl) (by omega) (mc_areRight (d := d - 1) hl hp hr   hI hRI hG (by omega)) (fun _ => ?_)
    obtain ⟨u8, hu8⟩ : ∃ x9, x9 = c_areRight hh rr ga := ⟨_, rfl⟩
    rw [← hu8]
    have hb8 := c_areRight_b hh rr ga
    rw [← hu8] at hb8
    exact T_zreturn (am_dec tX11_right_0 5 rfl) rfl (by first | exact Or.inl rfl | exact Or.inr rfl | omega) (am_tr (fun (x9 : Int × am_F) => Q (.inl (some (aI (x9.1)))) (hfW w hb sp rb rs hb po ro ee hh ss uu vv pp kk x9.2 tt gg aa dd bd ga im)) (y := (((u8).1), (u8).2)) (show (c_right hh rr ga) = (((u8).1), (u8).2) from (by have s9 := hu8.symm; subst s9; exact rfl)) hQ)
  exact key _ ⟨rfl, rfl⟩
def c_gauge (ee : am_F) (hh : am_F) (dd : am_F) (ga : am_F) (x : Int) (y : Int) (st : Int) (yd : Int) : Int × Int × am_F × am_F × am_F := (if n_cell hh x y = 0 then (if n_step st = 0 then (if n_range yd 0 99 = 0 then (let z24 : Int := (if ga 0 0 ≤ ga 0 2 then 1 else 0); (if z24 = 0 then (let ga46 : am_F := c_add ga st (x + (10 * y)) yd 0; (0, (ga46 0 2), ee, (am_put dd 0 0 0), ga46)) else (0, (-1), ee, dd, ga))) else ((n_range yd 0 99), 0, n_ref ee (n_range yd 0 99), dd, ga)) else ((n_step st), 0, n_ref ee (n_step st), dd, ga)) else ((n_cell hh x y), 0, n_ref ee (n_cell hh x y), dd, ga))
theorem mc_gauge {S : am_S} {d u : Nat} {w : AH} {hb sp rb rs : Nat} {po ro : AV} (hl : 109 ≤ w.length) (hp : hb = 1 ∧ sp = 21 ∨ hb = 21 ∧ sp = 1) (hr : rb = 41 ∧ rs = 46 ∨ rb = 46 ∧ rs = 41) {ee : am_F} {hh : am_F} {ss : am_F} {uu : am_F} {vv : am_F} {pp : am_F} {kk : am_F} {rr : am_F} {tt : am_F} {gg : am_F} {aa : am_F} {dd : am_F} {bd : am_F} {ga : am_F} {im : am_F} (x : Int) (y : Int) (st : Int) (yd : Int) (hI : HbI hh) (hG : GaI ga) (hu : 1 ≤ u) (hd : 8 ≤ d) : am_Out S zX11_gauge d u [aR 0, aI x, aI y, aI st, aI yd] (hfW w hb sp rb rs hb po ro ee hh ss uu vv pp kk rr tt gg aa dd bd ga im) (am_oc ((c_gauge ee hh dd ga x y st yd).1) ((c_gauge ee hh dd ga x y st yd).2.1)) (hfW w hb sp rb rs hb po ro ((c_gauge ee hh dd ga x y st yd).2.2.1) hh ss uu vv pp kk rr tt gg aa ((c_gauge ee hh dd ga x y st yd).2.2.2.1) bd ((c_gauge ee hh dd ga x y st yd).2.2.2.2) im) := by
  have key : ∀ Q : AO → AH → Prop, Q (am_oc ((c_gauge ee hh dd ga x y st yd).1) ((c_gauge ee hh dd ga x y st yd).2.1)) (hfW w hb sp rb rs hb po ro ((c_gauge ee hh dd ga x y st yd).2.2.1) hh ss uu vv pp kk rr tt gg aa ((c_gauge ee hh dd ga x y st yd).2.2.2.1) bd ((c_gauge ee hh dd ga x y st yd).2.2.2.2) im) → am_M S zX11_gauge d u [aR 0, aI x, aI y, aI st, aI yd] (hfW w hb sp rb rs hb po ro ee hh ss uu vv pp kk rr tt gg aa dd bd ga im) Q := by
    intro Q hQ
    refine am_body rfl (by decide +kernel) rfl (am_cats_cons rfl ( am_cats_cons rfl ( am_cats_cons rfl ( am_cats_cons rfl ( am_cats_cons rfl (am_cats_nil)))))) (Nat.le_of_ble_eq_true rfl) (?_ : am_T _ _ _ _ _ 0 [some (aR 0), some (aI x), some (aI y), some (aI st), some (aI yd)] [] (hfW w hb sp rb rs hb po ro ee hh ss uu vv pp kk rr tt gg aa dd bd ga im))
    obtain ⟨vh1, vh2, vh3, vh4, vh5, vh6, vh7, vh8, vh9, vh10, vh11, vh12, vh13, vh14, vh15, vh16, vh17, vh18, vh19, vh20, vh21, vh22⟩ := (HbI_A hI).1
    have hG9 := hG
    obtain ⟨vg0, ⟨vg1, vg2⟩, vg3⟩ := hG9
    refine T_aload_n (am_dec tX11_gauge_0 0 rfl) rfl ?_
    refine T_iload_n (am_dec tX11_gauge_0 1 rfl) rfl ?_
    refine T_iload_n (am_dec tX11_gauge_0 2 rfl) rfl ?_
    refine T_callVo (as := [aI x, aI y]) (code := n_cell hh x y) rfl (am_dec tX11_gauge_0 3 rfl) lkX11_173 (show (hfW w hb sp rb rs hb po ro ee hh ss uu vv pp kk rr tt gg aa dd bd ga im)[0]? = some (cO 10 [aR hb, aR sp, aR rb, aR rs, aR 52, aR 53, aR 51, aI (ee 0 7), aI (ee 0 8), aR 54, aR 64, aR 74, aR 77, aR 83, aR 84, aR 86, aR 88, aI (ee 0 17), aR 107, aR 108]) from (hfW_c hl 0 (by decide))) rfl rfl (Nat.le_of_ble_eq_true rfl) (by omega) (by omega) (fun hN3 => (mx_cell0 (d := d - 1) hl hp hr x y  hN3 (by omega))) (fun hN3 => (x_cellX (d := d - 1) hl hp hr x y  hN3 (by omega) (by omega))) (fun hN3 => ?_) (fun hN3 => ?_)
    · exact (am_tr (fun (x9 : Int × Int × am_F × am_F × am_F) => Q (am_oc (x9.1) (x9.2.1)) (hfW w hb sp rb rs hb po ro x9.2.2.1 hh ss uu vv pp kk rr tt gg aa x9.2.2.2.1 bd x9.2.2.2.2 im)) (y := ((n_cell hh x y), 0, n_ref ee (n_cell hh x y), dd, ga)) (show (c_gauge ee hh dd ga x y st yd) = ((n_cell hh x y), 0, n_ref ee (n_cell hh x y), dd, ga) from (if_neg hN3)) hQ)
    have hk3 := n_cell_0 hN3
    refine T_aload_n (am_dec tX11_gauge_0 4 rfl) rfl ?_
    refine T_iload_n (am_dec tX11_gauge_0 5 rfl) rfl ?_
    refine T_callVo (as := [aI st]) (code := n_step st) rfl (am_dec tX11_gauge_0 6 rfl) lkX11_194 (show (hfW w hb sp rb rs hb po ro ee hh ss uu vv pp kk rr tt gg aa dd bd ga im)[0]? = some (cO 10 [aR hb, aR sp, aR rb, aR rs, aR 52, aR 53, aR 51, aI (ee 0 7), aI (ee 0 8), aR 54, aR 64, aR 74, aR 77, aR 83, aR 84, aR 86, aR 88, aI (ee 0 17), aR 107, aR 108]) from (hfW_c hl 0 (by decide))) rfl rfl (Nat.le_of_ble_eq_true rfl) (by omega) (by omega) (fun hN8 => (mx_step0 (d := d - 1) hl hp hr st  hN8 (by omega))) (fun hN8 => (x_stepX (d := d - 1) hl hp hr st  hN8 (by omega) (by omega))) (fun hN8 => ?_) (fun hN8 => ?_)
    · exact (am_tr (fun (x9 : Int × Int × am_F × am_F × am_F) => Q (am_oc (x9.1) (x9.2.1)) (hfW w hb sp rb rs hb po ro x9.2.2.1 hh ss uu vv pp kk rr tt gg aa x9.2.2.2.1 bd x9.2.2.2.2 im)) (y := ((n_step st), 0, n_ref ee (n_step st), dd, ga)) (show (c_gauge ee hh dd ga x y st yd) = ((n_step st), 0, n_ref ee (n_step st), dd, ga) from ((if_pos hN3).trans (if_neg hN8))) hQ)
    have hk8 := n_step_0 hN8
    refine T_aload_n (am_dec tX11_gauge_0 7 rfl) rfl ?_
    refine T_iload (am_dec tX11_gauge_0 8 rfl) rfl ?_
    refine T_iconst 0 (am_dec tX11_gauge_0 9 rfl) rfl ⟨by decide, by decide⟩ ?_
    refine T_bipush 99 (am_dec tX11_gauge_0 10 rfl) rfl ⟨by decide, by decide⟩ ?_
    refine T_callVo (as := [aI yd, aI 0, aI 99]) (code := n_range yd 0 99) rfl (am_dec tX11_gauge_0 11 rfl) lkX11_117 (show (hfW w hb sp rb rs hb po ro ee hh ss uu vv pp kk rr tt gg aa dd bd ga im)[0]? = some (cO 10 [aR hb, aR sp, aR rb, aR rs, aR 52, aR 53, aR 51, aI (ee 0 7), aI (ee 0 8), aR 54, aR 64, aR 74, aR 77, aR 83, aR 84, aR 86, aR 88, aI (ee 0 17), aR 107, aR 108]) from (hfW_c hl 0 (by decide))) rfl rfl (Nat.le_of_ble_eq_true rfl) (by omega) (by omega) (fun hN17 => (mx_range0 (d := d - 1) hl hp hr yd 0 99  hN17 (by omega))) (fun hN17 => (x_rangeX (d := d - 1) hl hp hr yd 0 99  hN17 (by omega) (by omega))) (fun hN17 => ?_) (fun hN17 => ?_)
    · exact (am_tr (fun (x9 : Int × Int × am_F × am_F × am_F) => Q (am_oc (x9.1) (x9.2.1)) (hfW w hb sp rb rs hb po ro x9.2.2.1 hh ss uu vv pp kk rr tt gg aa x9.2.2.2.1 bd x9.2.2.2.2 im)) (y := ((n_range yd 0 99), 0, n_ref ee (n_range yd 0 99), dd, ga)) (show (c_gauge ee hh dd ga x y st yd) = ((n_range yd 0 99), 0, n_ref ee (n_range yd 0 99), dd, ga) from ((if_pos hN3).trans ((if_pos hN8).trans (if_neg hN17)))) hQ)
    have hk17 := n_range_0 hN17
    refine T_aload_n (am_dec tX11_gauge_0 12 rfl) rfl ?_
    refine T_getfield 10 15 (am_dec tX11_gauge_0 13 rfl) flX11_95_10 (show (hfW w hb sp rb rs hb po ro ee hh ss uu vv pp kk rr tt gg aa dd bd ga im)[0]? = some (cO 10 [aR hb, aR sp, aR rb, aR rs, aR 52, aR 53, aR 51, aI (ee 0 7), aI (ee 0 8), aR 54, aR 64, aR 74, aR 77, aR 83, aR 84, aR 86, aR 88, aI (ee 0 17), aR 107, aR 108]) from (hfW_c hl 0 (by decide))) rfl ?_
    refine T_callV (as := []) rfl (am_dec tX11_gauge_0 14 rfl) lkX11_312 (show (hfW w hb sp rb rs hb po ro ee hh ss uu vv pp kk rr tt gg aa dd bd ga im)[86]? = some (cO 9 [aI (ga 0 0), aR 87, aI (ga 0 2)]) from (hfW_c hl 86 (by decide))) rfl rfl (Nat.le_of_ble_eq_true rfl) (by omega) (m_full (d := d - 1) (show (hfW w hb sp rb rs hb po ro ee hh ss uu vv pp kk rr tt gg aa dd bd ga im)[86]? = some (cO 9 [aI (ga 0 0), aR 87, aI (ga 0 2)]) from (hfW_c hl 86 (by decide))) (show (hfW w hb sp rb rs hb po ro ee hh ss uu vv pp kk rr tt gg aa dd bd ga im)[87]? = some (cP 0 48 (ga 1)) from (hfW_c hl 87 (by decide))) (by omega)) (fun _ => ?_)
    refine T_nm (fun z24 hz24 => ?_)
    have hb24 : z24 = 0 ∧ ga 0 2 < ga 0 0 ∨ z24 = 1 ∧ ga 0 0 ≤ ga 0 2 := by rw [hz24]; split <;> omega
    refine T_if_eq 32 (am_dec tX11_gauge_0 15 rfl) rfl (fun h27 => ?_) (fun h27 => ?_)
    · refine T_aload_n (am_dec tX11_gauge_0 18 rfl) rfl ?_
      refine T_getfield 10 15 (am_dec tX11_gauge_0 19 rfl) flX11_95_10 (show (hfW w hb sp rb rs hb po ro ee hh ss uu vv pp kk rr tt gg aa dd bd ga im)[0]? = some (cO 10 [aR hb, aR sp, aR rb, aR rs, aR 52, aR 53, aR 51, aI (ee 0 7), aI (ee 0 8), aR 54, aR 64, aR 74, aR 77, aR 83, aR 84, aR 86, aR 88, aI (ee 0 17), aR 107, aR 108]) from (hfW_c hl 0 (by decide))) rfl ?_
      refine T_iload_n (am_dec tX11_gauge_0 20 rfl) rfl ?_
      refine T_iload_n (am_dec tX11_gauge_0 21 rfl) rfl ?_
      refine T_bipush 10 (am_dec tX11_gauge_0 22 rfl) rfl ⟨by decide, by decide⟩ ?_
      refine T_iload_n (am_dec tX11_gauge_0 23 rfl) rfl ?_
      refine T_imul (10 * y) (am_dec tX11_gauge_0 24 rfl) rfl ⟨by omega, by omega⟩ ?_
      refine T_iadd (x + (10 * y)) (am_dec tX11_gauge_0 25 rfl) rfl ⟨by omega, by omega⟩ ?_
      refine T_iload (am_dec tX11_gauge_0 26 rfl) rfl ?_
      refine T_iconst 0 (am_dec tX11_gauge_0 27 rfl) rfl ⟨by decide, by decide⟩ ?_
      refine T_callV (as := [aI st, aI (x + (10 * y)), aI yd, aI 0]) rfl (am_dec tX11_gauge_0 28 rfl) lkX11_315 (show (hfW w hb sp rb rs hb po ro ee hh ss uu vv pp kk rr tt gg aa dd bd ga im)[86]? = some (cO 9 [aI (ga 0 0), aR 87, aI (ga 0 2)]) from (hfW_c hl 86 (by decide))) rfl rfl (Nat.le_of_ble_eq_true rfl) (by omega) (am_OutE (mc_add (d := d - 1) (w := hfW w hb sp rb rs hb po ro ee hh ss uu vv pp kk rr tt gg aa dd bd ga im) (hf_le hl (by omega)) st (x + (10 * y)) yd 0 (by omega) (by omega)) hf_uG hf_uG) (fun _ => ?_)
      refine T_nmH (W := fun x9 => hfW w hb sp rb rs hb po ro ee hh ss uu vv pp kk rr tt gg aa dd bd x9 im) (v := c_add ga st (x + (10 * y)) yd 0) (fun ga46 hga46 => ?_)
      refine T_aload_n (am_dec tX11_gauge_0 29 rfl) rfl ?_
      refine T_getfield 10 13 (am_dec tX11_gauge_0 30 rfl) flX11_82_10 (show (hfW w hb sp rb rs hb po ro ee hh ss uu vv pp kk rr tt gg aa dd bd ga46 im)[0]? = some (cO 10 [aR hb, aR sp, aR rb, aR rs, aR 52, aR 53, aR 51, aI (ee 0 7), aI (ee 0 8), aR 54, aR 64, aR 74, aR 77, aR 83, aR 84, aR 86, aR 88, aI (ee 0 17), aR 107, aR 108]) from (hfW_c hl 0 (by decide))) rfl ?_
      refine T_iconst 0 (am_dec tX11_gauge_0 31 rfl) rfl ⟨by decide, by decide⟩ ?_
      refine T_putfield (fs' := [aI 0, aI (dd 0 1), aI (dd 0 2), aI (dd 0 3), aI (dd 0 4), aI (dd 0 5), aI (dd 0 6)]) 1 0 (am_dec tX11_gauge_0 32 rfl) flX11_392_1 rfl rfl rfl (Or.inl rfl) (show (hfW w hb sp rb rs hb po ro ee hh ss uu vv pp kk rr tt gg aa dd bd ga46 im)[83]? = some (cO 1 [aI (dd 0 0), aI (dd 0 1), aI (dd 0 2), aI (dd 0 3), aI (dd 0 4), aI (dd 0 5), aI (dd 0 6)]) from (hfW_c hl 83 (by decide))) (Nat.le_of_ble_eq_true rfl) rfl ?_
      refine am_wE (w2 := hfW w hb sp rb rs hb po ro ee hh ss uu vv pp kk rr tt gg aa (am_put dd 0 0 0) bd ga46 im) (hf_dd0 hl) ?_
      refine T_aload_n (am_dec tX11_gauge_0 33 rfl) rfl ?_
      refine T_getfield 10 15 (am_dec tX11_gauge_0 34 rfl) flX11_95_10 (show (hfW w hb sp rb rs hb po ro ee hh ss uu vv pp kk rr tt gg aa (am_put dd 0 0 0) bd ga46 im)[0]? = some (cO 10 [aR hb, aR sp, aR rb, aR rs, aR 52, aR 53, aR 51, aI (ee 0 7), aI (ee 0 8), aR 54, aR 64, aR 74, aR 77, aR 83, aR 84, aR 86, aR 88, aI (ee 0 17), aR 107, aR 108]) from (hfW_c hl 0 (by decide))) rfl ?_
      refine T_getfield 9 2 (am_dec tX11_gauge_0 35 rfl) flX11_140_9 (show (hfW w hb sp rb rs hb po ro ee hh ss uu vv pp kk rr tt gg aa (am_put dd 0 0 0) bd ga46 im)[86]? = some (cO 9 [aI (ga46 0 0), aR 87, aI (ga46 0 2)]) from (hfW_c hl 86 (by decide))) rfl ?_
      exact T_ireturn (am_dec tX11_gauge_0 36 rfl) rfl (am_tr (fun (x9 : Int × Int × am_F × am_F × am_F) => Q (am_oc (x9.1) (x9.2.1)) (hfW w hb sp rb rs hb po ro x9.2.2.1 hh ss uu vv pp kk rr tt gg aa x9.2.2.2.1 bd x9.2.2.2.2 im)) (y := (0, (ga46 0 2), ee, (am_put dd 0 0 0), ga46)) (show (c_gauge ee hh dd ga x y st yd) = (0, (ga46 0 2), ee, (am_put dd 0 0 0), ga46) from (by have s9 := hz24.symm; subst s9; have s9 := hga46.symm; subst s9; exact ((if_pos hN3).trans ((if_pos hN8).trans ((if_pos hN17).trans (if_pos h27)))))) hQ)
    · refine T_iconst (-1) (am_dec tX11_gauge_0 16 rfl) rfl ⟨by decide, by decide⟩ ?_
      exact T_ireturn (am_dec tX11_gauge_0 17 rfl) rfl (am_tr (fun (x9 : Int × Int × am_F × am_F × am_F) => Q (am_oc (x9.1) (x9.2.1)) (hfW w hb sp rb rs hb po ro x9.2.2.1 hh ss uu vv pp kk rr tt gg aa x9.2.2.2.1 bd x9.2.2.2.2 im)) (y := (0, (-1), ee, dd, ga)) (show (c_gauge ee hh dd ga x y st yd) = (0, (-1), ee, dd, ga) from (by have s9 := hz24.symm; subst s9; exact ((if_pos hN3).trans ((if_pos hN8).trans ((if_pos hN17).trans (if_neg h27)))))) hQ)
  exact key _ ⟨rfl, rfl⟩
def c_bid (ee : am_F) (hh : am_F) (bd : am_F) (l : Int) (yd : Int) (pr : Int) : Int × Int × am_F × am_F := (if n_row (hh 0 7) l = 0 then (if n_range yd 1 999 = 0 then (if n_range pr 1 99 = 0 then (let z33 : Int := (if bd 0 0 ≤ bd 0 2 then 1 else 0); (if z33 = 0 then (let bd49 : am_F := c_add bd l yd pr 0; (0, (bd49 0 2), ee, bd49)) else (0, (-1), ee, bd))) else ((n_range pr 1 99), 0, n_ref ee (n_range pr 1 99), bd)) else ((n_range yd 1 999), 0, n_ref ee (n_range yd 1 999), bd)) else ((n_row (hh 0 7) l), 0, n_ref ee (n_row (hh 0 7) l), bd))
theorem mc_bid {S : am_S} {d u : Nat} {w : AH} {hb sp rb rs : Nat} {po ro : AV} (hl : 109 ≤ w.length) (hp : hb = 1 ∧ sp = 21 ∨ hb = 21 ∧ sp = 1) (hr : rb = 41 ∧ rs = 46 ∨ rb = 46 ∧ rs = 41) {ee : am_F} {hh : am_F} {ss : am_F} {uu : am_F} {vv : am_F} {pp : am_F} {kk : am_F} {rr : am_F} {tt : am_F} {gg : am_F} {aa : am_F} {dd : am_F} {bd : am_F} {ga : am_F} {im : am_F} (l : Int) (yd : Int) (pr : Int) (hI : HbI hh) (hBd : BdI bd) (hu : 1 ≤ u) (hd : 7 ≤ d) : am_Out S zX11_bid d u [aR 0, aI l, aI yd, aI pr] (hfW w hb sp rb rs hb po ro ee hh ss uu vv pp kk rr tt gg aa dd bd ga im) (am_oc ((c_bid ee hh bd l yd pr).1) ((c_bid ee hh bd l yd pr).2.1)) (hfW w hb sp rb rs hb po ro ((c_bid ee hh bd l yd pr).2.2.1) hh ss uu vv pp kk rr tt gg aa dd ((c_bid ee hh bd l yd pr).2.2.2) ga im) := by
  have key : ∀ Q : AO → AH → Prop, Q (am_oc ((c_bid ee hh bd l yd pr).1) ((c_bid ee hh bd l yd pr).2.1)) (hfW w hb sp rb rs hb po ro ((c_bid ee hh bd l yd pr).2.2.1) hh ss uu vv pp kk rr tt gg aa dd ((c_bid ee hh bd l yd pr).2.2.2) ga im) → am_M S zX11_bid d u [aR 0, aI l, aI yd, aI pr] (hfW w hb sp rb rs hb po ro ee hh ss uu vv pp kk rr tt gg aa dd bd ga im) Q := by
    intro Q hQ
    refine am_body rfl (by decide +kernel) rfl (am_cats_cons rfl ( am_cats_cons rfl ( am_cats_cons rfl ( am_cats_cons rfl (am_cats_nil))))) (Nat.le_of_ble_eq_true rfl) (?_ : am_T _ _ _ _ _ 0 [some (aR 0), some (aI l), some (aI yd), some (aI pr)] [] (hfW w hb sp rb rs hb po ro ee hh ss uu vv pp kk rr tt gg aa dd bd ga im))
    obtain ⟨vh1, vh2, vh3, vh4, vh5, vh6, vh7, vh8, vh9, vh10, vh11, vh12, vh13, vh14, vh15, vh16, vh17, vh18, vh19, vh20, vh21, vh22⟩ := (HbI_A hI).1
    have hBd9 := hBd
    obtain ⟨vb0, ⟨vb1, vb2⟩, vb3⟩ := hBd9
    refine T_aload_n (am_dec tX11_bid_0 0 rfl) rfl ?_
    refine T_aload_n (am_dec tX11_bid_0 1 rfl) rfl ?_
    refine T_getfield 10 0 (am_dec tX11_bid_0 2 rfl) flX11_10_10 (show (hfW w hb sp rb rs hb po ro ee hh ss uu vv pp kk rr tt gg aa dd bd ga im)[0]? = some (cO 10 [aR hb, aR sp, aR rb, aR rs, aR 52, aR 53, aR 51, aI (ee 0 7), aI (ee 0 8), aR 54, aR 64, aR 74, aR 77, aR 83, aR 84, aR 86, aR 88, aI (ee 0 17), aR 107, aR 108]) from (hfW_c hl 0 (by decide))) rfl ?_
    refine T_getfield 3 7 (am_dec tX11_bid_0 3 rfl) flX11_149_3 (show (hfW w hb sp rb rs hb po ro ee hh ss uu vv pp kk rr tt gg aa dd bd ga im)[hb]? = some (cO 3 [aI (hh 0 0), aI (hh 0 1), aI (hh 0 2), aR (hb + 1), aR (hb + 3), aR (hb + 5), aR (hb + 7), aR (hb + 9), aR (hb + 11), aR (hb + 13), aR (hb + 15), aR (hb + 17), aR (hb + 18), aR (hb + 19)]) from ((hf_H hl hp) 0 (by decide))) rfl ?_
    refine T_iload_n (am_dec tX11_bid_0 4 rfl) rfl ?_
    refine T_callVo (as := [aR (hb + 9), aI l]) (code := n_row (hh 0 7) l) rfl (am_dec tX11_bid_0 5 rfl) lkX11_190 (show (hfW w hb sp rb rs hb po ro ee hh ss uu vv pp kk rr tt gg aa dd bd ga im)[0]? = some (cO 10 [aR hb, aR sp, aR rb, aR rs, aR 52, aR 53, aR 51, aI (ee 0 7), aI (ee 0 8), aR 54, aR 64, aR 74, aR 77, aR 83, aR 84, aR 86, aR 88, aI (ee 0 17), aR 107, aR 108]) from (hfW_c hl 0 (by decide))) rfl rfl (Nat.le_of_ble_eq_true rfl) (by omega) (by omega) (fun hN9 => (mx_row0 (d := d - 1) hl hp hr l (show (hfW w hb sp rb rs hb po ro ee hh ss uu vv pp kk rr tt gg aa dd bd ga im)[hb + 9]? = some (cO 9 [aI 6, aR (hb + 10), aI (hh 0 7)]) from ((hf_H hl hp) 9 (by decide))) (show (hfW w hb sp rb rs hb po ro ee hh ss uu vv pp kk rr tt gg aa dd bd ga im)[hb + 10]? = some (cP 0 48 (hh 5)) from ((hf_H hl hp) 10 (by decide))) (by omega) hN9 (by omega))) (fun hN9 => (x_rowX (d := d - 1) hl hp hr l (show (hfW w hb sp rb rs hb po ro ee hh ss uu vv pp kk rr tt gg aa dd bd ga im)[hb + 9]? = some (cO 9 [aI 6, aR (hb + 10), aI (hh 0 7)]) from ((hf_H hl hp) 9 (by decide))) (show (hfW w hb sp rb rs hb po ro ee hh ss uu vv pp kk rr tt gg aa dd bd ga im)[hb + 10]? = some (cP 0 48 (hh 5)) from ((hf_H hl hp) 10 (by decide))) (by omega) hN9 (by omega) (by omega))) (fun hN9 => ?_) (fun hN9 => ?_)
    · exact (am_tr (fun (x9 : Int × Int × am_F × am_F) => Q (am_oc (x9.1) (x9.2.1)) (hfW w hb sp rb rs hb po ro x9.2.2.1 hh ss uu vv pp kk rr tt gg aa dd x9.2.2.2 ga im)) (y := ((n_row (hh 0 7) l), 0, n_ref ee (n_row (hh 0 7) l), bd)) (show (c_bid ee hh bd l yd pr) = ((n_row (hh 0 7) l), 0, n_ref ee (n_row (hh 0 7) l), bd) from (if_neg hN9)) hQ)
    have hk9 := n_row_0 hN9
    refine T_aload_n (am_dec tX11_bid_0 6 rfl) rfl ?_
    refine T_iload_n (am_dec tX11_bid_0 7 rfl) rfl ?_
    refine T_iconst 1 (am_dec tX11_bid_0 8 rfl) rfl ⟨by decide, by decide⟩ ?_
    refine T_sipush 999 (am_dec tX11_bid_0 9 rfl) rfl ⟨by decide, by decide⟩ ?_
    refine T_callVo (as := [aI yd, aI 1, aI 999]) (code := n_range yd 1 999) rfl (am_dec tX11_bid_0 10 rfl) lkX11_117 (show (hfW w hb sp rb rs hb po ro ee hh ss uu vv pp kk rr tt gg aa dd bd ga im)[0]? = some (cO 10 [aR hb, aR sp, aR rb, aR rs, aR 52, aR 53, aR 51, aI (ee 0 7), aI (ee 0 8), aR 54, aR 64, aR 74, aR 77, aR 83, aR 84, aR 86, aR 88, aI (ee 0 17), aR 107, aR 108]) from (hfW_c hl 0 (by decide))) rfl rfl (Nat.le_of_ble_eq_true rfl) (by omega) (by omega) (fun hN18 => (mx_range0 (d := d - 1) hl hp hr yd 1 999  hN18 (by omega))) (fun hN18 => (x_rangeX (d := d - 1) hl hp hr yd 1 999  hN18 (by omega) (by omega))) (fun hN18 => ?_) (fun hN18 => ?_)
    · exact (am_tr (fun (x9 : Int × Int × am_F × am_F) => Q (am_oc (x9.1) (x9.2.1)) (hfW w hb sp rb rs hb po ro x9.2.2.1 hh ss uu vv pp kk rr tt gg aa dd x9.2.2.2 ga im)) (y := ((n_range yd 1 999), 0, n_ref ee (n_range yd 1 999), bd)) (show (c_bid ee hh bd l yd pr) = ((n_range yd 1 999), 0, n_ref ee (n_range yd 1 999), bd) from ((if_pos hN9).trans (if_neg hN18))) hQ)
    have hk18 := n_range_0 hN18
    refine T_aload_n (am_dec tX11_bid_0 11 rfl) rfl ?_
    refine T_iload_n (am_dec tX11_bid_0 12 rfl) rfl ?_
    refine T_iconst 1 (am_dec tX11_bid_0 13 rfl) rfl ⟨by decide, by decide⟩ ?_
    refine T_bipush 99 (am_dec tX11_bid_0 14 rfl) rfl ⟨by decide, by decide⟩ ?_
    refine T_callVo (as := [aI pr, aI 1, aI 99]) (code := n_range pr 1 99) rfl (am_dec tX11_bid_0 15 rfl) lkX11_117 (show (hfW w hb sp rb rs hb po ro ee hh ss uu vv pp kk rr tt gg aa dd bd ga im)[0]? = some (cO 10 [aR hb, aR sp, aR rb, aR rs, aR 52, aR 53, aR 51, aI (ee 0 7), aI (ee 0 8), aR 54, aR 64, aR 74, aR 77, aR 83, aR 84, aR 86, aR 88, aI (ee 0 17), aR 107, aR 108]) from (hfW_c hl 0 (by decide))) rfl rfl (Nat.le_of_ble_eq_true rfl) (by omega) (by omega) (fun hN26 => (mx_range0 (d := d - 1) hl hp hr pr 1 99  hN26 (by omega))) (fun hN26 => (x_rangeX (d := d - 1) hl hp hr pr 1 99  hN26 (by omega) (by omega))) (fun hN26 => ?_) (fun hN26 => ?_)
    · exact (am_tr (fun (x9 : Int × Int × am_F × am_F) => Q (am_oc (x9.1) (x9.2.1)) (hfW w hb sp rb rs hb po ro x9.2.2.1 hh ss uu vv pp kk rr tt gg aa dd x9.2.2.2 ga im)) (y := ((n_range pr 1 99), 0, n_ref ee (n_range pr 1 99), bd)) (show (c_bid ee hh bd l yd pr) = ((n_range pr 1 99), 0, n_ref ee (n_range pr 1 99), bd) from ((if_pos hN9).trans ((if_pos hN18).trans (if_neg hN26)))) hQ)
    have hk26 := n_range_0 hN26
    refine T_aload_n (am_dec tX11_bid_0 16 rfl) rfl ?_
    refine T_getfield 10 14 (am_dec tX11_bid_0 17 rfl) flX11_91_10 (show (hfW w hb sp rb rs hb po ro ee hh ss uu vv pp kk rr tt gg aa dd bd ga im)[0]? = some (cO 10 [aR hb, aR sp, aR rb, aR rs, aR 52, aR 53, aR 51, aI (ee 0 7), aI (ee 0 8), aR 54, aR 64, aR 74, aR 77, aR 83, aR 84, aR 86, aR 88, aI (ee 0 17), aR 107, aR 108]) from (hfW_c hl 0 (by decide))) rfl ?_
    refine T_callV (as := []) rfl (am_dec tX11_bid_0 18 rfl) lkX11_312 (show (hfW w hb sp rb rs hb po ro ee hh ss uu vv pp kk rr tt gg aa dd bd ga im)[84]? = some (cO 9 [aI (bd 0 0), aR 85, aI (bd 0 2)]) from (hfW_c hl 84 (by decide))) rfl rfl (Nat.le_of_ble_eq_true rfl) (by omega) (m_full (d := d - 1) (show (hfW w hb sp rb rs hb po ro ee hh ss uu vv pp kk rr tt gg aa dd bd ga im)[84]? = some (cO 9 [aI (bd 0 0), aR 85, aI (bd 0 2)]) from (hfW_c hl 84 (by decide))) (show (hfW w hb sp rb rs hb po ro ee hh ss uu vv pp kk rr tt gg aa dd bd ga im)[85]? = some (cP 0 48 (bd 1)) from (hfW_c hl 85 (by decide))) (by omega)) (fun _ => ?_)
    refine T_nm (fun z33 hz33 => ?_)
    have hb33 : z33 = 0 ∧ bd 0 2 < bd 0 0 ∨ z33 = 1 ∧ bd 0 0 ≤ bd 0 2 := by rw [hz33]; split <;> omega
    refine T_if_eq 41 (am_dec tX11_bid_0 19 rfl) rfl (fun h36 => ?_) (fun h36 => ?_)
    · refine T_aload_n (am_dec tX11_bid_0 22 rfl) rfl ?_
      refine T_getfield 10 14 (am_dec tX11_bid_0 23 rfl) flX11_91_10 (show (hfW w hb sp rb rs hb po ro ee hh ss uu vv pp kk rr tt gg aa dd bd ga im)[0]? = some (cO 10 [aR hb, aR sp, aR rb, aR rs, aR 52, aR 53, aR 51, aI (ee 0 7), aI (ee 0 8), aR 54, aR 64, aR 74, aR 77, aR 83, aR 84, aR 86, aR 88, aI (ee 0 17), aR 107, aR 108]) from (hfW_c hl 0 (by decide))) rfl ?_
      refine T_iload_n (am_dec tX11_bid_0 24 rfl) rfl ?_
      refine T_iload_n (am_dec tX11_bid_0 25 rfl) rfl ?_
      refine T_iload_n (am_dec tX11_bid_0 26 rfl) rfl ?_
      refine T_iconst 0 (am_dec tX11_bid_0 27 rfl) rfl ⟨by decide, by decide⟩ ?_
      refine T_callV (as := [aI l, aI yd, aI pr, aI 0]) rfl (am_dec tX11_bid_0 28 rfl) lkX11_315 (show (hfW w hb sp rb rs hb po ro ee hh ss uu vv pp kk rr tt gg aa dd bd ga im)[84]? = some (cO 9 [aI (bd 0 0), aR 85, aI (bd 0 2)]) from (hfW_c hl 84 (by decide))) rfl rfl (Nat.le_of_ble_eq_true rfl) (by omega) (am_OutE (mc_add (d := d - 1) (w := hfW w hb sp rb rs hb po ro ee hh ss uu vv pp kk rr tt gg aa dd bd ga im) (hf_le hl (by omega)) l yd pr 0 (by omega) (by omega)) hf_uB hf_uB) (fun _ => ?_)
      refine T_nmH (W := fun x9 => hfW w hb sp rb rs hb po ro ee hh ss uu vv pp kk rr tt gg aa dd x9 ga im) (v := c_add bd l yd pr 0) (fun bd49 hbd49 => ?_)
      refine T_aload_n (am_dec tX11_bid_0 29 rfl) rfl ?_
      refine T_getfield 10 14 (am_dec tX11_bid_0 30 rfl) flX11_91_10 (show (hfW w hb sp rb rs hb po ro ee hh ss uu vv pp kk rr tt gg aa dd bd49 ga im)[0]? = some (cO 10 [aR hb, aR sp, aR rb, aR rs, aR 52, aR 53, aR 51, aI (ee 0 7), aI (ee 0 8), aR 54, aR 64, aR 74, aR 77, aR 83, aR 84, aR 86, aR 88, aI (ee 0 17), aR 107, aR 108]) from (hfW_c hl 0 (by decide))) rfl ?_
      refine T_getfield 9 2 (am_dec tX11_bid_0 31 rfl) flX11_140_9 (show (hfW w hb sp rb rs hb po ro ee hh ss uu vv pp kk rr tt gg aa dd bd49 ga im)[84]? = some (cO 9 [aI (bd49 0 0), aR 85, aI (bd49 0 2)]) from (hfW_c hl 84 (by decide))) rfl ?_
      exact T_ireturn (am_dec tX11_bid_0 32 rfl) rfl (am_tr (fun (x9 : Int × Int × am_F × am_F) => Q (am_oc (x9.1) (x9.2.1)) (hfW w hb sp rb rs hb po ro x9.2.2.1 hh ss uu vv pp kk rr tt gg aa dd x9.2.2.2 ga im)) (y := (0, (bd49 0 2), ee, bd49)) (show (c_bid ee hh bd l yd pr) = (0, (bd49 0 2), ee, bd49) from (by have s9 := hz33.symm; subst s9; have s9 := hbd49.symm; subst s9; exact ((if_pos hN9).trans ((if_pos hN18).trans ((if_pos hN26).trans (if_pos h36)))))) hQ)
    · refine T_iconst (-1) (am_dec tX11_bid_0 20 rfl) rfl ⟨by decide, by decide⟩ ?_
      exact T_ireturn (am_dec tX11_bid_0 21 rfl) rfl (am_tr (fun (x9 : Int × Int × am_F × am_F) => Q (am_oc (x9.1) (x9.2.1)) (hfW w hb sp rb rs hb po ro x9.2.2.1 hh ss uu vv pp kk rr tt gg aa dd x9.2.2.2 ga im)) (y := (0, (-1), ee, bd)) (show (c_bid ee hh bd l yd pr) = (0, (-1), ee, bd) from (by have s9 := hz33.symm; subst s9; exact ((if_pos hN9).trans ((if_pos hN18).trans ((if_pos hN26).trans (if_neg h36)))))) hQ)
  exact key _ ⟨rfl, rfl⟩
def c_clear (dd : am_F) (bd : am_F) (ga : am_F) : Int × am_F × am_F × am_F := (let v1_15 : Int := (bd 0 2) + (ga 0 2); (v1_15, (am_put dd 0 0 0), (am_put bd 0 2 0), (am_put ga 0 2 0)))
theorem mc_clear {S : am_S} {d u : Nat} {w : AH} {hb sp rb rs : Nat} {po ro : AV} (hl : 109 ≤ w.length) (hp : hb = 1 ∧ sp = 21 ∨ hb = 21 ∧ sp = 1) (hr : rb = 41 ∧ rs = 46 ∨ rb = 46 ∧ rs = 41) {ee : am_F} {hh : am_F} {ss : am_F} {uu : am_F} {vv : am_F} {pp : am_F} {kk : am_F} {rr : am_F} {tt : am_F} {gg : am_F} {aa : am_F} {dd : am_F} {bd : am_F} {ga : am_F} {im : am_F}  (hBd : BdI bd) (hG : GaI ga)  (hd : 1 ≤ d) : am_Out S zX11_clear d u [aR 0] (hfW w hb sp rb rs hb po ro ee hh ss uu vv pp kk rr tt gg aa dd bd ga im) (.inl (some (aI ((c_clear dd bd ga).1)))) (hfW w hb sp rb rs hb po ro ee hh ss uu vv pp kk rr tt gg aa ((c_clear dd bd ga).2.1) ((c_clear dd bd ga).2.2.1) ((c_clear dd bd ga).2.2.2) im) := by
  have key : ∀ Q : AO → AH → Prop, Q (.inl (some (aI ((c_clear dd bd ga).1)))) (hfW w hb sp rb rs hb po ro ee hh ss uu vv pp kk rr tt gg aa ((c_clear dd bd ga).2.1) ((c_clear dd bd ga).2.2.1) ((c_clear dd bd ga).2.2.2) im) → am_M S zX11_clear d u [aR 0] (hfW w hb sp rb rs hb po ro ee hh ss uu vv pp kk rr tt gg aa dd bd ga im) Q := by
    intro Q hQ
    refine am_body rfl (by decide +kernel) rfl (am_cats_cons rfl (am_cats_nil)) (Nat.le_of_ble_eq_true rfl) (?_ : am_T _ _ _ _ _ 0 [some (aR 0), none] [] (hfW w hb sp rb rs hb po ro ee hh ss uu vv pp kk rr tt gg aa dd bd ga im))
    have hBd9 := hBd
    obtain ⟨vb0, ⟨vb1, vb2⟩, vb3⟩ := hBd9
    have hG9 := hG
    obtain ⟨vg0, ⟨vg1, vg2⟩, vg3⟩ := hG9
    refine T_aload_n (am_dec tX11_clear_0 0 rfl) rfl ?_
    refine T_getfield 10 14 (am_dec tX11_clear_0 1 rfl) flX11_91_10 (show (hfW w hb sp rb rs hb po ro ee hh ss uu vv pp kk rr tt gg aa dd bd ga im)[0]? = some (cO 10 [aR hb, aR sp, aR rb, aR rs, aR 52, aR 53, aR 51, aI (ee 0 7), aI (ee 0 8), aR 54, aR 64, aR 74, aR 77, aR 83, aR 84, aR 86, aR 88, aI (ee 0 17), aR 107, aR 108]) from (hfW_c hl 0 (by decide))) rfl ?_
    refine T_getfield 9 2 (am_dec tX11_clear_0 2 rfl) flX11_140_9 (show (hfW w hb sp rb rs hb po ro ee hh ss uu vv pp kk rr tt gg aa dd bd ga im)[84]? = some (cO 9 [aI (bd 0 0), aR 85, aI (bd 0 2)]) from (hfW_c hl 84 (by decide))) rfl ?_
    refine T_aload_n (am_dec tX11_clear_0 3 rfl) rfl ?_
    refine T_getfield 10 15 (am_dec tX11_clear_0 4 rfl) flX11_95_10 (show (hfW w hb sp rb rs hb po ro ee hh ss uu vv pp kk rr tt gg aa dd bd ga im)[0]? = some (cO 10 [aR hb, aR sp, aR rb, aR rs, aR 52, aR 53, aR 51, aI (ee 0 7), aI (ee 0 8), aR 54, aR 64, aR 74, aR 77, aR 83, aR 84, aR 86, aR 88, aI (ee 0 17), aR 107, aR 108]) from (hfW_c hl 0 (by decide))) rfl ?_
    refine T_getfield 9 2 (am_dec tX11_clear_0 5 rfl) flX11_140_9 (show (hfW w hb sp rb rs hb po ro ee hh ss uu vv pp kk rr tt gg aa dd bd ga im)[86]? = some (cO 9 [aI (ga 0 0), aR 87, aI (ga 0 2)]) from (hfW_c hl 86 (by decide))) rfl ?_
    refine T_iadd ((bd 0 2) + (ga 0 2)) (am_dec tX11_clear_0 6 rfl) rfl ⟨by omega, by omega⟩ ?_
    refine T_nm (fun v1_15 hv1_15 => ?_)
    refine T_istore_n (ls' := [some (aR 0), some (aI v1_15)]) (am_dec tX11_clear_0 7 rfl) (by decide) rfl ?_
    refine T_aload_n (am_dec tX11_clear_0 8 rfl) rfl ?_
    refine T_getfield 10 14 (am_dec tX11_clear_0 9 rfl) flX11_91_10 (show (hfW w hb sp rb rs hb po ro ee hh ss uu vv pp kk rr tt gg aa dd bd ga im)[0]? = some (cO 10 [aR hb, aR sp, aR rb, aR rs, aR 52, aR 53, aR 51, aI (ee 0 7), aI (ee 0 8), aR 54, aR 64, aR 74, aR 77, aR 83, aR 84, aR 86, aR 88, aI (ee 0 17), aR 107, aR 108]) from (hfW_c hl 0 (by decide))) rfl ?_
    refine T_iconst 0 (am_dec tX11_clear_0 10 rfl) rfl ⟨by decide, by decide⟩ ?_
    refine T_putfield (fs' := [aI (bd 0 0), aR 85, aI 0]) 9 2 (am_dec tX11_clear_0 11 rfl) flX11_140_9 rfl rfl rfl trivial (show (hfW w hb sp rb rs hb po ro ee hh ss uu vv pp kk rr tt gg aa dd bd ga im)[84]? = some (cO 9 [aI (bd 0 0), aR 85, aI (bd 0 2)]) from (hfW_c hl 84 (by decide))) (Nat.le_of_ble_eq_true rfl) rfl ?_
    refine am_wE (w2 := hfW w hb sp rb rs hb po ro ee hh ss uu vv pp kk rr tt gg aa dd (am_put bd 0 2 0) ga im) (am_via hf_uB (tbW_f2 (w := hfW w hb sp rb rs hb po ro ee hh ss uu vv pp kk rr tt gg aa dd bd ga im)) hf_uB) ?_
    refine T_aload_n (am_dec tX11_clear_0 12 rfl) rfl ?_
    refine T_getfield 10 15 (am_dec tX11_clear_0 13 rfl) flX11_95_10 (show (hfW w hb sp rb rs hb po ro ee hh ss uu vv pp kk rr tt gg aa dd (am_put bd 0 2 0) ga im)[0]? = some (cO 10 [aR hb, aR sp, aR rb, aR rs, aR 52, aR 53, aR 51, aI (ee 0 7), aI (ee 0 8), aR 54, aR 64, aR 74, aR 77, aR 83, aR 84, aR 86, aR 88, aI (ee 0 17), aR 107, aR 108]) from (hfW_c hl 0 (by decide))) rfl ?_
    refine T_iconst 0 (am_dec tX11_clear_0 14 rfl) rfl ⟨by decide, by decide⟩ ?_
    refine T_putfield (fs' := [aI (ga 0 0), aR 87, aI 0]) 9 2 (am_dec tX11_clear_0 15 rfl) flX11_140_9 rfl rfl rfl trivial (show (hfW w hb sp rb rs hb po ro ee hh ss uu vv pp kk rr tt gg aa dd (am_put bd 0 2 0) ga im)[86]? = some (cO 9 [aI (ga 0 0), aR 87, aI (ga 0 2)]) from (hfW_c hl 86 (by decide))) (Nat.le_of_ble_eq_true rfl) rfl ?_
    refine am_wE (w2 := hfW w hb sp rb rs hb po ro ee hh ss uu vv pp kk rr tt gg aa dd (am_put bd 0 2 0) (am_put ga 0 2 0) im) (am_via hf_uG (tbW_f2 (w := hfW w hb sp rb rs hb po ro ee hh ss uu vv pp kk rr tt gg aa dd (am_put bd 0 2 0) ga im)) hf_uG) ?_
    refine T_aload_n (am_dec tX11_clear_0 16 rfl) rfl ?_
    refine T_getfield 10 13 (am_dec tX11_clear_0 17 rfl) flX11_82_10 (show (hfW w hb sp rb rs hb po ro ee hh ss uu vv pp kk rr tt gg aa dd (am_put bd 0 2 0) (am_put ga 0 2 0) im)[0]? = some (cO 10 [aR hb, aR sp, aR rb, aR rs, aR 52, aR 53, aR 51, aI (ee 0 7), aI (ee 0 8), aR 54, aR 64, aR 74, aR 77, aR 83, aR 84, aR 86, aR 88, aI (ee 0 17), aR 107, aR 108]) from (hfW_c hl 0 (by decide))) rfl ?_
    refine T_iconst 0 (am_dec tX11_clear_0 18 rfl) rfl ⟨by decide, by decide⟩ ?_
    refine T_putfield (fs' := [aI 0, aI (dd 0 1), aI (dd 0 2), aI (dd 0 3), aI (dd 0 4), aI (dd 0 5), aI (dd 0 6)]) 1 0 (am_dec tX11_clear_0 19 rfl) flX11_392_1 rfl rfl rfl (Or.inl rfl) (show (hfW w hb sp rb rs hb po ro ee hh ss uu vv pp kk rr tt gg aa dd (am_put bd 0 2 0) (am_put ga 0 2 0) im)[83]? = some (cO 1 [aI (dd 0 0), aI (dd 0 1), aI (dd 0 2), aI (dd 0 3), aI (dd 0 4), aI (dd 0 5), aI (dd 0 6)]) from (hfW_c hl 83 (by decide))) (Nat.le_of_ble_eq_true rfl) rfl ?_
    refine am_wE (w2 := hfW w hb sp rb rs hb po ro ee hh ss uu vv pp kk rr tt gg aa (am_put dd 0 0 0) (am_put bd 0 2 0) (am_put ga 0 2 0) im) (hf_dd0 hl) ?_
    refine T_iload_n (am_dec tX11_clear_0 20 rfl) rfl ?_
    exact T_ireturn (am_dec tX11_clear_0 21 rfl) rfl (am_tr (fun (x9 : Int × am_F × am_F × am_F) => Q (.inl (some (aI (x9.1)))) (hfW w hb sp rb rs hb po ro ee hh ss uu vv pp kk rr tt gg aa x9.2.1 x9.2.2.1 x9.2.2.2 im)) (y := (v1_15, (am_put dd 0 0 0), (am_put bd 0 2 0), (am_put ga 0 2 0))) (show (c_clear dd bd ga) = (v1_15, (am_put dd 0 0 0), (am_put bd 0 2 0), (am_put ga 0 2 0)) from (by have s9 := hv1_15.symm; subst s9; exact rfl)) hQ)
  exact key _ ⟨rfl, rfl⟩
def w_c_tapeNumber_3 (nm : Int) (x9 : Int × am_F) : (Int × am_F) ⊕ (Int × am_F) := let sh : Int := x9.1; let ee : am_F := x9.2; (if sh < 0 then .inr (sh, ee) else (let ee14 : am_F := (if 600 ≤ ee 0 7 then ee else (am_put (am_put ee 1 ((ee 0 7).toNat) (am_iand (am_iushr nm sh) 255)) 0 7 ((ee 0 7) + 1))); .inl ((sh + (-8)), ee14)))
theorem L_c_tapeNumber_3 {S : am_S} {d u : Nat} {Q : AO → AH → Prop} {w : AH} {hb sp rb rs : Nat} {po ro : AV} (hl : 109 ≤ w.length) (hp : hb = 1 ∧ sp = 21 ∨ hb = 21 ∧ sp = 1) (hr : rb = 41 ∧ rs = 46 ∨ rb = 46 ∧ rs = 41) (hh : am_F) (ss : am_F) (uu : am_F) (vv : am_F) (pp : am_F) (kk : am_F) (rr : am_F) (tt : am_F) (gg : am_F) (aa : am_F) (dd : am_F) (bd : am_F) (ga : am_F) (im : am_F) (nm : Int)  (hd : 1 ≤ d) : ∀ (n : Nat) (sh : Int) (ee : am_F), sh + 8 < n → (0 ≤ ee 0 7 ∧ ee 0 7 ≤ 600) ∧ -8 ≤ sh ∧ sh ≤ 24 → (∀ (sh' : Int) (ee' : am_F), sh' = (am_wh (w_c_tapeNumber_3 nm) n (sh, ee)).1 → ee' = (am_wh (w_c_tapeNumber_3 nm) n (sh, ee)).2 → (0 ≤ ee' 0 7 ∧ ee' 0 7 ≤ 600) ∧ -8 ≤ sh' ∧ sh' ≤ 24 → am_T S zX11_tapeNumber d u Q 49 [none, none, none] [] (hfW w hb sp rb rs hb po ro ee' hh ss uu vv pp kk rr tt gg aa dd bd ga im)) → am_T S zX11_tapeNumber d u Q 3 [some (aR 0), some (aI nm), some (aI sh)] [] (hfW w hb sp rb rs hb po ro ee hh ss uu vv pp kk rr tt gg aa dd bd ga im) := by
  intro n
  induction n with
  | zero =>
    intro sh ee hm9 hinv k9
    obtain ⟨hE, hs9⟩ := hinv
    exfalso; omega
  | succ n ih =>
    intro sh ee hm9 hinv k9
    obtain ⟨hE, hs9⟩ := hinv
    refine T_iload_n (am_dec tX11_tapeNumber_0 2 rfl) rfl ?_
    refine T_if_lt 49 (am_dec tX11_tapeNumber_0 3 rfl) rfl (fun h4 => ?_) (fun h4 => ?_)
    · refine T_weak (ls' := [none, none, none]) (am_sub_n (am_sub_n (am_sub_n am_sub_nil))) ?_
      have e9 : (w_c_tapeNumber_3 nm) (sh, ee) = .inr (sh, ee) := (if_pos h4)
      simp only [am_wh_r e9] at k9
      exact k9 _ _ rfl rfl ⟨by first | exact hE9 | omega, by omega⟩
    · refine T_aload_n (am_dec tX11_tapeNumber_0 4 rfl) rfl ?_
      refine T_getfield 10 7 (am_dec tX11_tapeNumber_0 5 rfl) flX11_111_10 (show (hfW w hb sp rb rs hb po ro ee hh ss uu vv pp kk rr tt gg aa dd bd ga im)[0]? = some (cO 10 [aR hb, aR sp, aR rb, aR rs, aR 52, aR 53, aR 51, aI (ee 0 7), aI (ee 0 8), aR 54, aR 64, aR 74, aR 77, aR 83, aR 84, aR 86, aR 88, aI (ee 0 17), aR 107, aR 108]) from (hfW_c hl 0 (by decide))) rfl ?_
      refine T_sipush 600 (am_dec tX11_tapeNumber_0 6 rfl) rfl ⟨by decide, by decide⟩ ?_
      have K14 : ∀ (ee14 : am_F), ee14 = (if 600 ≤ ee 0 7 then ee else (am_put (am_put ee 1 ((ee 0 7).toNat) (am_iand (am_iushr nm sh) 255)) 0 7 ((ee 0 7) + 1))) →  am_T S zX11_tapeNumber d u Q 43 [some (aR 0), some (aI nm), some (aI sh)] [] (hfW w hb sp rb rs hb po ro ee14 hh ss uu vv pp kk rr tt gg aa dd bd ga im) := by
        intro ee14 hee14 
        have hE9 : 0 ≤ ee14 0 7 ∧ ee14 0 7 ≤ 600 := by
          rw [hee14]
          split
          · exact hE
          · exact (show 0 ≤ ee 0 7 + 1 ∧ ee 0 7 + 1 ≤ 600 from by omega)
        refine T_iinc (ls' := [some (aR 0), some (aI nm), some (aI (sh + (-8)))]) (sh + (-8)) (am_dec tX11_tapeNumber_0 24 rfl) rfl rfl ⟨by omega, by omega⟩ (by decide) rfl ?_
        refine T_goto 3 (am_dec tX11_tapeNumber_0 25 rfl) rfl ?_
        have e9 : (w_c_tapeNumber_3 nm) (sh, ee) = .inl (sh + (-8), ee14) := (by have s9 := hee14.symm; subst s9; exact (if_neg h4))
        simp only [am_wh_l e9] at k9
        exact ih (sh + (-8)) ee14 (by omega) ⟨by first | exact hE9 | omega, by omega⟩ k9
      refine T_icmp_ge 43 (am_dec tX11_tapeNumber_0 7 rfl) rfl (fun h14 => ?_) (fun h14 => ?_)
      · exact K14 _ (if_pos h14).symm 
      · refine T_aload_n (am_dec tX11_tapeNumber_0 8 rfl) rfl ?_
        refine T_getfield 10 6 (am_dec tX11_tapeNumber_0 9 rfl) flX11_29_10 (show (hfW w hb sp rb rs hb po ro ee hh ss uu vv pp kk rr tt gg aa dd bd ga im)[0]? = some (cO 10 [aR hb, aR sp, aR rb, aR rs, aR 52, aR 53, aR 51, aI (ee 0 7), aI (ee 0 8), aR 54, aR 64, aR 74, aR 77, aR 83, aR 84, aR 86, aR 88, aI (ee 0 17), aR 107, aR 108]) from (hfW_c hl 0 (by decide))) rfl ?_
        refine T_aload_n (am_dec tX11_tapeNumber_0 10 rfl) rfl ?_
        refine T_getfield 10 7 (am_dec tX11_tapeNumber_0 11 rfl) flX11_111_10 (show (hfW w hb sp rb rs hb po ro ee hh ss uu vv pp kk rr tt gg aa dd bd ga im)[0]? = some (cO 10 [aR hb, aR sp, aR rb, aR rs, aR 52, aR 53, aR 51, aI (ee 0 7), aI (ee 0 8), aR 54, aR 64, aR 74, aR 77, aR 83, aR 84, aR 86, aR 88, aI (ee 0 17), aR 107, aR 108]) from (hfW_c hl 0 (by decide))) rfl ?_
        refine T_iload_n (am_dec tX11_tapeNumber_0 12 rfl) rfl ?_
        refine T_iload_n (am_dec tX11_tapeNumber_0 13 rfl) rfl ?_
        refine T_iushr (am_iushr nm sh) (am_dec tX11_tapeNumber_0 14 rfl) (am_w32e _).symm (am_w32r _) ?_
        refine T_sipush 255 (am_dec tX11_tapeNumber_0 15 rfl) rfl ⟨by decide, by decide⟩ ?_
        refine T_iand (am_iand (am_iushr nm sh) 255) (am_dec tX11_tapeNumber_0 16 rfl) (am_w32e _).symm (am_w32r _) ?_
        refine T_iastore (am_dec tX11_tapeNumber_0 17 rfl) (show (hfW w hb sp rb rs hb po ro ee hh ss uu vv pp kk rr tt gg aa dd bd ga im)[51]? = some (cP 0 600 (ee 1)) from (hfW_c hl 51 (by decide))) (by omega) (by omega) ?_
        refine am_wE (w2 := hfW w hb sp rb rs hb po ro (am_put ee 1 ((ee 0 7).toNat) (am_iand (am_iushr nm sh) 255)) hh ss uu vv pp kk rr tt gg aa dd bd ga im) (hf_ptp hl) ?_
        refine T_aload_n (am_dec tX11_tapeNumber_0 18 rfl) rfl ?_
        refine T_dup (am_dec tX11_tapeNumber_0 19 rfl) rfl ?_
        refine T_getfield 10 7 (am_dec tX11_tapeNumber_0 20 rfl) flX11_111_10 (show (hfW w hb sp rb rs hb po ro (am_put ee 1 ((ee 0 7).toNat) (am_iand (am_iushr nm sh) 255)) hh ss uu vv pp kk rr tt gg aa dd bd ga im)[0]? = some (cO 10 [aR hb, aR sp, aR rb, aR rs, aR 52, aR 53, aR 51, aI (ee 0 7), aI (ee 0 8), aR 54, aR 64, aR 74, aR 77, aR 83, aR 84, aR 86, aR 88, aI (ee 0 17), aR 107, aR 108]) from (hfW_c hl 0 (by decide))) rfl ?_
        refine T_iconst 1 (am_dec tX11_tapeNumber_0 21 rfl) rfl ⟨by decide, by decide⟩ ?_
        refine T_iadd ((ee 0 7) + 1) (am_dec tX11_tapeNumber_0 22 rfl) rfl ⟨by omega, by omega⟩ ?_
        refine T_putfield (fs' := [aR hb, aR sp, aR rb, aR rs, aR 52, aR 53, aR 51, aI ((ee 0 7) + 1), aI (ee 0 8), aR 54, aR 64, aR 74, aR 77, aR 83, aR 84, aR 86, aR 88, aI (ee 0 17), aR 107, aR 108]) 10 7 (am_dec tX11_tapeNumber_0 23 rfl) flX11_111_10 rfl rfl rfl trivial (show (hfW w hb sp rb rs hb po ro (am_put ee 1 ((ee 0 7).toNat) (am_iand (am_iushr nm sh) 255)) hh ss uu vv pp kk rr tt gg aa dd bd ga im)[0]? = some (cO 10 [aR hb, aR sp, aR rb, aR rs, aR 52, aR 53, aR 51, aI (ee 0 7), aI (ee 0 8), aR 54, aR 64, aR 74, aR 77, aR 83, aR 84, aR 86, aR 88, aI (ee 0 17), aR 107, aR 108]) from (hfW_c hl 0 (by decide))) (Nat.le_of_ble_eq_true rfl) rfl ?_
        refine am_wE (w2 := hfW w hb sp rb rs hb po ro (am_put (am_put ee 1 ((ee 0 7).toNat) (am_iand (am_iushr nm sh) 255)) 0 7 ((ee 0 7) + 1)) hh ss uu vv pp kk rr tt gg aa dd bd ga im) (hf_f7 hl) ?_
        exact K14 _ (if_neg h14).symm 
def c_tapeNumber (ee : am_F) (nm : Int) : am_F := (am_wh (w_c_tapeNumber_3 nm) 33 (24, ee)).2
theorem mc_tapeNumber {S : am_S} {d u : Nat} {w : AH} {hb sp rb rs : Nat} {po ro : AV} (hl : 109 ≤ w.length) (hp : hb = 1 ∧ sp = 21 ∨ hb = 21 ∧ sp = 1) (hr : rb = 41 ∧ rs = 46 ∨ rb = 46 ∧ rs = 41) {ee : am_F} {hh : am_F} {ss : am_F} {uu : am_F} {vv : am_F} {pp : am_F} {kk : am_F} {rr : am_F} {tt : am_F} {gg : am_F} {aa : am_F} {dd : am_F} {bd : am_F} {ga : am_F} {im : am_F} (nm : Int) (hE : 0 ≤ ee 0 7 ∧ ee 0 7 ≤ 600)  (hd : 1 ≤ d) : am_Out S zX11_tapeNumber d u [aR 0, aI nm] (hfW w hb sp rb rs hb po ro ee hh ss uu vv pp kk rr tt gg aa dd bd ga im) (.inl none) (hfW w hb sp rb rs hb po ro (c_tapeNumber ee nm) hh ss uu vv pp kk rr tt gg aa dd bd ga im) := by
  have key : ∀ Q : AO → AH → Prop, Q (.inl none) (hfW w hb sp rb rs hb po ro (c_tapeNumber ee nm) hh ss uu vv pp kk rr tt gg aa dd bd ga im) → am_M S zX11_tapeNumber d u [aR 0, aI nm] (hfW w hb sp rb rs hb po ro ee hh ss uu vv pp kk rr tt gg aa dd bd ga im) Q := by
    intro Q hQ
    refine am_body rfl (by decide +kernel) rfl (am_cats_cons rfl ( am_cats_cons rfl (am_cats_nil))) (Nat.le_of_ble_eq_true rfl) (?_ : am_T _ _ _ _ _ 0 [some (aR 0), some (aI nm), none] [] (hfW w hb sp rb rs hb po ro ee hh ss uu vv pp kk rr tt gg aa dd bd ga im))
    refine T_bipush 24 (am_dec tX11_tapeNumber_0 0 rfl) rfl ⟨by decide, by decide⟩ ?_
    refine T_istore_n (ls' := [some (aR 0), some (aI nm), some (aI 24)]) (am_dec tX11_tapeNumber_0 1 rfl) (by decide) rfl ?_
    refine L_c_tapeNumber_3 hl hp hr hh ss uu vv pp kk rr tt gg aa dd bd ga im nm   (by omega) 33 24 ee (by omega) ⟨hE, by omega⟩ (fun sh_3 ee3 hsh_3 hee3 hv3 => ?_)
    exact T_return (am_dec tX11_tapeNumber_0 26 rfl) rfl (am_tr (fun (x9 : am_F) => Q (.inl none) (hfW w hb sp rb rs hb po ro x9 hh ss uu vv pp kk rr tt gg aa dd bd ga im)) (y := ee3) (show (c_tapeNumber ee nm) = ee3 from (by have s9 := hsh_3.symm; subst s9; have s9 := hee3.symm; subst s9; exact rfl)) hQ)
  exact key _ ⟨rfl, rfl⟩
