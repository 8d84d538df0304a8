/-! the model: a rule's worth -/
/-- how many numbers stand on the stack ahead of code s + m -/
def k_dp (c : am_F) (s : Int) : Nat → Int
  | 0 => 0
  | m + 1 => if c (287 + (s + m).toNat) 0 < 2 then k_dp c s m + 1 else if c (287 + (s + m).toNat) 0 = 9 then k_dp c s m else k_dp c s m - 1
def MdP (c : am_F) : Prop := (0 ≤ c 0 46 ∧ c 0 46 ≤ 8) ∧ ∀ p : Int, 0 ≤ p → p < c 0 46 → (0 ≤ c (269 + p.toNat) 1 ∧ c (269 + p.toNat) 1 ≤ c (269 + p.toNat) 2 ∧ c (269 + p.toNat) 2 ≤ 220) ∧ ∀ m : Nat, c (269 + p.toNat) 1 + m < c (269 + p.toNat) 2 → (0 ≤ k_dp c (c (269 + p.toNat) 1) m ∧ k_dp c (c (269 + p.toNat) 1) m ≤ 219) ∧ (2 ≤ c (287 + (c (269 + p.toNat) 1 + m).toNat) 0 → 1 ≤ k_dp c (c (269 + p.toNat) 1) m ∧ (c (287 + (c (269 + p.toNat) 1 + m).toNat) 0 ≠ 9 → 2 ≤ k_dp c (c (269 + p.toNat) 1) m))
theorem k_dp_s {c : am_F} {s i : Int} (h : s ≤ i) : k_dp c s (i + 1 - s).toNat = if c (287 + i.toNat) 0 < 2 then k_dp c s (i - s).toNat + 1 else if c (287 + i.toNat) 0 = 9 then k_dp c s (i - s).toNat else k_dp c s (i - s).toNat - 1 := by
  have e : (i + 1 - s).toNat = (i - s).toNat + 1 := by omega
  rw [e]
  show (if c (287 + (s + ((i - s).toNat : Int)).toNat) 0 < 2 then _ else if c (287 + (s + ((i - s).toNat : Int)).toNat) 0 = 9 then _ else _) = _
  rw [show s + ((i - s).toNat : Int) = i by omega]
def k_image (c : am_F) (q : am_F) : Int × am_F × am_F := (if c 0 32 = 3 then ((-1), c, (am_put q 0 0 0)) else (let c26 : am_F := k_movesAll c 0 (c 0 32); ((am_w32 ((c26 0 32) + 1)), (am_put c26 0 32 (am_w32 ((c26 0 32) + 1))), (am_put q 0 0 0))))
theorem mk_image {S : am_S} {d u : Nat} {w : AH} {b : Nat} (hl : b + 735 ≤ w.length) {c : am_F} {q : am_F}  (him : 0 ≤ c 0 32 ∧ c 0 32 ≤ 3) (hd : 2 ≤ d) : am_Out S zX12_image d u [aR b] (mdW w b c q) (.inl (some (aI ((k_image c q).1)))) (mdW w b ((k_image c q).2.1) ((k_image c q).2.2)) := by
  have key : ∀ Q : AO → AH → Prop, Q (.inl (some (aI ((k_image c q).1)))) (mdW w b ((k_image c q).2.1) ((k_image c q).2.2)) → am_M S zX12_image d u [aR b] (mdW w b c q) Q := by
    intro Q hQ
    refine am_body rfl (by decide +kernel) rfl (am_cats_cons rfl (am_cats_nil)) (Nat.le_of_ble_eq_true rfl) (?_ : am_T _ _ _ _ _ 0 [some (aR b)] [] (mdW w b c q))
    refine T_aload_n (am_dec tX12_image_0 0 rfl) rfl ?_
    refine T_iconst 0 (am_dec tX12_image_0 1 rfl) rfl ⟨by decide, by decide⟩ ?_
    refine T_putfield (fs' := mdO b (c 0) (am_up (q 0) 0 0)) 11 0 (am_dec tX12_image_0 2 rfl) flX12_160_11 rfl rfl rfl trivial (md_obj hl) (Nat.le_of_ble_eq_true rfl) rfl ?_
    refine am_wE (w2 := mdW w b c (am_put q 0 0 0)) (md_fq) ?_
    refine T_aload_n (am_dec tX12_image_0 3 rfl) rfl ?_
    refine T_getfield 11 32 (am_dec tX12_image_0 4 rfl) flX12_298_11 (md_obj hl) rfl ?_
    refine T_iconst 3 (am_dec tX12_image_0 5 rfl) rfl ⟨by decide, by decide⟩ ?_
    refine T_icmp_ne 15 (am_dec tX12_image_0 6 rfl) rfl (fun h10 => ?_) (fun h10 => ?_)
    · refine T_aload_n (am_dec tX12_image_0 9 rfl) rfl ?_
      refine T_aload_n (am_dec tX12_image_0 10 rfl) rfl ?_
      refine T_getfield 11 36 (am_dec tX12_image_0 11 rfl) flX12_88_11 (md_obj hl) rfl ?_
      refine T_aload_n (am_dec tX12_image_0 12 rfl) rfl ?_
      refine T_getfield 11 32 (am_dec tX12_image_0 13 rfl) flX12_298_11 (md_obj hl) rfl ?_
      refine T_aaloadR (r := b + (155 + (c 0 32).toNat)) (am_dec tX12_image_0 14 rfl) (by decide) (mh_kept hl) (by omega) (by omega) (if_pos (by omega)) ?_
      refine T_iconst 0 (am_dec tX12_image_0 15 rfl) rfl ⟨by decide, by decide⟩ ?_
      refine T_callV (as := [aR (b + (155 + (c 0 32).toNat)), aI 0]) rfl (am_dec tX12_image_0 16 rfl) lkX12_528 (md_obj hl) rfl rfl (Nat.le_of_ble_eq_true rfl) (by omega) (mk_movesAll (d := d - 1) hl 0 (c 0 32) (by omega) (by omega)) (fun _ => ?_)
      refine T_nmH (W := fun x9 => mdW w b x9 (am_put q 0 0 0)) (v := k_movesAll c 0 (c 0 32)) (fun c26 hc26 => ?_)
      refine T_aload_n (am_dec tX12_image_0 17 rfl) rfl ?_
      refine T_dup (am_dec tX12_image_0 18 rfl) rfl ?_
      refine T_getfield 11 32 (am_dec tX12_image_0 19 rfl) flX12_298_11 (md_obj hl) rfl ?_
      refine T_iconst 1 (am_dec tX12_image_0 20 rfl) rfl ⟨by decide, by decide⟩ ?_
      refine T_iaddW (am_w32 ((c26 0 32) + 1)) (am_dec tX12_image_0 21 rfl) (am_w32e _).symm (am_w32r _) ?_
      refine T_putfield (fs' := mdO b (am_up (c26 0) 32 (am_w32 ((c26 0 32) + 1))) ((am_put q 0 0 0) 0)) 11 32 (am_dec tX12_image_0 22 rfl) flX12_298_11 rfl rfl rfl trivial (md_obj hl) (Nat.le_of_ble_eq_true rfl) rfl ?_
      refine am_wE (w2 := mdW w b (am_put c26 0 32 (am_w32 ((c26 0 32) + 1))) (am_put q 0 0 0)) (md_fc) ?_
      refine T_aload_n (am_dec tX12_image_0 23 rfl) rfl ?_
      refine T_getfield 11 32 (am_dec tX12_image_0 24 rfl) flX12_298_11 (md_obj hl) (md_fe rfl (am_put_s)) ?_
      exact T_ireturn (am_dec tX12_image_0 25 rfl) rfl (am_tr (fun (x9 : Int × am_F × am_F) => Q (.inl (some (aI (x9.1)))) (mdW w b x9.2.1 x9.2.2)) (y := ((am_w32 ((c26 0 32) + 1)), (am_put c26 0 32 (am_w32 ((c26 0 32) + 1))), (am_put q 0 0 0))) (show (k_image c q) = ((am_w32 ((c26 0 32) + 1)), (am_put c26 0 32 (am_w32 ((c26 0 32) + 1))), (am_put q 0 0 0)) from (by have s9 := hc26.symm; subst s9; exact (if_neg h10))) hQ)
    · refine T_iconst (-1) (am_dec tX12_image_0 7 rfl) rfl ⟨by decide, by decide⟩ ?_
      exact T_ireturn (am_dec tX12_image_0 8 rfl) rfl (am_tr (fun (x9 : Int × am_F × am_F) => Q (.inl (some (aI (x9.1)))) (mdW w b x9.2.1 x9.2.2)) (y := ((-1), c, (am_put q 0 0 0))) (show (k_image c q) = ((-1), c, (am_put q 0 0 0)) from (if_pos h10)) hQ)
  exact key _ ⟨rfl, rfl⟩
def k_restore (c : am_F) (q : am_F) : Int × am_F × am_F := (if c 0 32 = 0 then ((-1), c, (am_put q 0 0 0)) else (let c35 : am_F := k_movesAll (am_put c 0 32 ((c 0 32) - 1)) 1 ((c 0 32) - 1); ((c35 0 32), c35, (am_put q 0 0 0))))
theorem mk_restore {S : am_S} {d u : Nat} {w : AH} {b : Nat} (hl : b + 735 ≤ w.length) {c : am_F} {q : am_F}  (him : 0 ≤ c 0 32 ∧ c 0 32 ≤ 3) (hd : 2 ≤ d) : am_Out S zX12_restore d u [aR b] (mdW w b c q) (.inl (some (aI ((k_restore c q).1)))) (mdW w b ((k_restore c q).2.1) ((k_restore c q).2.2)) := by
  have key : ∀ Q : AO → AH → Prop, Q (.inl (some (aI ((k_restore c q).1)))) (mdW w b ((k_restore c q).2.1) ((k_restore c q).2.2)) → am_M S zX12_restore d u [aR b] (mdW w b c q) Q := by
    intro Q hQ
    refine am_body rfl (by decide +kernel) rfl (am_cats_cons rfl (am_cats_nil)) (Nat.le_of_ble_eq_true rfl) (?_ : am_T _ _ _ _ _ 0 [some (aR b)] [] (mdW w b c q))
    refine T_aload_n (am_dec tX12_restore_0 0 rfl) rfl ?_
    refine T_iconst 0 (am_dec tX12_restore_0 1 rfl) rfl ⟨by decide, by decide⟩ ?_
    refine T_putfield (fs' := mdO b (c 0) (am_up (q 0) 0 0)) 11 0 (am_dec tX12_restore_0 2 rfl) flX12_160_11 rfl rfl rfl trivial (md_obj hl) (Nat.le_of_ble_eq_true rfl) rfl ?_
    refine am_wE (w2 := mdW w b c (am_put q 0 0 0)) (md_fq) ?_
    refine T_aload_n (am_dec tX12_restore_0 3 rfl) rfl ?_
    refine T_getfield 11 32 (am_dec tX12_restore_0 4 rfl) flX12_298_11 (md_obj hl) rfl ?_
    refine T_if_ne 14 (am_dec tX12_restore_0 5 rfl) rfl (fun h9 => ?_) (fun h9 => ?_)
    · refine T_aload_n (am_dec tX12_restore_0 8 rfl) rfl ?_
      refine T_dup (am_dec tX12_restore_0 9 rfl) rfl ?_
      refine T_getfield 11 32 (am_dec tX12_restore_0 10 rfl) flX12_298_11 (md_obj hl) rfl ?_
      refine T_iconst 1 (am_dec tX12_restore_0 11 rfl) rfl ⟨by decide, by decide⟩ ?_
      refine T_isub ((c 0 32) - 1) (am_dec tX12_restore_0 12 rfl) rfl ⟨by omega, by omega⟩ ?_
      refine T_putfield (fs' := mdO b (am_up (c 0) 32 ((c 0 32) - 1)) ((am_put q 0 0 0) 0)) 11 32 (am_dec tX12_restore_0 13 rfl) flX12_298_11 rfl rfl rfl trivial (md_obj hl) (Nat.le_of_ble_eq_true rfl) rfl ?_
      refine am_wE (w2 := mdW w b (am_put c 0 32 ((c 0 32) - 1)) (am_put q 0 0 0)) (md_fc) ?_
      refine T_aload_n (am_dec tX12_restore_0 14 rfl) rfl ?_
      refine T_aload_n (am_dec tX12_restore_0 15 rfl) rfl ?_
      refine T_getfield 11 36 (am_dec tX12_restore_0 16 rfl) flX12_88_11 (md_obj hl) rfl ?_
      refine T_aload_n (am_dec tX12_restore_0 17 rfl) rfl ?_
      refine T_getfield 11 32 (am_dec tX12_restore_0 18 rfl) flX12_298_11 (md_obj hl) (md_fe rfl (am_put_s)) ?_
      refine T_aaloadR (r := b + (155 + ((c 0 32) - 1).toNat)) (am_dec tX12_restore_0 19 rfl) (by decide) (mh_kept hl) (by omega) (by omega) (if_pos (by omega)) ?_
      refine T_iconst 1 (am_dec tX12_restore_0 20 rfl) rfl ⟨by decide, by decide⟩ ?_
      refine T_callV (as := [aR (b + (155 + ((c 0 32) - 1).toNat)), aI 1]) rfl (am_dec tX12_restore_0 21 rfl) lkX12_528 (md_obj hl) rfl rfl (Nat.le_of_ble_eq_true rfl) (by omega) (mk_movesAll (d := d - 1) hl 1 ((c 0 32) - 1) (by omega) (by omega)) (fun _ => ?_)
      refine T_nmH (W := fun x9 => mdW w b x9 (am_put q 0 0 0)) (v := k_movesAll (am_put c 0 32 ((c 0 32) - 1)) 1 ((c 0 32) - 1)) (fun c35 hc35 => ?_)
      refine T_aload_n (am_dec tX12_restore_0 22 rfl) rfl ?_
      refine T_getfield 11 32 (am_dec tX12_restore_0 23 rfl) flX12_298_11 (md_obj hl) rfl ?_
      exact T_ireturn (am_dec tX12_restore_0 24 rfl) rfl (am_tr (fun (x9 : Int × am_F × am_F) => Q (.inl (some (aI (x9.1)))) (mdW w b x9.2.1 x9.2.2)) (y := ((c35 0 32), c35, (am_put q 0 0 0))) (show (k_restore c q) = ((c35 0 32), c35, (am_put q 0 0 0)) from (by have s9 := hc35.symm; subst s9; exact (if_neg h9))) hQ)
    · refine T_iconst (-1) (am_dec tX12_restore_0 6 rfl) rfl ⟨by decide, by decide⟩ ?_
      exact T_ireturn (am_dec tX12_restore_0 7 rfl) rfl (am_tr (fun (x9 : Int × am_F × am_F) => Q (.inl (some (aI (x9.1)))) (mdW w b x9.2.1 x9.2.2)) (y := ((-1), c, (am_put q 0 0 0))) (show (k_restore c q) = ((-1), c, (am_put q 0 0 0)) from (if_pos h9)) hQ)
  exact key _ ⟨rfl, rfl⟩
def k_by (hw : Int) (su : Int) (sv : Int) : Int := (if hw = 2 then (am_w32 (su + sv)) else (if hw = 3 then (am_w32 (su - sv)) else (if hw = 4 then (am_w32 (su * sv)) else (if hw = 5 then (if sv = 0 then 0 else (if sv = (-1) then (am_w32 (-su)) else (am_w32 (su.tdiv sv)))) else (if hw = 6 then (if sv ≤ su then 0 else 1) else (if hw = 7 then (if su ≤ sv then 0 else 1) else (if hw = 8 then (if su = sv then 1 else 0) else (if hw = 9 then (am_w32 (1 - sv)) else (if hw = 10 then (am_w32 (su * sv)) else (if am_w32 (su + sv) ≤ 0 then 0 else 1))))))))))
theorem mk_by {S : am_S} {d u : Nat} {w : AH}  (hw : Int) (su : Int) (sv : Int)   : am_Out S zX12_by d u [aI hw, aI su, aI sv] (w) (.inl (some (aI (k_by hw su sv)))) (w) := by
  have key : ∀ Q : AO → AH → Prop, Q (.inl (some (aI (k_by hw su sv)))) (w) → am_M S zX12_by d u [aI hw, aI su, aI sv] (w) Q := by
    intro Q hQ
    refine am_body rfl (by decide +kernel) rfl (am_cats_cons rfl ( am_cats_cons rfl ( am_cats_cons rfl (am_cats_nil)))) (Nat.le_of_ble_eq_true rfl) (?_ : am_T _ _ _ _ _ 0 [some (aI hw), some (aI su), some (aI sv)] [] (w))
    refine T_iload_n (am_dec tX12_by_0 0 rfl) rfl ?_
    by_cases e1_0 : hw = 2
    · refine T_tableIn (off := 51) 52 (am_dec tX12_by_0 1 rfl) (by omega) (by omega) (by rw [e1_0]; rfl) rfl ?_
      refine T_iload_n (am_dec tX12_by_0 2 rfl) rfl ?_
      refine T_iload_n (am_dec tX12_by_0 3 rfl) rfl ?_
      refine T_iaddW (am_w32 (su + sv)) (am_dec tX12_by_0 4 rfl) (am_w32e _).symm (am_w32r _) ?_
      exact T_ireturn (am_dec tX12_by_0 5 rfl) rfl (am_tr (fun (x9 : Int) => Q (.inl (some (aI (x9)))) (w)) (y := (am_w32 (su + sv))) (show (k_by hw su sv) = (am_w32 (su + sv)) from (if_pos e1_0)) hQ)
    by_cases e1_1 : hw = 3
    · refine T_tableIn (off := 55) 56 (am_dec tX12_by_0 1 rfl) (by omega) (by omega) (by rw [e1_1]; rfl) rfl ?_
      refine T_iload_n (am_dec tX12_by_0 6 rfl) rfl ?_
      refine T_iload_n (am_dec tX12_by_0 7 rfl) rfl ?_
      refine T_isubW (am_w32 (su - sv)) (am_dec tX12_by_0 8 rfl) (am_w32e _).symm (am_w32r _) ?_
      exact T_ireturn (am_dec tX12_by_0 9 rfl) rfl (am_tr (fun (x9 : Int) => Q (.inl (some (aI (x9)))) (w)) (y := (am_w32 (su - sv))) (show (k_by hw su sv) = (am_w32 (su - sv)) from ((if_neg e1_0).trans (if_pos e1_1))) hQ)
    by_cases e1_2 : hw = 4
    · refine T_tableIn (off := 59) 60 (am_dec tX12_by_0 1 rfl) (by omega) (by omega) (by rw [e1_2]; rfl) rfl ?_
      refine T_iload_n (am_dec tX12_by_0 10 rfl) rfl ?_
      refine T_iload_n (am_dec tX12_by_0 11 rfl) rfl ?_
      refine T_imulW (am_w32 (su * sv)) (am_dec tX12_by_0 12 rfl) (am_w32e _).symm (am_w32r _) ?_
      exact T_ireturn (am_dec tX12_by_0 13 rfl) rfl (am_tr (fun (x9 : Int) => Q (.inl (some (aI (x9)))) (w)) (y := (am_w32 (su * sv))) (show (k_by hw su sv) = (am_w32 (su * sv)) from ((if_neg e1_0).trans ((if_neg e1_1).trans (if_pos e1_2)))) hQ)
    by_cases e1_3 : hw = 5
    · refine T_tableIn (off := 63) 64 (am_dec tX12_by_0 1 rfl) (by omega) (by omega) (by rw [e1_3]; rfl) rfl ?_
      refine T_iload_n (am_dec tX12_by_0 14 rfl) rfl ?_
      have K65 : ∀ (t65 : Int), t65 = (if sv = 0 then 0 else (if sv = (-1) then (am_w32 (-su)) else (am_w32 (su.tdiv sv)))) →  am_T S zX12_by d u Q 85 [none, none, none] [aI t65] (w) := by
        intro t65 ht65
        exact T_ireturn (am_dec tX12_by_0 27 rfl) rfl (am_tr (fun (x9 : Int) => Q (.inl (some (aI (x9)))) (w)) (y := t65) (show (k_by hw su sv) = t65 from (by have s9 := ht65.symm; subst s9; exact ((if_neg e1_0).trans ((if_neg e1_1).trans ((if_neg e1_2).trans (if_pos e1_3)))))) hQ)
      refine T_if_ne 72 (am_dec tX12_by_0 15 rfl) rfl (fun h65 => ?_) (fun h65 => ?_)
      · refine T_iload_n (am_dec tX12_by_0 18 rfl) rfl ?_
        refine T_iconst (-1) (am_dec tX12_by_0 19 rfl) rfl ⟨by decide, by decide⟩ ?_
        have K74 : ∀ (t74 : Int), t74 = (if sv = (-1) then (am_w32 (-su)) else (am_w32 (su.tdiv sv))) →  am_T S zX12_by d u Q 85 [none, none, none] [aI t74] (w) := by
          intro t74 ht74
          exact K65 _ (by have s9 := ht74.symm; subst s9; exact (if_neg h65).symm)
        refine T_icmp_ne 82 (am_dec tX12_by_0 20 rfl) rfl (fun h74 => ?_) (fun h74 => ?_)
        · refine T_iload_n (am_dec tX12_by_0 24 rfl) rfl ?_
          refine T_iload_n (am_dec tX12_by_0 25 rfl) rfl ?_
          refine T_idivW (am_w32 (su.tdiv sv)) (am_dec tX12_by_0 26 rfl) (by omega) (am_w32e _).symm (am_w32r _) ?_
          refine T_weak (ls' := [none, none, none]) (am_sub_n (am_sub_n (am_sub_n am_sub_nil))) ?_
          exact K74 _ (if_neg h74).symm
        · refine T_iload_n (am_dec tX12_by_0 21 rfl) rfl ?_
          refine T_ineg (am_w32 (-su)) (am_dec tX12_by_0 22 rfl) (am_w32e _).symm (am_w32r _) ?_
          refine T_goto 85 (am_dec tX12_by_0 23 rfl) rfl ?_
          refine T_weak (ls' := [none, none, none]) (am_sub_n (am_sub_n (am_sub_n am_sub_nil))) ?_
          exact K74 _ (if_pos h74).symm
      · refine T_iconst 0 (am_dec tX12_by_0 16 rfl) rfl ⟨by decide, by decide⟩ ?_
        refine T_goto 85 (am_dec tX12_by_0 17 rfl) rfl ?_
        refine T_weak (ls' := [none, none, none]) (am_sub_n (am_sub_n (am_sub_n am_sub_nil))) ?_
        exact K65 _ (if_pos h65).symm
    by_cases e1_4 : hw = 6
    · refine T_tableIn (off := 85) 86 (am_dec tX12_by_0 1 rfl) (by omega) (by omega) (by rw [e1_4]; rfl) rfl ?_
      refine T_iload_n (am_dec tX12_by_0 28 rfl) rfl ?_
      refine T_iload_n (am_dec tX12_by_0 29 rfl) rfl ?_
      have K88 : ∀ (t88 : Int), t88 = (if sv ≤ su then 0 else 1) →  am_T S zX12_by d u Q 96 [none, none, none] [aI t88] (w) := by
        intro t88 ht88
        have hbt88 : t88 = 0 ∨ t88 = 1 := by
          rw [ht88]
          try dsimp only
          repeat' split
          all_goals first | exact Or.inl rfl | exact Or.inr rfl | apply k_in_b | apply k_isDigit_b | apply k_isSmall_b | apply k_bad_b | apply k_isIn_b | apply k_isStep_b | apply k_isFirst_b | apply k_isLine_b | apply k_seesBy_b | apply k_isWalker_b | apply k_seesOne_b | apply k_badTwo_b | apply k_sees_b | apply k_isCode_b | apply k_isLot_b | apply k_isShip_b | apply k_areRight_b | apply k_right_b | apply k_areSeeds_b | omega
        exact T_ireturn (am_dec tX12_by_0 34 rfl) rfl (am_tr (fun (x9 : Int) => Q (.inl (some (aI (x9)))) (w)) (y := t88) (show (k_by hw su sv) = t88 from (by have s9 := ht88.symm; subst s9; exact ((if_neg e1_0).trans ((if_neg e1_1).trans ((if_neg e1_2).trans ((if_neg e1_3).trans (if_pos e1_4))))))) hQ)
      refine T_icmp_ge 95 (am_dec tX12_by_0 30 rfl) rfl (fun h88 => ?_) (fun h88 => ?_)
      · refine T_iconst 0 (am_dec tX12_by_0 33 rfl) rfl ⟨by decide, by decide⟩ ?_
        refine T_weak (ls' := [none, none, none]) (am_sub_n (am_sub_n (am_sub_n am_sub_nil))) ?_
        exact K88 _ (if_pos h88).symm
      · refine T_iconst 1 (am_dec tX12_by_0 31 rfl) rfl ⟨by decide, by decide⟩ ?_
        refine T_goto 96 (am_dec tX12_by_0 32 rfl) rfl ?_
        refine T_weak (ls' := [none, none, none]) (am_sub_n (am_sub_n (am_sub_n am_sub_nil))) ?_
        exact K88 _ (if_neg h88).symm
    by_cases e1_5 : hw = 7
    · refine T_tableIn (off := 96) 97 (am_dec tX12_by_0 1 rfl) (by omega) (by omega) (by rw [e1_5]; rfl) rfl ?_
      refine T_iload_n (am_dec tX12_by_0 35 rfl) rfl ?_
      refine T_iload_n (am_dec tX12_by_0 36 rfl) rfl ?_
      have K99 : ∀ (t99 : Int), t99 = (if su ≤ sv then 0 else 1) →  am_T S zX12_by d u Q 107 [none, none, none] [aI t99] (w) := by
        intro t99 ht99
        have hbt99 : t99 = 0 ∨ t99 = 1 := by
          rw [ht99]
          try dsimp only
          repeat' split
          all_goals first | exact Or.inl rfl | exact Or.inr rfl | apply k_in_b | apply k_isDigit_b | apply k_isSmall_b | apply k_bad_b | apply k_isIn_b | apply k_isStep_b | apply k_isFirst_b | apply k_isLine_b | apply k_seesBy_b | apply k_isWalker_b | apply k_seesOne_b | apply k_badTwo_b | apply k_sees_b | apply k_isCode_b | apply k_isLot_b | apply k_isShip_b | apply k_areRight_b | apply k_right_b | apply k_areSeeds_b | omega
        exact T_ireturn (am_dec tX12_by_1 1 rfl) rfl (am_tr (fun (x9 : Int) => Q (.inl (some (aI (x9)))) (w)) (y := t99) (show (k_by hw su sv) = t99 from (by have s9 := ht99.symm; subst s9; exact ((if_neg e1_0).trans ((if_neg e1_1).trans ((if_neg e1_2).trans ((if_neg e1_3).trans ((if_neg e1_4).trans (if_pos e1_5)))))))) hQ)
      refine T_icmp_le 106 (am_dec tX12_by_0 37 rfl) rfl (fun h99 => ?_) (fun h99 => ?_)
      · refine T_iconst 0 (am_dec tX12_by_1 0 rfl) rfl ⟨by decide, by decide⟩ ?_
        refine T_weak (ls' := [none, none, none]) (am_sub_n (am_sub_n (am_sub_n am_sub_nil))) ?_
        exact K99 _ (if_pos h99).symm
      · refine T_iconst 1 (am_dec tX12_by_0 38 rfl) rfl ⟨by decide, by decide⟩ ?_
        refine T_goto 107 (am_dec tX12_by_0 39 rfl) rfl ?_
        refine T_weak (ls' := [none, none, none]) (am_sub_n (am_sub_n (am_sub_n am_sub_nil))) ?_
        exact K99 _ (if_neg h99).symm
    by_cases e1_6 : hw = 8
    · refine T_tableIn (off := 107) 108 (am_dec tX12_by_0 1 rfl) (by omega) (by omega) (by rw [e1_6]; rfl) rfl ?_
      refine T_iload_n (am_dec tX12_by_1 2 rfl) rfl ?_
      refine T_iload_n (am_dec tX12_by_1 3 rfl) rfl ?_
      have K110 : ∀ (t110 : Int), t110 = (if su = sv then 1 else 0) →  am_T S zX12_by d u Q 118 [none, none, none] [aI t110] (w) := by
        intro t110 ht110
        have hbt110 : t110 = 0 ∨ t110 = 1 := by
          rw [ht110]
          try dsimp only
          repeat' split
          all_goals first | exact Or.inl rfl | exact Or.inr rfl | apply k_in_b | apply k_isDigit_b | apply k_isSmall_b | apply k_bad_b | apply k_isIn_b | apply k_isStep_b | apply k_isFirst_b | apply k_isLine_b | apply k_seesBy_b | apply k_isWalker_b | apply k_seesOne_b | apply k_badTwo_b | apply k_sees_b | apply k_isCode_b | apply k_isLot_b | apply k_isShip_b | apply k_areRight_b | apply k_right_b | apply k_areSeeds_b | omega
        exact T_ireturn (am_dec tX12_by_1 8 rfl) rfl (am_tr (fun (x9 : Int) => Q (.inl (some (aI (x9)))) (w)) (y := t110) (show (k_by hw su sv) = t110 from (by have s9 := ht110.symm; subst s9; exact ((if_neg e1_0).trans ((if_neg e1_1).trans ((if_neg e1_2).trans ((if_neg e1_3).trans ((if_neg e1_4).trans ((if_neg e1_5).trans (if_pos e1_6))))))))) hQ)
      refine T_icmp_ne 117 (am_dec tX12_by_1 4 rfl) rfl (fun h110 => ?_) (fun h110 => ?_)
      · refine T_iconst 0 (am_dec tX12_by_1 7 rfl) rfl ⟨by decide, by decide⟩ ?_
        refine T_weak (ls' := [none, none, none]) (am_sub_n (am_sub_n (am_sub_n am_sub_nil))) ?_
        exact K110 _ (if_neg h110).symm
      · refine T_iconst 1 (am_dec tX12_by_1 5 rfl) rfl ⟨by decide, by decide⟩ ?_
        refine T_goto 118 (am_dec tX12_by_1 6 rfl) rfl ?_
        refine T_weak (ls' := [none, none, none]) (am_sub_n (am_sub_n (am_sub_n am_sub_nil))) ?_
        exact K110 _ (if_pos h110).symm
    by_cases e1_7 : hw = 9
    · refine T_tableIn (off := 118) 119 (am_dec tX12_by_0 1 rfl) (by omega) (by omega) (by rw [e1_7]; rfl) rfl ?_
      refine T_iconst 1 (am_dec tX12_by_1 9 rfl) rfl ⟨by decide, by decide⟩ ?_
      refine T_iload_n (am_dec tX12_by_1 10 rfl) rfl ?_
      refine T_isubW (am_w32 (1 - sv)) (am_dec tX12_by_1 11 rfl) (am_w32e _).symm (am_w32r _) ?_
      exact T_ireturn (am_dec tX12_by_1 12 rfl) rfl (am_tr (fun (x9 : Int) => Q (.inl (some (aI (x9)))) (w)) (y := (am_w32 (1 - sv))) (show (k_by hw su sv) = (am_w32 (1 - sv)) from ((if_neg e1_0).trans ((if_neg e1_1).trans ((if_neg e1_2).trans ((if_neg e1_3).trans ((if_neg e1_4).trans ((if_neg e1_5).trans ((if_neg e1_6).trans (if_pos e1_7))))))))) hQ)
    by_cases e1_8 : hw = 10
    · refine T_tableIn (off := 122) 123 (am_dec tX12_by_0 1 rfl) (by omega) (by omega) (by rw [e1_8]; rfl) rfl ?_
      refine T_iload_n (am_dec tX12_by_1 13 rfl) rfl ?_
      refine T_iload_n (am_dec tX12_by_1 14 rfl) rfl ?_
      refine T_imulW (am_w32 (su * sv)) (am_dec tX12_by_1 15 rfl) (am_w32e _).symm (am_w32r _) ?_
      exact T_ireturn (am_dec tX12_by_1 16 rfl) rfl (am_tr (fun (x9 : Int) => Q (.inl (some (aI (x9)))) (w)) (y := (am_w32 (su * sv))) (show (k_by hw su sv) = (am_w32 (su * sv)) from ((if_neg e1_0).trans ((if_neg e1_1).trans ((if_neg e1_2).trans ((if_neg e1_3).trans ((if_neg e1_4).trans ((if_neg e1_5).trans ((if_neg e1_6).trans ((if_neg e1_7).trans (if_pos e1_8)))))))))) hQ)
    refine T_tableOut 127 (am_dec tX12_by_0 1 rfl) (by omega) rfl ?_
    refine T_iload_n (am_dec tX12_by_1 17 rfl) rfl ?_
    refine T_iload_n (am_dec tX12_by_1 18 rfl) rfl ?_
    refine T_iaddW (am_w32 (su + sv)) (am_dec tX12_by_1 19 rfl) (am_w32e _).symm (am_w32r _) ?_
    have K130 : ∀ (t130 : Int), t130 = (if am_w32 (su + sv) ≤ 0 then 0 else 1) →  am_T S zX12_by d u Q 138 [none, none, none] [aI t130] (w) := by
      intro t130 ht130
      have hbt130 : t130 = 0 ∨ t130 = 1 := by
        rw [ht130]
        try dsimp only
        repeat' split
        all_goals first | exact Or.inl rfl | exact Or.inr rfl | apply k_in_b | apply k_isDigit_b | apply k_isSmall_b | apply k_bad_b | apply k_isIn_b | apply k_isStep_b | apply k_isFirst_b | apply k_isLine_b | apply k_seesBy_b | apply k_isWalker_b | apply k_seesOne_b | apply k_badTwo_b | apply k_sees_b | apply k_isCode_b | apply k_isLot_b | apply k_isShip_b | apply k_areRight_b | apply k_right_b | apply k_areSeeds_b | omega
      exact T_ireturn (am_dec tX12_by_1 24 rfl) rfl (am_tr (fun (x9 : Int) => Q (.inl (some (aI (x9)))) (w)) (y := t130) (show (k_by hw su sv) = t130 from (by have s9 := ht130.symm; subst s9; exact ((if_neg e1_0).trans ((if_neg e1_1).trans ((if_neg e1_2).trans ((if_neg e1_3).trans ((if_neg e1_4).trans ((if_neg e1_5).trans ((if_neg e1_6).trans ((if_neg e1_7).trans (if_neg e1_8))))))))))) hQ)
    refine T_if_le 137 (am_dec tX12_by_1 20 rfl) rfl (fun h130 => ?_) (fun h130 => ?_)
    · refine T_iconst 0 (am_dec tX12_by_1 23 rfl) rfl ⟨by decide, by decide⟩ ?_
      refine T_weak (ls' := [none, none, none]) (am_sub_n (am_sub_n (am_sub_n am_sub_nil))) ?_
      exact K130 _ (if_pos h130).symm
    · refine T_iconst 1 (am_dec tX12_by_1 21 rfl) rfl ⟨by decide, by decide⟩ ?_
      refine T_goto 138 (am_dec tX12_by_1 22 rfl) rfl ?_
      refine T_weak (ls' := [none, none, none]) (am_sub_n (am_sub_n (am_sub_n am_sub_nil))) ?_
      exact K130 _ (if_neg h130).symm
  exact key _ ⟨rfl, rfl⟩
def g_k_known_107 (c : am_F) (i : Int) (j : Int) (m : Int) : Int := (let t135 : Int := (if c (133 + j.toNat) 0 = c (133 + i.toNat) 0 then 1 else 0); (m + t135))
theorem L_k_known_107 {S : am_S} {d u : Nat} {Q : AO → AH → Prop} {w : AH} {b : Nat} (hl : b + 735 ≤ w.length) (c : am_F) (q : am_F) (i : Int) (hV : MdV c) (hB9 : MdB c) (hL : MdL c) (hbi : 0 ≤ i ∧ i < c 0 30)   (B9 : Int) (hB : B9 = c 0 30) : ∀ (n : Nat) (j : Int) (m : Int), j + n = B9 → 0 ≤ j → 0 ≤ m ∧ m ≤ j → (∀ (m' : Int), m' = am_fold (g_k_known_107 c i) j n m → 0 ≤ m' ∧ m' ≤ B9 → am_T S zX12_known d u Q 152 [none, none, none, none, none, none, some (aI m'), none] [] (mdW w b c q)) → am_T S zX12_known d u Q 107 [some (aR b), none, some (aI i), none, none, none, some (aI m), some (aI j)] [] (mdW w b c q) := by
  intro n
  induction n with
  | zero =>
    intro j m hi9 h0i hinv k9
    have e9 : j = B9 := by omega
    subst e9
    obtain ⟨vl0, vu0⟩ := MdV_0 hV
    obtain ⟨vl1, vu1⟩ := MdV_1 hV
    obtain ⟨vl3, vu3⟩ := MdV_3 hV
    obtain ⟨vl12, vu12⟩ := MdV_12 hV
    have bi := hB9 i (by omega) (by omega)
    refine T_iload (am_dec tX12_known_1 7 rfl) rfl ?_
    refine T_aload_n (am_dec tX12_known_1 8 rfl) rfl ?_
    refine T_getfield 11 30 (am_dec tX12_known_1 9 rfl) flX12_292_11 (md_obj hl) rfl ?_
    refine T_icmp_ge 152 (am_dec tX12_known_1 10 rfl) rfl (fun h113 => ?_) (fun h113 => by exfalso; omega)
    refine T_weak (ls' := [none, none, none, none, none, none, some (aI m), none]) (am_sub_n (am_sub_n (am_sub_n (am_sub_n (am_sub_n (am_sub_n (am_sub_s (am_sub_n am_sub_nil)))))))) ?_
    exact k9 m rfl hinv
  | succ n ih =>
    intro j m hi9 h0i hinv k9
    obtain ⟨vl0, vu0⟩ := MdV_0 hV
    obtain ⟨vl1, vu1⟩ := MdV_1 hV
    obtain ⟨vl3, vu3⟩ := MdV_3 hV
    obtain ⟨vl12, vu12⟩ := MdV_12 hV
    have bi := hB9 i (by omega) (by omega)
    refine T_iload (am_dec tX12_known_1 7 rfl) rfl ?_
    refine T_aload_n (am_dec tX12_known_1 8 rfl) rfl ?_
    refine T_getfield 11 30 (am_dec tX12_known_1 9 rfl) flX12_292_11 (md_obj hl) rfl ?_
    refine T_icmp_ge 152 (am_dec tX12_known_1 10 rfl) rfl (fun h113 => by exfalso; omega) (fun h113 => ?_)
    refine T_iload (am_dec tX12_known_1 11 rfl) rfl ?_
    refine T_aload_n (am_dec tX12_known_1 12 rfl) rfl ?_
    refine T_getfield 11 34 (am_dec tX12_known_1 13 rfl) flX12_82_11 (md_obj hl) rfl ?_
    refine T_iload (am_dec tX12_known_1 14 rfl) rfl ?_
    refine T_aaloadR (r := b + (133 + j.toNat)) (am_dec tX12_known_1 15 rfl) (by decide) (mh_bid hl) (by omega) (by omega) (if_pos (by omega)) ?_
    refine T_iconst 0 (am_dec tX12_known_1 16 rfl) rfl ⟨by decide, by decide⟩ ?_
    refine T_ialoadE (x := c (133 + j.toNat) 0) (am_dec tX12_known_1 17 rfl) (mr_bid hl (i := j) (by omega) (by omega)) (by omega) (by omega) rfl ?_
    refine T_aload_n (am_dec tX12_known_1 18 rfl) rfl ?_
    refine T_getfield 11 34 (am_dec tX12_known_1 19 rfl) flX12_82_11 (md_obj hl) rfl ?_
    refine T_iload_n (am_dec tX12_known_1 20 rfl) rfl ?_
    refine T_aaloadR (r := b + (133 + i.toNat)) (am_dec tX12_known_1 21 rfl) (by decide) (mh_bid hl) (by omega) (by omega) (if_pos (by omega)) ?_
    refine T_iconst 0 (am_dec tX12_known_1 22 rfl) rfl ⟨by decide, by decide⟩ ?_
    refine T_ialoadE (x := c (133 + i.toNat) 0) (am_dec tX12_known_1 23 rfl) (mr_bid hl (i := i) (by omega) (by omega)) (by omega) (by omega) rfl ?_
    have K135 : ∀ (t135 : Int), t135 = (if c (133 + j.toNat) 0 = c (133 + i.toNat) 0 then 1 else 0) →  am_T S zX12_known d u Q 143 [some (aR b), none, some (aI i), none, none, none, none, some (aI j)] [aI t135, aI m] (mdW w b c q) := by
      intro t135 ht135
      have hbt135 : t135 = 0 ∨ t135 = 1 := by
        rw [ht135]
        try dsimp only
        repeat' split
        all_goals first | exact Or.inl rfl | exact Or.inr rfl | apply k_in_b | apply k_isDigit_b | apply k_isSmall_b | apply k_bad_b | apply k_isIn_b | apply k_isStep_b | apply k_isFirst_b | apply k_isLine_b | apply k_seesBy_b | apply k_isWalker_b | apply k_seesOne_b | apply k_badTwo_b | apply k_sees_b | apply k_isCode_b | apply k_isLot_b | apply k_isShip_b | apply k_areRight_b | apply k_right_b | apply k_areSeeds_b | omega
      refine T_iadd (m + t135) (am_dec tX12_known_1 28 rfl) rfl ⟨by omega, by omega⟩ ?_
      refine T_istore (ls' := [some (aR b), none, some (aI i), none, none, none, some (aI (m + t135)), some (aI j)]) (am_dec tX12_known_1 29 rfl) (by decide) rfl ?_
      refine T_iinc (ls' := [some (aR b), none, some (aI i), none, none, none, some (aI (m + t135)), some (aI (j + 1))]) (j + 1) (am_dec tX12_known_1 30 rfl) rfl rfl ⟨by omega, by omega⟩ (by decide) rfl ?_
      refine T_goto 107 (am_dec tX12_known_1 31 rfl) rfl ?_
      have e9 : (g_k_known_107 c i) j m = m + t135 := (by have s9 := ht135.symm; subst s9; exact rfl)
      simp only [am_fold_s, e9] at k9
      exact ih (j + 1) (m + t135) (by omega) (by omega) (by omega) k9
    refine T_icmp_ne 142 (am_dec tX12_known_1 24 rfl) rfl (fun h135 => ?_) (fun h135 => ?_)
    · refine T_iconst 0 (am_dec tX12_known_1 27 rfl) rfl ⟨by decide, by decide⟩ ?_
      refine T_weak (ls' := [some (aR b), none, some (aI i), none, none, none, none, some (aI j)]) (am_sub_s (am_sub_n (am_sub_s (am_sub_n (am_sub_n (am_sub_n (am_sub_n (am_sub_s am_sub_nil)))))))) ?_
      exact K135 _ (if_neg h135).symm
    · refine T_iconst 1 (am_dec tX12_known_1 25 rfl) rfl ⟨by decide, by decide⟩ ?_
      refine T_goto 143 (am_dec tX12_known_1 26 rfl) rfl ?_
      refine T_weak (ls' := [some (aR b), none, some (aI i), none, none, none, none, some (aI j)]) (am_sub_s (am_sub_n (am_sub_s (am_sub_n (am_sub_n (am_sub_n (am_sub_n (am_sub_s am_sub_nil)))))))) ?_
      exact K135 _ (if_pos h135).symm
def k_known (c : am_F) (wh : Int) (i : Int) (t : Int) (there : Int) (left : Int) : Int := (if wh = 0 then (c (133 + i.toNat) 2) else (if wh = 1 then (c (133 + i.toNat) 1) else (if wh = 2 then (c (133 + i.toNat) 0) else (if wh = 3 then t else (if wh = 4 then there else (if wh = 5 then left else (if wh = 6 then (c (96 + (c (133 + i.toNat) 0).toNat) 4) else (if wh = 7 then i else am_fold (g_k_known_107 c i) 0 (c 0 30).toNat 0))))))))
theorem mk_known {S : am_S} {d u : Nat} {w : AH} {b : Nat} (hl : b + 735 ≤ w.length) {c : am_F} {q : am_F} (wh : Int) (i : Int) (t : Int) (there : Int) (left : Int) (hV : MdV c) (hB9 : MdB c) (hL : MdL c) (hbi : 0 ≤ i ∧ i < c 0 30)  : am_Out S zX12_known d u [aR b, aI wh, aI i, aI t, aI there, aI left] (mdW w b c q) (.inl (some (aI (k_known c wh i t there left)))) (mdW w b c q) := by
  have key : ∀ Q : AO → AH → Prop, Q (.inl (some (aI (k_known c wh i t there left)))) (mdW w b c q) → am_M S zX12_known d u [aR b, aI wh, aI i, aI t, aI there, aI left] (mdW w b c q) Q := by
    intro Q hQ
    refine am_body rfl (by decide +kernel) rfl (am_cats_cons rfl ( am_cats_cons rfl ( am_cats_cons rfl ( am_cats_cons rfl ( am_cats_cons rfl ( am_cats_cons rfl (am_cats_nil))))))) (Nat.le_of_ble_eq_true rfl) (?_ : am_T _ _ _ _ _ 0 [some (aR b), some (aI wh), some (aI i), some (aI t), some (aI there), some (aI left), none, none] [] (mdW w b c q))
    obtain ⟨vl0, vu0⟩ := MdV_0 hV
    obtain ⟨vl1, vu1⟩ := MdV_1 hV
    obtain ⟨vl3, vu3⟩ := MdV_3 hV
    obtain ⟨vl12, vu12⟩ := MdV_12 hV
    have bi := hB9 i (by omega) (by omega)
    refine T_iload_n (am_dec tX12_known_0 0 rfl) rfl ?_
    by_cases e1_0 : wh = 0
    · refine T_tableIn (off := 47) 48 (am_dec tX12_known_0 1 rfl) (by omega) (by omega) (by rw [e1_0]; rfl) rfl ?_
      refine T_aload_n (am_dec tX12_known_0 2 rfl) rfl ?_
      refine T_getfield 11 34 (am_dec tX12_known_0 3 rfl) flX12_82_11 (md_obj hl) rfl ?_
      refine T_iload_n (am_dec tX12_known_0 4 rfl) rfl ?_
      refine T_aaloadR (r := b + (133 + i.toNat)) (am_dec tX12_known_0 5 rfl) (by decide) (mh_bid hl) (by omega) (by omega) (if_pos (by omega)) ?_
      refine T_iconst 2 (am_dec tX12_known_0 6 rfl) rfl ⟨by decide, by decide⟩ ?_
      refine T_ialoadE (x := c (133 + i.toNat) 2) (am_dec tX12_known_0 7 rfl) (mr_bid hl (i := i) (by omega) (by omega)) (by omega) (by omega) rfl ?_
      exact T_ireturn (am_dec tX12_known_0 8 rfl) rfl (am_tr (fun (x9 : Int) => Q (.inl (some (aI (x9)))) (mdW w b c q)) (y := (c (133 + i.toNat) 2)) (show (k_known c wh i t there left) = (c (133 + i.toNat) 2) from (if_pos e1_0)) hQ)
    by_cases e1_1 : wh = 1
    · refine T_tableIn (off := 56) 57 (am_dec tX12_known_0 1 rfl) (by omega) (by omega) (by rw [e1_1]; rfl) rfl ?_
      refine T_aload_n (am_dec tX12_known_0 9 rfl) rfl ?_
      refine T_getfield 11 34 (am_dec tX12_known_0 10 rfl) flX12_82_11 (md_obj hl) rfl ?_
      refine T_iload_n (am_dec tX12_known_0 11 rfl) rfl ?_
      refine T_aaloadR (r := b + (133 + i.toNat)) (am_dec tX12_known_0 12 rfl) (by decide) (mh_bid hl) (by omega) (by omega) (if_pos (by omega)) ?_
      refine T_iconst 1 (am_dec tX12_known_0 13 rfl) rfl ⟨by decide, by decide⟩ ?_
      refine T_ialoadE (x := c (133 + i.toNat) 1) (am_dec tX12_known_0 14 rfl) (mr_bid hl (i := i) (by omega) (by omega)) (by omega) (by omega) rfl ?_
      exact T_ireturn (am_dec tX12_known_0 15 rfl) rfl (am_tr (fun (x9 : Int) => Q (.inl (some (aI (x9)))) (mdW w b c q)) (y := (c (133 + i.toNat) 1)) (show (k_known c wh i t there left) = (c (133 + i.toNat) 1) from ((if_neg e1_0).trans (if_pos e1_1))) hQ)
    by_cases e1_2 : wh = 2
    · refine T_tableIn (off := 65) 66 (am_dec tX12_known_0 1 rfl) (by omega) (by omega) (by rw [e1_2]; rfl) rfl ?_
      refine T_aload_n (am_dec tX12_known_0 16 rfl) rfl ?_
      refine T_getfield 11 34 (am_dec tX12_known_0 17 rfl) flX12_82_11 (md_obj hl) rfl ?_
      refine T_iload_n (am_dec tX12_known_0 18 rfl) rfl ?_
      refine T_aaloadR (r := b + (133 + i.toNat)) (am_dec tX12_known_0 19 rfl) (by decide) (mh_bid hl) (by omega) (by omega) (if_pos (by omega)) ?_
      refine T_iconst 0 (am_dec tX12_known_0 20 rfl) rfl ⟨by decide, by decide⟩ ?_
      refine T_ialoadE (x := c (133 + i.toNat) 0) (am_dec tX12_known_0 21 rfl) (mr_bid hl (i := i) (by omega) (by omega)) (by omega) (by omega) rfl ?_
      exact T_ireturn (am_dec tX12_known_0 22 rfl) rfl (am_tr (fun (x9 : Int) => Q (.inl (some (aI (x9)))) (mdW w b c q)) (y := (c (133 + i.toNat) 0)) (show (k_known c wh i t there left) = (c (133 + i.toNat) 0) from ((if_neg e1_0).trans ((if_neg e1_1).trans (if_pos e1_2)))) hQ)
    by_cases e1_3 : wh = 3
    · refine T_tableIn (off := 74) 75 (am_dec tX12_known_0 1 rfl) (by omega) (by omega) (by rw [e1_3]; rfl) rfl ?_
      refine T_iload_n (am_dec tX12_known_0 23 rfl) rfl ?_
      exact T_ireturn (am_dec tX12_known_0 24 rfl) rfl (am_tr (fun (x9 : Int) => Q (.inl (some (aI (x9)))) (mdW w b c q)) (y := t) (show (k_known c wh i t there left) = t from ((if_neg e1_0).trans ((if_neg e1_1).trans ((if_neg e1_2).trans (if_pos e1_3))))) hQ)
    by_cases e1_4 : wh = 4
    · refine T_tableIn (off := 76) 77 (am_dec tX12_known_0 1 rfl) (by omega) (by omega) (by rw [e1_4]; rfl) rfl ?_
      refine T_iload (am_dec tX12_known_0 25 rfl) rfl ?_
      exact T_ireturn (am_dec tX12_known_0 26 rfl) rfl (am_tr (fun (x9 : Int) => Q (.inl (some (aI (x9)))) (mdW w b c q)) (y := there) (show (k_known c wh i t there left) = there from ((if_neg e1_0).trans ((if_neg e1_1).trans ((if_neg e1_2).trans ((if_neg e1_3).trans (if_pos e1_4)))))) hQ)
    by_cases e1_5 : wh = 5
    · refine T_tableIn (off := 79) 80 (am_dec tX12_known_0 1 rfl) (by omega) (by omega) (by rw [e1_5]; rfl) rfl ?_
      refine T_iload (am_dec tX12_known_0 27 rfl) rfl ?_
      exact T_ireturn (am_dec tX12_known_0 28 rfl) rfl (am_tr (fun (x9 : Int) => Q (.inl (some (aI (x9)))) (mdW w b c q)) (y := left) (show (k_known c wh i t there left) = left from ((if_neg e1_0).trans ((if_neg e1_1).trans ((if_neg e1_2).trans ((if_neg e1_3).trans ((if_neg e1_4).trans (if_pos e1_5))))))) hQ)
    by_cases e1_6 : wh = 6
    · refine T_tableIn (off := 82) 83 (am_dec tX12_known_0 1 rfl) (by omega) (by omega) (by rw [e1_6]; rfl) rfl ?_
      refine T_aload_n (am_dec tX12_known_0 29 rfl) rfl ?_
      refine T_getfield 11 23 (am_dec tX12_known_0 30 rfl) flX12_61_11 (md_obj hl) rfl ?_
      refine T_aload_n (am_dec tX12_known_0 31 rfl) rfl ?_
      refine T_getfield 11 34 (am_dec tX12_known_0 32 rfl) flX12_82_11 (md_obj hl) rfl ?_
      refine T_iload_n (am_dec tX12_known_0 33 rfl) rfl ?_
      refine T_aaloadR (r := b + (133 + i.toNat)) (am_dec tX12_known_0 34 rfl) (by decide) (mh_bid hl) (by omega) (by omega) (if_pos (by omega)) ?_
      refine T_iconst 0 (am_dec tX12_known_0 35 rfl) rfl ⟨by decide, by decide⟩ ?_
      refine T_ialoadE (x := c (133 + i.toNat) 0) (am_dec tX12_known_0 36 rfl) (mr_bid hl (i := i) (by omega) (by omega)) (by omega) (by omega) rfl ?_
      refine T_aaloadR (r := b + (96 + (c (133 + i.toNat) 0).toNat)) (am_dec tX12_known_0 37 rfl) (by decide) (mh_lot hl) (by omega) (by omega) (if_pos (by omega)) ?_
      refine T_iconst 4 (am_dec tX12_known_0 38 rfl) rfl ⟨by decide, by decide⟩ ?_
      refine T_ialoadE (x := c (96 + (c (133 + i.toNat) 0).toNat) 4) (am_dec tX12_known_0 39 rfl) (mr_lot hl (i := (c (133 + i.toNat) 0)) (by omega) (by omega)) (by omega) (by omega) rfl ?_
      exact T_ireturn (am_dec tX12_known_1 0 rfl) rfl (am_tr (fun (x9 : Int) => Q (.inl (some (aI (x9)))) (mdW w b c q)) (y := (c (96 + (c (133 + i.toNat) 0).toNat) 4)) (show (k_known c wh i t there left) = (c (96 + (c (133 + i.toNat) 0).toNat) 4) from ((if_neg e1_0).trans ((if_neg e1_1).trans ((if_neg e1_2).trans ((if_neg e1_3).trans ((if_neg e1_4).trans ((if_neg e1_5).trans (if_pos e1_6)))))))) hQ)
    by_cases e1_7 : wh = 7
    · refine T_tableIn (off := 98) 99 (am_dec tX12_known_0 1 rfl) (by omega) (by omega) (by rw [e1_7]; rfl) rfl ?_
      refine T_iload_n (am_dec tX12_known_1 1 rfl) rfl ?_
      exact T_ireturn (am_dec tX12_known_1 2 rfl) rfl (am_tr (fun (x9 : Int) => Q (.inl (some (aI (x9)))) (mdW w b c q)) (y := i) (show (k_known c wh i t there left) = i from ((if_neg e1_0).trans ((if_neg e1_1).trans ((if_neg e1_2).trans ((if_neg e1_3).trans ((if_neg e1_4).trans ((if_neg e1_5).trans ((if_neg e1_6).trans (if_pos e1_7))))))))) hQ)
    refine T_tableOut 101 (am_dec tX12_known_0 1 rfl) (by omega) rfl ?_
    refine T_iconst 0 (am_dec tX12_known_1 3 rfl) rfl ⟨by decide, by decide⟩ ?_
    refine T_istore (ls' := [some (aR b), some (aI wh), some (aI i), some (aI t), some (aI there), some (aI left), some (aI 0), none]) (am_dec tX12_known_1 4 rfl) (by decide) rfl ?_
    refine T_iconst 0 (am_dec tX12_known_1 5 rfl) rfl ⟨by decide, by decide⟩ ?_
    refine T_istore (ls' := [some (aR b), some (aI wh), some (aI i), some (aI t), some (aI there), some (aI left), some (aI 0), some (aI 0)]) (am_dec tX12_known_1 6 rfl) (by decide) rfl ?_
    refine T_weak (ls' := [some (aR b), none, some (aI i), none, none, none, some (aI 0), some (aI 0)]) (am_sub_s (am_sub_n (am_sub_s (am_sub_n (am_sub_n (am_sub_n (am_sub_s (am_sub_s am_sub_nil)))))))) ?_
    refine L_k_known_107 hl c q i hV hB9 hL hbi   _ rfl (c 0 30).toNat 0 0 (by omega) (by omega) (by omega) (fun m_107 hm_107 hv107 => ?_)
    refine T_iload (am_dec tX12_known_1 32 rfl) rfl ?_
    exact T_ireturn (am_dec tX12_known_1 33 rfl) rfl (am_tr (fun (x9 : Int) => Q (.inl (some (aI (x9)))) (mdW w b c q)) (y := m_107) (show (k_known c wh i t there left) = m_107 from (by have s9 := hm_107.symm; subst s9; exact ((if_neg e1_0).trans ((if_neg e1_1).trans ((if_neg e1_2).trans ((if_neg e1_3).trans ((if_neg e1_4).trans ((if_neg e1_5).trans ((if_neg e1_6).trans (if_neg e1_7)))))))))) hQ)
  exact key _ ⟨rfl, rfl⟩
def g_k_lastOf_4 (c : am_F) (kd : Int) (k : Int) (p : Int) : Int := (if c (269 + k.toNat) 0 = kd then k else p)
theorem L_k_lastOf_4 {S : am_S} {d u : Nat} {Q : AO → AH → Prop} {w : AH} {b : Nat} (hl : b + 735 ≤ w.length) (c : am_F) (q : am_F) (kd : Int) (hP9 : MdP c)   (B9 : Int) (hB : B9 = c 0 46) : ∀ (n : Nat) (k : Int) (p : Int), k + n = B9 → 0 ≤ k → (∀ (p' : Int), p' = am_fold (g_k_lastOf_4 c kd) k n p → am_T S zX12_lastOf d u Q 36 [none, none, some (aI p'), none] [] (mdW w b c q)) → am_T S zX12_lastOf d u Q 4 [some (aR b), some (aI kd), some (aI p), some (aI k)] [] (mdW w b c q) := by
  intro n
  induction n with
  | zero =>
    intro k p hi9 h0i k9
    have e9 : k = B9 := by omega
    subst e9
    have hp0 := hP9.1
    refine T_iload_n (am_dec tX12_lastOf_0 4 rfl) rfl ?_
    refine T_aload_n (am_dec tX12_lastOf_0 5 rfl) rfl ?_
    refine T_getfield 11 46 (am_dec tX12_lastOf_0 6 rfl) flX12_301_11 (md_obj hl) rfl ?_
    refine T_icmp_ge 36 (am_dec tX12_lastOf_0 7 rfl) rfl (fun h9 => ?_) (fun h9 => by exfalso; omega)
    refine T_weak (ls' := [none, none, some (aI p), none]) (am_sub_n (am_sub_n (am_sub_s (am_sub_n am_sub_nil)))) ?_
    exact k9 p rfl
  | succ n ih =>
    intro k p hi9 h0i k9
    have hp0 := hP9.1
    refine T_iload_n (am_dec tX12_lastOf_0 4 rfl) rfl ?_
    refine T_aload_n (am_dec tX12_lastOf_0 5 rfl) rfl ?_
    refine T_getfield 11 46 (am_dec tX12_lastOf_0 6 rfl) flX12_301_11 (md_obj hl) rfl ?_
    refine T_icmp_ge 36 (am_dec tX12_lastOf_0 7 rfl) rfl (fun h9 => by exfalso; omega) (fun h9 => ?_)
    refine T_aload_n (am_dec tX12_lastOf_0 8 rfl) rfl ?_
    refine T_getfield 11 51 (am_dec tX12_lastOf_0 9 rfl) flX12_115_11 (md_obj hl) rfl ?_
    refine T_iload_n (am_dec tX12_lastOf_0 10 rfl) rfl ?_
    refine T_aaloadR (r := b + (269 + k.toNat)) (am_dec tX12_lastOf_0 11 rfl) (by decide) (mh_part hl) (by omega) (by omega) (if_pos (by omega)) ?_
    refine T_iconst 0 (am_dec tX12_lastOf_0 12 rfl) rfl ⟨by decide, by decide⟩ ?_
    refine T_ialoadE (x := c (269 + k.toNat) 0) (am_dec tX12_lastOf_0 13 rfl) (mr_part hl (i := k) (by omega) (by omega)) (by omega) (by omega) rfl ?_
    refine T_iload_n (am_dec tX12_lastOf_0 14 rfl) rfl ?_
    have K21 : ∀ (t21 : Int), t21 = (if c (269 + k.toNat) 0 = kd then k else p) →  am_T S zX12_lastOf d u Q 29 [some (aR b), some (aI kd), none, some (aI k)] [aI t21] (mdW w b c q) := by
      intro t21 ht21
      refine T_istore_n (ls' := [some (aR b), some (aI kd), some (aI t21), some (aI k)]) (am_dec tX12_lastOf_0 19 rfl) (by decide) rfl ?_
      refine T_iinc (ls' := [some (aR b), some (aI kd), some (aI t21), some (aI (k + 1))]) (k + 1) (am_dec tX12_lastOf_0 20 rfl) rfl rfl ⟨by omega, by omega⟩ (by decide) rfl ?_
      refine T_goto 4 (am_dec tX12_lastOf_0 21 rfl) rfl ?_
      have e9 : (g_k_lastOf_4 c kd) k p = t21 := (by have s9 := ht21.symm; subst s9; exact rfl)
      simp only [am_fold_s, e9] at k9
      exact ih (k + 1) t21 (by omega) (by omega) k9
    refine T_icmp_ne 28 (am_dec tX12_lastOf_0 15 rfl) rfl (fun h21 => ?_) (fun h21 => ?_)
    · refine T_iload_n (am_dec tX12_lastOf_0 18 rfl) rfl ?_
      refine T_weak (ls' := [some (aR b), some (aI kd), none, some (aI k)]) (am_sub_s (am_sub_s (am_sub_n (am_sub_s am_sub_nil)))) ?_
      exact K21 _ (if_neg h21).symm
    · refine T_iload_n (am_dec tX12_lastOf_0 16 rfl) rfl ?_
      refine T_goto 29 (am_dec tX12_lastOf_0 17 rfl) rfl ?_
      refine T_weak (ls' := [some (aR b), some (aI kd), none, some (aI k)]) (am_sub_s (am_sub_s (am_sub_n (am_sub_s am_sub_nil)))) ?_
      exact K21 _ (if_pos h21).symm
def k_lastOf (c : am_F) (kd : Int) : Int := am_fold (g_k_lastOf_4 c kd) 0 (c 0 46).toNat (-1)
theorem mk_lastOf {S : am_S} {d u : Nat} {w : AH} {b : Nat} (hl : b + 735 ≤ w.length) {c : am_F} {q : am_F} (kd : Int) (hP9 : MdP c)  : am_Out S zX12_lastOf d u [aR b, aI kd] (mdW w b c q) (.inl (some (aI (k_lastOf c kd)))) (mdW w b c q) := by
  have key : ∀ Q : AO → AH → Prop, Q (.inl (some (aI (k_lastOf c kd)))) (mdW w b c q) → am_M S zX12_lastOf d u [aR b, aI kd] (mdW w b c q) Q := by
    intro Q hQ
    refine am_body rfl (by decide +kernel) rfl (am_cats_cons rfl ( am_cats_cons rfl (am_cats_nil))) (Nat.le_of_ble_eq_true rfl) (?_ : am_T _ _ _ _ _ 0 [some (aR b), some (aI kd), none, none] [] (mdW w b c q))
    have hp0 := hP9.1
    refine T_iconst (-1) (am_dec tX12_lastOf_0 0 rfl) rfl ⟨by decide, by decide⟩ ?_
    refine T_istore_n (ls' := [some (aR b), some (aI kd), some (aI (-1)), none]) (am_dec tX12_lastOf_0 1 rfl) (by decide) rfl ?_
    refine T_iconst 0 (am_dec tX12_lastOf_0 2 rfl) rfl ⟨by decide, by decide⟩ ?_
    refine T_istore_n (ls' := [some (aR b), some (aI kd), some (aI (-1)), some (aI 0)]) (am_dec tX12_lastOf_0 3 rfl) (by decide) rfl ?_
    refine L_k_lastOf_4 hl c q kd hP9   _ rfl (c 0 46).toNat 0 (-1) (by omega) (by omega) (fun p_4 hp_4 => ?_)
    refine T_iload_n (am_dec tX12_lastOf_0 22 rfl) rfl ?_
    exact T_ireturn (am_dec tX12_lastOf_0 23 rfl) rfl (am_tr (fun (x9 : Int) => Q (.inl (some (aI (x9)))) (mdW w b c q)) (y := p_4) (show (k_lastOf c kd) = p_4 from (by have s9 := hp_4.symm; subst s9; exact rfl)) hQ)
  exact key _ ⟨rfl, rfl⟩
theorem k_lastOf_b {c : am_F} (hP : MdP c) (x : Int) : -1 ≤ k_lastOf c x ∧ k_lastOf c x < c 0 46 := by
  have h0 := hP.1
  have h := am_fold_inv (P := fun (i a : Int) => 0 ≤ i ∧ -1 ≤ a ∧ a < i) (g := g_k_lastOf_4 c x) (c 0 46).toNat 0 (-1) ⟨by omega, by omega, by omega⟩ (fun i a h1 h2 hp => by
    unfold g_k_lastOf_4
    repeat' split
    all_goals omega)
  rw [show (0 : Int) + ((c 0 46).toNat : Int) = c 0 46 by omega] at h
  exact h.2
def g_k_worth_13 (c : am_F) (i : Int) (t : Int) (there : Int) (left : Int) (k : Int) (x9 : Int × am_F) : Int × am_F := let m := x9.1; let q := x9.2; (let hw_35 : Int := c (287 + k.toNat) 0; (let m_40 : Int := (if 2 ≤ hw_35 then (let t130 : Int := (if hw_35 = 9 then 0 else 1); (m - t130)) else (m + 1)); (let q40 : am_F := (if 2 ≤ hw_35 then (let sv_101 : Int := q 728 ((m - 1).toNat); (let t106 : Int := (if m ≤ 1 then 0 else (q 728 ((m - 2).toNat))); (let t130 : Int := (if hw_35 = 9 then 0 else 1); (am_put q 728 (((m - t130) - 1).toNat) (k_by hw_35 t106 sv_101))))) else (let t51 : Int := (if hw_35 = 0 then (c (287 + k.toNat) 1) else (k_known c (c (287 + k.toNat) 1) i t there left)); (am_put q 728 m.toNat t51))); (m_40, q40))))
theorem L_k_worth_13 {S : am_S} {d u : Nat} {Q : AO → AH → Prop} {w : AH} {b : Nat} (hl : b + 735 ≤ w.length) (c : am_F) (p : Int) (i : Int) (t : Int) (there : Int) (left : Int) (hV : MdV c) (hB9 : MdB c) (hL : MdL c) (hP9 : MdP c) (hbi : 0 ≤ i ∧ i < c 0 30) (hpp : 0 ≤ p ∧ p < c 0 46)  (hd : 1 ≤ d) (B9 : Int) (hB : B9 = c (269 + p.toNat) 2) : ∀ (n : Nat) (k : Int) (m : Int) (q : am_F), k + n = B9 → c (269 + p.toNat) 1 ≤ k → m = k_dp c (c (269 + p.toNat) 1) (k - c (269 + p.toNat) 1).toNat → (∀ (m' : Int) (q' : am_F), m' = (am_fold (g_k_worth_13 c i t there left) k n (m, q)).1 → q' = (am_fold (g_k_worth_13 c i t there left) k n (m, q)).2 → m' = k_dp c (c (269 + p.toNat) 1) (B9 - c (269 + p.toNat) 1).toNat → am_T S zX12_worth d u Q 165 [some (aR b), none, none, none, none, none, none, none, none, none, none] [] (mdW w b c q')) → am_T S zX12_worth d u Q 13 [some (aR b), some (aI p), some (aI i), some (aI t), some (aI there), some (aI left), some (aI m), some (aI k), none, none, none] [] (mdW w b c q) := by
  intro n
  induction n with
  | zero =>
    intro k m q hi9 h0i hinv k9
    have e9 : k = B9 := by omega
    subst e9
    obtain ⟨vl0, vu0⟩ := MdV_0 hV
    obtain ⟨vl1, vu1⟩ := MdV_1 hV
    obtain ⟨vl3, vu3⟩ := MdV_3 hV
    obtain ⟨vl12, vu12⟩ := MdV_12 hV
    have hp0 := hP9.1
    have hp := hP9.2 p (by omega) (by omega)
    refine T_iload (am_dec tX12_worth_0 9 rfl) rfl ?_
    refine T_aload_n (am_dec tX12_worth_0 10 rfl) rfl ?_
    refine T_getfield 11 51 (am_dec tX12_worth_0 11 rfl) flX12_115_11 (md_obj hl) rfl ?_
    refine T_iload_n (am_dec tX12_worth_0 12 rfl) rfl ?_
    refine T_aaloadR (r := b + (269 + p.toNat)) (am_dec tX12_worth_0 13 rfl) (by decide) (mh_part hl) (by omega) (by omega) (if_pos (by omega)) ?_
    refine T_iconst 2 (am_dec tX12_worth_0 14 rfl) rfl ⟨by decide, by decide⟩ ?_
    refine T_ialoadE (x := c (269 + p.toNat) 2) (am_dec tX12_worth_0 15 rfl) (mr_part hl (i := p) (by omega) (by omega)) (by omega) (by omega) rfl ?_
    refine T_icmp_ge 165 (am_dec tX12_worth_0 16 rfl) rfl (fun h23 => ?_) (fun h23 => by exfalso; omega)
    refine T_weak (ls' := [some (aR b), none, none, none, none, none, none, none, none, none, none]) (am_sub_s (am_sub_n (am_sub_n (am_sub_n (am_sub_n (am_sub_n (am_sub_n (am_sub_n (am_sub_n (am_sub_n (am_sub_n am_sub_nil))))))))))) ?_
    exact k9 m q rfl rfl hinv
  | succ n ih =>
    intro k m q hi9 h0i hinv k9
    obtain ⟨vl0, vu0⟩ := MdV_0 hV
    obtain ⟨vl1, vu1⟩ := MdV_1 hV
    obtain ⟨vl3, vu3⟩ := MdV_3 hV
    obtain ⟨vl12, vu12⟩ := MdV_12 hV
    have hp0 := hP9.1
    have hp := hP9.2 p (by omega) (by omega)
    refine T_iload (am_dec tX12_worth_0 9 rfl) rfl ?_
    refine T_aload_n (am_dec tX12_worth_0 10 rfl) rfl ?_
    refine T_getfield 11 51 (am_dec tX12_worth_0 11 rfl) flX12_115_11 (md_obj hl) rfl ?_
    refine T_iload_n (am_dec tX12_worth_0 12 rfl) rfl ?_
    refine T_aaloadR (r := b + (269 + p.toNat)) (am_dec tX12_worth_0 13 rfl) (by decide) (mh_part hl) (by omega) (by omega) (if_pos (by omega)) ?_
    refine T_iconst 2 (am_dec tX12_worth_0 14 rfl) rfl ⟨by decide, by decide⟩ ?_
    refine T_ialoadE (x := c (269 + p.toNat) 2) (am_dec tX12_worth_0 15 rfl) (mr_part hl (i := p) (by omega) (by omega)) (by omega) (by omega) rfl ?_
    refine T_icmp_ge 165 (am_dec tX12_worth_0 16 rfl) rfl (fun h23 => by exfalso; omega) (fun h23 => ?_)
    have hq := hp.2 (k - c (269 + p.toNat) 1).toNat (by omega)
    rw [show c (269 + p.toNat) 1 + ((k - c (269 + p.toNat) 1).toNat : Int) = k by omega, ← hinv] at hq
    refine T_aload_n (am_dec tX12_worth_0 17 rfl) rfl ?_
    refine T_getfield 11 53 (am_dec tX12_worth_0 18 rfl) flX12_121_11 (md_obj hl) rfl ?_
    refine T_iload (am_dec tX12_worth_0 19 rfl) rfl ?_
    refine T_aaloadR (r := b + (287 + k.toNat)) (am_dec tX12_worth_0 20 rfl) (by decide) (mh_code hl) (by omega) (by omega) (if_pos (by omega)) ?_
    refine T_iconst 0 (am_dec tX12_worth_0 21 rfl) rfl ⟨by decide, by decide⟩ ?_
    refine T_ialoadE (x := c (287 + k.toNat) 0) (am_dec tX12_worth_0 22 rfl) (mr_code hl (i := k) (by omega) (by omega)) (by omega) (by omega) rfl ?_
    refine T_nm (fun hw_35 hhw_35 => ?_)
    refine T_istore (ls' := [some (aR b), some (aI p), some (aI i), some (aI t), some (aI there), some (aI left), some (aI m), some (aI k), some (aI hw_35), none, none]) (am_dec tX12_worth_0 23 rfl) (by decide) rfl ?_
    refine T_iload (am_dec tX12_worth_0 24 rfl) rfl ?_
    refine T_iconst 2 (am_dec tX12_worth_0 25 rfl) rfl ⟨by decide, by decide⟩ ?_
    have K40 : ∀ (m_40 : Int), ∀ (q40 : am_F), m_40 = (if 2 ≤ hw_35 then (let t130 : Int := (if hw_35 = 9 then 0 else 1); (m - t130)) else (m + 1)) → q40 = (if 2 ≤ hw_35 then (let sv_101 : Int := q 728 ((m - 1).toNat); (let t106 : Int := (if m ≤ 1 then 0 else (q 728 ((m - 2).toNat))); (let t130 : Int := (if hw_35 = 9 then 0 else 1); (am_put q 728 (((m - t130) - 1).toNat) (k_by hw_35 t106 sv_101))))) else (let t51 : Int := (if hw_35 = 0 then (c (287 + k.toNat) 1) else (k_known c (c (287 + k.toNat) 1) i t there left)); (am_put q 728 m.toNat t51))) →  am_T S zX12_worth d u Q 159 [some (aR b), some (aI p), some (aI i), some (aI t), some (aI there), some (aI left), some (aI m_40), some (aI k), none, none, none] [] (mdW w b c q40) := by
      intro m_40 q40 hm_40 hq40
      have hxm_40 := hm_40
      dsimp only at hxm_40
      refine T_iinc (ls' := [some (aR b), some (aI p), some (aI i), some (aI t), some (aI there), some (aI left), some (aI m_40), some (aI (k + 1)), none, none, none]) (k + 1) (am_dec tX12_worth_2 12 rfl) rfl rfl ⟨by omega, by omega⟩ (by decide) rfl ?_
      refine T_goto 13 (am_dec tX12_worth_2 13 rfl) rfl ?_
      have e9 : (g_k_worth_13 c i t there left) k (m, q) = (m_40, q40) := (by have s9 := hhw_35.symm; subst s9; have s9 := hm_40.symm; subst s9; have s9 := hq40.symm; subst s9; exact rfl)
      simp only [am_fold_s, e9] at k9
      exact ih (k + 1) m_40 q40 (by omega) (by omega) (by rw [k_dp_s (by omega), ← hinv, ← hhw_35, hm_40]; dsimp only; (repeat' split) <;> omega) k9
    refine T_icmp_ge 92 (am_dec tX12_worth_0 26 rfl) rfl (fun h40 => ?_) (fun h40 => ?_)
    · refine T_aload_n (am_dec tX12_worth_1 14 rfl) rfl ?_
      refine T_getfield 11 55 (am_dec tX12_worth_1 15 rfl) flX12_127_11 (md_obj hl) rfl ?_
      refine T_iload (am_dec tX12_worth_1 16 rfl) rfl ?_
      refine T_iconst 1 (am_dec tX12_worth_1 17 rfl) rfl ⟨by decide, by decide⟩ ?_
      refine T_isub (m - 1) (am_dec tX12_worth_1 18 rfl) rfl ⟨by omega, by omega⟩ ?_
      refine T_ialoadE (x := q 728 ((m - 1).toNat)) (am_dec tX12_worth_1 19 rfl) (md_stack hl) (by omega) (by omega) rfl ?_
      refine T_nm (fun sv_101 hsv_101 => ?_)
      refine T_istore (ls' := [some (aR b), some (aI p), some (aI i), some (aI t), some (aI there), some (aI left), some (aI m), some (aI k), some (aI hw_35), some (aI sv_101), none]) (am_dec tX12_worth_1 20 rfl) (by decide) rfl ?_
      refine T_iload (am_dec tX12_worth_1 21 rfl) rfl ?_
      refine T_iconst 1 (am_dec tX12_worth_1 22 rfl) rfl ⟨by decide, by decide⟩ ?_
      have K106 : ∀ (t106 : Int), t106 = (if m ≤ 1 then 0 else (q 728 ((m - 2).toNat))) →  am_T S zX12_worth d u Q 122 [some (aR b), some (aI p), some (aI i), some (aI t), some (aI there), some (aI left), some (aI m), some (aI k), some (aI hw_35), some (aI sv_101), none] [aI t106] (mdW w b c q) := by
        intro t106 ht106
        refine T_istore (ls' := [some (aR b), some (aI p), some (aI i), some (aI t), some (aI there), some (aI left), some (aI m), some (aI k), some (aI hw_35), some (aI sv_101), some (aI t106)]) (am_dec tX12_worth_1 32 rfl) (by decide) rfl ?_
        refine T_iload (am_dec tX12_worth_1 33 rfl) rfl ?_
        refine T_iload (am_dec tX12_worth_1 34 rfl) rfl ?_
        refine T_bipush 9 (am_dec tX12_worth_1 35 rfl) rfl ⟨by decide, by decide⟩ ?_
        have K130 : ∀ (t130 : Int), t130 = (if hw_35 = 9 then 0 else 1) →  am_T S zX12_worth d u Q 138 [some (aR b), some (aI p), some (aI i), some (aI t), some (aI there), some (aI left), none, some (aI k), some (aI hw_35), some (aI sv_101), some (aI t106)] [aI t130, aI m] (mdW w b c q) := by
          intro t130 ht130
          have hbt130 : t130 = 0 ∨ t130 = 1 := by
            rw [ht130]
            try dsimp only
            repeat' split
            all_goals first | exact Or.inl rfl | exact Or.inr rfl | apply k_in_b | apply k_isDigit_b | apply k_isSmall_b | apply k_bad_b | apply k_isIn_b | apply k_isStep_b | apply k_isFirst_b | apply k_isLine_b | apply k_seesBy_b | apply k_isWalker_b | apply k_seesOne_b | apply k_badTwo_b | apply k_sees_b | apply k_isCode_b | apply k_isLot_b | apply k_isShip_b | apply k_areRight_b | apply k_right_b | apply k_areSeeds_b | omega
          refine T_isub (m - t130) (am_dec tX12_worth_2 0 rfl) rfl ⟨by omega, by omega⟩ ?_
          refine T_istore (ls' := [some (aR b), some (aI p), some (aI i), some (aI t), some (aI there), some (aI left), some (aI (m - t130)), some (aI k), some (aI hw_35), some (aI sv_101), some (aI t106)]) (am_dec tX12_worth_2 1 rfl) (by decide) rfl ?_
          refine T_aload_n (am_dec tX12_worth_2 2 rfl) rfl ?_
          refine T_getfield 11 55 (am_dec tX12_worth_2 3 rfl) flX12_127_11 (md_obj hl) rfl ?_
          refine T_iload (am_dec tX12_worth_2 4 rfl) rfl ?_
          refine T_iconst 1 (am_dec tX12_worth_2 5 rfl) rfl ⟨by decide, by decide⟩ ?_
          refine T_isub ((m - t130) - 1) (am_dec tX12_worth_2 6 rfl) rfl ⟨by omega, by omega⟩ ?_
          refine T_iload (am_dec tX12_worth_2 7 rfl) rfl ?_
          refine T_iload (am_dec tX12_worth_2 8 rfl) rfl ?_
          refine T_iload (am_dec tX12_worth_2 9 rfl) rfl ?_
          refine T_callS (as := [aI hw_35, aI t106, aI sv_101]) rfl (am_dec tX12_worth_2 10 rfl) lkX12_500 rfl (Nat.le_of_ble_eq_true rfl) (by omega) (mk_by (d := d - 1)  hw_35 t106 sv_101   ) (fun _ => ?_)
          refine T_iastore (am_dec tX12_worth_2 11 rfl) (md_stack hl) (by omega) (by omega) ?_
          refine am_wE (w2 := mdW w b c (am_put q 728 (((m - t130) - 1).toNat) (k_by hw_35 t106 sv_101))) (md_pq (Nat.le_of_ble_eq_true rfl) (fun _ _ => rfl)) ?_
          refine T_weak (ls' := [some (aR b), some (aI p), some (aI i), some (aI t), some (aI there), some (aI left), some (aI (m - t130)), some (aI k), none, none, none]) (am_sub_s (am_sub_s (am_sub_s (am_sub_s (am_sub_s (am_sub_s (am_sub_s (am_sub_s (am_sub_n (am_sub_n (am_sub_n am_sub_nil))))))))))) ?_
          exact K40 _ _ (by have s9 := hsv_101.symm; subst s9; have s9 := ht106.symm; subst s9; have s9 := ht130.symm; subst s9; exact (if_pos h40).symm) (by have s9 := hsv_101.symm; subst s9; have s9 := ht106.symm; subst s9; have s9 := ht130.symm; subst s9; exact (if_pos h40).symm)
        refine T_icmp_ne 137 (am_dec tX12_worth_1 36 rfl) rfl (fun h130 => ?_) (fun h130 => ?_)
        · refine T_iconst 1 (am_dec tX12_worth_1 39 rfl) rfl ⟨by decide, by decide⟩ ?_
          refine T_weak (ls' := [some (aR b), some (aI p), some (aI i), some (aI t), some (aI there), some (aI left), none, some (aI k), some (aI hw_35), some (aI sv_101), some (aI t106)]) (am_sub_s (am_sub_s (am_sub_s (am_sub_s (am_sub_s (am_sub_s (am_sub_n (am_sub_s (am_sub_s (am_sub_s (am_sub_s am_sub_nil))))))))))) ?_
          exact K130 _ (if_neg h130).symm
        · refine T_iconst 0 (am_dec tX12_worth_1 37 rfl) rfl ⟨by decide, by decide⟩ ?_
          refine T_goto 138 (am_dec tX12_worth_1 38 rfl) rfl ?_
          refine T_weak (ls' := [some (aR b), some (aI p), some (aI i), some (aI t), some (aI there), some (aI left), none, some (aI k), some (aI hw_35), some (aI sv_101), some (aI t106)]) (am_sub_s (am_sub_s (am_sub_s (am_sub_s (am_sub_s (am_sub_s (am_sub_n (am_sub_s (am_sub_s (am_sub_s (am_sub_s am_sub_nil))))))))))) ?_
          exact K130 _ (if_pos h130).symm
      refine T_icmp_le 121 (am_dec tX12_worth_1 23 rfl) rfl (fun h106 => ?_) (fun h106 => ?_)
      · refine T_iconst 0 (am_dec tX12_worth_1 31 rfl) rfl ⟨by decide, by decide⟩ ?_
        exact K106 _ (if_pos h106).symm
      · refine T_aload_n (am_dec tX12_worth_1 24 rfl) rfl ?_
        refine T_getfield 11 55 (am_dec tX12_worth_1 25 rfl) flX12_127_11 (md_obj hl) rfl ?_
        refine T_iload (am_dec tX12_worth_1 26 rfl) rfl ?_
        refine T_iconst 2 (am_dec tX12_worth_1 27 rfl) rfl ⟨by decide, by decide⟩ ?_
        refine T_isub (m - 2) (am_dec tX12_worth_1 28 rfl) rfl ⟨by omega, by omega⟩ ?_
        refine T_ialoadE (x := q 728 ((m - 2).toNat)) (am_dec tX12_worth_1 29 rfl) (md_stack hl) (by omega) (by omega) rfl ?_
        refine T_goto 122 (am_dec tX12_worth_1 30 rfl) rfl ?_
        exact K106 _ (if_neg h106).symm
    · refine T_aload_n (am_dec tX12_worth_0 27 rfl) rfl ?_
      refine T_getfield 11 55 (am_dec tX12_worth_0 28 rfl) flX12_127_11 (md_obj hl) rfl ?_
      refine T_iload (am_dec tX12_worth_0 29 rfl) rfl ?_
      refine T_iload (am_dec tX12_worth_0 30 rfl) rfl ?_
      have K51 : ∀ (t51 : Int), t51 = (if hw_35 = 0 then (c (287 + k.toNat) 1) else (k_known c (c (287 + k.toNat) 1) i t there left)) →  am_T S zX12_worth d u Q 85 [some (aR b), some (aI p), some (aI i), some (aI t), some (aI there), some (aI left), some (aI m), some (aI k), none, none, none] [aI t51, aI m, aR (b + 728)] (mdW w b c q) := by
        intro t51 ht51
        refine T_iastore (am_dec tX12_worth_1 11 rfl) (md_stack hl) (by omega) (by omega) ?_
        refine am_wE (w2 := mdW w b c (am_put q 728 m.toNat t51)) (md_pq (Nat.le_of_ble_eq_true rfl) (fun _ _ => rfl)) ?_
        refine T_iinc (ls' := [some (aR b), some (aI p), some (aI i), some (aI t), some (aI there), some (aI left), some (aI (m + 1)), some (aI k), none, none, none]) (m + 1) (am_dec tX12_worth_1 12 rfl) rfl rfl ⟨by omega, by omega⟩ (by decide) rfl ?_
        refine T_goto 159 (am_dec tX12_worth_1 13 rfl) rfl ?_
        exact K40 _ _ (by have s9 := ht51.symm; subst s9; exact (if_neg h40).symm) (by have s9 := ht51.symm; subst s9; exact (if_neg h40).symm)
      refine T_if_ne 66 (am_dec tX12_worth_0 31 rfl) rfl (fun h51 => ?_) (fun h51 => ?_)
      · refine T_aload_n (am_dec tX12_worth_0 39 rfl) rfl ?_
        refine T_aload_n (am_dec tX12_worth_1 0 rfl) rfl ?_
        refine T_getfield 11 53 (am_dec tX12_worth_1 1 rfl) flX12_121_11 (md_obj hl) rfl ?_
        refine T_iload (am_dec tX12_worth_1 2 rfl) rfl ?_
        refine T_aaloadR (r := b + (287 + k.toNat)) (am_dec tX12_worth_1 3 rfl) (by decide) (mh_code hl) (by omega) (by omega) (if_pos (by omega)) ?_
        refine T_iconst 1 (am_dec tX12_worth_1 4 rfl) rfl ⟨by decide, by decide⟩ ?_
        refine T_ialoadE (x := c (287 + k.toNat) 1) (am_dec tX12_worth_1 5 rfl) (mr_code hl (i := k) (by omega) (by omega)) (by omega) (by omega) rfl ?_
        refine T_iload_n (am_dec tX12_worth_1 6 rfl) rfl ?_
        refine T_iload_n (am_dec tX12_worth_1 7 rfl) rfl ?_
        refine T_iload (am_dec tX12_worth_1 8 rfl) rfl ?_
        refine T_iload (am_dec tX12_worth_1 9 rfl) rfl ?_
        refine T_callV (as := [aI (c (287 + k.toNat) 1), aI i, aI t, aI there, aI left]) rfl (am_dec tX12_worth_1 10 rfl) lkX12_497 (md_obj hl) rfl rfl (Nat.le_of_ble_eq_true rfl) (by omega) (mk_known (d := d - 1) hl (c (287 + k.toNat) 1) i t there left  hV hB9 hL (by omega) ) (fun _ => ?_)
        refine T_weak (ls' := [some (aR b), some (aI p), some (aI i), some (aI t), some (aI there), some (aI left), some (aI m), some (aI k), none, none, none]) (am_sub_s (am_sub_s (am_sub_s (am_sub_s (am_sub_s (am_sub_s (am_sub_s (am_sub_s (am_sub_n (am_sub_n (am_sub_n am_sub_nil))))))))))) ?_
        exact K51 _ (if_neg h51).symm
      · refine T_aload_n (am_dec tX12_worth_0 32 rfl) rfl ?_
        refine T_getfield 11 53 (am_dec tX12_worth_0 33 rfl) flX12_121_11 (md_obj hl) rfl ?_
        refine T_iload (am_dec tX12_worth_0 34 rfl) rfl ?_
        refine T_aaloadR (r := b + (287 + k.toNat)) (am_dec tX12_worth_0 35 rfl) (by decide) (mh_code hl) (by omega) (by omega) (if_pos (by omega)) ?_
        refine T_iconst 1 (am_dec tX12_worth_0 36 rfl) rfl ⟨by decide, by decide⟩ ?_
        refine T_ialoadE (x := c (287 + k.toNat) 1) (am_dec tX12_worth_0 37 rfl) (mr_code hl (i := k) (by omega) (by omega)) (by omega) (by omega) rfl ?_
        refine T_goto 85 (am_dec tX12_worth_0 38 rfl) rfl ?_
        refine T_weak (ls' := [some (aR b), some (aI p), some (aI i), some (aI t), some (aI there), some (aI left), some (aI m), some (aI k), none, none, none]) (am_sub_s (am_sub_s (am_sub_s (am_sub_s (am_sub_s (am_sub_s (am_sub_s (am_sub_s (am_sub_n (am_sub_n (am_sub_n am_sub_nil))))))))))) ?_
        exact K51 _ (if_pos h51).symm
def k_worth (c : am_F) (q : am_F) (p : Int) (i : Int) (t : Int) (there : Int) (left : Int) : Int × am_F := (let k_11 : Int := c (269 + p.toNat) 1; (let q13 : am_F := (am_fold (g_k_worth_13 c i t there left) k_11 (c (269 + p.toNat) 2 - k_11).toNat (0, q)).2; ((q13 728 0), q13)))
theorem mk_worth {S : am_S} {d u : Nat} {w : AH} {b : Nat} (hl : b + 735 ≤ w.length) {c : am_F} {q : am_F} (p : Int) (i : Int) (t : Int) (there : Int) (left : Int) (hV : MdV c) (hB9 : MdB c) (hL : MdL c) (hP9 : MdP c) (hbi : 0 ≤ i ∧ i < c 0 30) (hpp : 0 ≤ p ∧ p < c 0 46) (hd : 1 ≤ d) : am_Out S zX12_worth d u [aR b, aI p, aI i, aI t, aI there, aI left] (mdW w b c q) (.inl (some (aI ((k_worth c q p i t there left).1)))) (mdW w b c ((k_worth c q p i t there left).2)) := by
  have key : ∀ Q : AO → AH → Prop, Q (.inl (some (aI ((k_worth c q p i t there left).1)))) (mdW w b c ((k_worth c q p i t there left).2)) → am_M S zX12_worth d u [aR b, aI p, aI i, aI t, aI there, aI left] (mdW w b c q) Q := by
    intro Q hQ
    refine am_body rfl (by decide +kernel) rfl (am_cats_cons rfl ( am_cats_cons rfl ( am_cats_cons rfl ( am_cats_cons rfl ( am_cats_cons rfl ( am_cats_cons rfl (am_cats_nil))))))) (Nat.le_of_ble_eq_true rfl) (?_ : am_T _ _ _ _ _ 0 [some (aR b), some (aI p), some (aI i), some (aI t), some (aI there), some (aI left), none, none, none, none, none] [] (mdW w b c q))
    obtain ⟨vl0, vu0⟩ := MdV_0 hV
    obtain ⟨vl1, vu1⟩ := MdV_1 hV
    obtain ⟨vl3, vu3⟩ := MdV_3 hV
    obtain ⟨vl12, vu12⟩ := MdV_12 hV
    have hp0 := hP9.1
    have hp := hP9.2 p (by omega) (by omega)
    refine T_iconst 0 (am_dec tX12_worth_0 0 rfl) rfl ⟨by decide, by decide⟩ ?_
    refine T_istore (ls' := [some (aR b), some (aI p), some (aI i), some (aI t), some (aI there), some (aI left), some (aI 0), none, none, none, none]) (am_dec tX12_worth_0 1 rfl) (by decide) rfl ?_
    refine T_aload_n (am_dec tX12_worth_0 2 rfl) rfl ?_
    refine T_getfield 11 51 (am_dec tX12_worth_0 3 rfl) flX12_115_11 (md_obj hl) rfl ?_
    refine T_iload_n (am_dec tX12_worth_0 4 rfl) rfl ?_
    refine T_aaloadR (r := b + (269 + p.toNat)) (am_dec tX12_worth_0 5 rfl) (by decide) (mh_part hl) (by omega) (by omega) (if_pos (by omega)) ?_
    refine T_iconst 1 (am_dec tX12_worth_0 6 rfl) rfl ⟨by decide, by decide⟩ ?_
    refine T_ialoadE (x := c (269 + p.toNat) 1) (am_dec tX12_worth_0 7 rfl) (mr_part hl (i := p) (by omega) (by omega)) (by omega) (by omega) rfl ?_
    refine T_nm (fun k_11 hk_11 => ?_)
    refine T_istore (ls' := [some (aR b), some (aI p), some (aI i), some (aI t), some (aI there), some (aI left), some (aI 0), some (aI k_11), none, none, none]) (am_dec tX12_worth_0 8 rfl) (by decide) rfl ?_
    refine L_k_worth_13 hl c p i t there left hV hB9 hL hP9 hbi hpp  (by omega) _ rfl (c (269 + p.toNat) 2 - k_11).toNat k_11 0 q (by omega) (by omega) (by rw [hk_11, Int.sub_self]; rfl) (fun m_13 q13 hm_13 hq13 hv13 => ?_)
    refine T_aload_n (am_dec tX12_worth_2 14 rfl) rfl ?_
    refine T_getfield 11 55 (am_dec tX12_worth_2 15 rfl) flX12_127_11 (md_obj hl) rfl ?_
    refine T_iconst 0 (am_dec tX12_worth_2 16 rfl) rfl ⟨by decide, by decide⟩ ?_
    refine T_ialoadE (x := q13 728 0) (am_dec tX12_worth_2 17 rfl) (md_stack hl) (by omega) (by omega) rfl ?_
    exact T_ireturn (am_dec tX12_worth_2 18 rfl) rfl (am_tr (fun (x9 : Int × am_F) => Q (.inl (some (aI (x9.1)))) (mdW w b c x9.2)) (y := ((q13 728 0), q13)) (show (k_worth c q p i t there left) = ((q13 728 0), q13) from (by have s9 := hk_11.symm; subst s9; have s9 := hm_13.symm; subst s9; have s9 := hq13.symm; subst s9; exact rfl)) hQ)
  exact key _ ⟨rfl, rfl⟩
def w_k_isLet_14 (c : am_F) (i : Int) (t : Int) (there : Int) (x9 : Int × am_F) : (Int × am_F) ⊕ (Int × am_F) := let p : Int := x9.1; let q : am_F := x9.2; (if c 0 46 ≤ p then .inr (0, q) else (if c (269 + p.toNat) 0 = 0 then (let u42 : Int × am_F := k_worth c q p i t there there; (if (u42).1 = 1 then .inr (1, (u42).2) else .inl ((p + 1), (u42).2))) else .inl ((p + 1), q)))
theorem L_k_isLet_14 {S : am_S} {d u : Nat} {Q : AO → AH → Prop} {w : AH} {b : Nat} (hl : b + 735 ≤ w.length) (c : am_F) (i : Int) (t : Int) (there : Int) (hV : MdV c) (hB9 : MdB c) (hL : MdL c) (hP9 : MdP c) (hbi : 0 ≤ i ∧ i < c 0 30)  (hd : 2 ≤ d) : ∀ (n : Nat) (p : Int) (q : am_F), c 0 46 - p < n → 0 ≤ p ∧ p ≤ c 0 46 → (∀ (rv' : Int) (q' : am_F), rv' = (am_wr (w_k_isLet_14 c i t there) (0, (fun _ _ => 0)) n (p, q)).1 → q' = (am_wr (w_k_isLet_14 c i t there) (0, (fun _ _ => 0)) n (p, q)).2 → Q (.inl (some (aI rv'))) (mdW w b c q')) → am_T S zX12_isLet d u Q 14 [some (aR b), some (aI i), some (aI t), some (aI there), some (aI p)] [] (mdW w b c q) := by
  intro n
  induction n with
  | zero =>
    intro p q hm9 hinv k9
    obtain ⟨vl0, vu0⟩ := MdV_0 hV
    obtain ⟨vl1, vu1⟩ := MdV_1 hV
    obtain ⟨vl3, vu3⟩ := MdV_3 hV
    obtain ⟨vl12, vu12⟩ := MdV_12 hV
    have hp0 := hP9.1
    exfalso; omega
  | succ n ih =>
    intro p q hm9 hinv k9
    obtain ⟨vl0, vu0⟩ := MdV_0 hV
    obtain ⟨vl1, vu1⟩ := MdV_1 hV
    obtain ⟨vl3, vu3⟩ := MdV_3 hV
    obtain ⟨vl12, vu12⟩ := MdV_12 hV
    have hp0 := hP9.1
    refine T_iload (am_dec tX12_isLet_0 9 rfl) rfl ?_
    refine T_aload_n (am_dec tX12_isLet_0 10 rfl) rfl ?_
    refine T_getfield 11 46 (am_dec tX12_isLet_0 11 rfl) flX12_301_11 (md_obj hl) rfl ?_
    refine T_icmp_ge 57 (am_dec tX12_isLet_0 12 rfl) rfl (fun h20 => ?_) (fun h20 => ?_)
    · refine T_iconst 0 (am_dec tX12_isLet_0 33 rfl) rfl ⟨by decide, by decide⟩ ?_
      exact T_zreturn (am_dec tX12_isLet_0 34 rfl) rfl (by first | exact Or.inl rfl | exact Or.inr rfl | omega) (by have e9 : (w_k_isLet_14 c i t there) (p, q) = .inr (0, q) := (if_pos h20); simp only [am_wr_r e9] at k9; exact k9 _ _ rfl rfl)
    · refine T_aload_n (am_dec tX12_isLet_0 13 rfl) rfl ?_
      refine T_getfield 11 51 (am_dec tX12_isLet_0 14 rfl) flX12_115_11 (md_obj hl) rfl ?_
      refine T_iload (am_dec tX12_isLet_0 15 rfl) rfl ?_
      refine T_aaloadR (r := b + (269 + p.toNat)) (am_dec tX12_isLet_0 16 rfl) (by decide) (mh_part hl) (by omega) (by omega) (if_pos (by omega)) ?_
      refine T_iconst 0 (am_dec tX12_isLet_0 17 rfl) rfl ⟨by decide, by decide⟩ ?_
      refine T_ialoadE (x := c (269 + p.toNat) 0) (am_dec tX12_isLet_0 18 rfl) (mr_part hl (i := p) (by omega) (by omega)) (by omega) (by omega) rfl ?_
      refine T_if_ne 51 (am_dec tX12_isLet_0 19 rfl) rfl (fun h32 => ?_) (fun h32 => ?_)
      · refine T_iinc (ls' := [some (aR b), some (aI i), some (aI t), some (aI there), some (aI (p + 1))]) (p + 1) (am_dec tX12_isLet_0 31 rfl) rfl rfl ⟨by omega, by omega⟩ (by decide) rfl ?_
        refine T_goto 14 (am_dec tX12_isLet_0 32 rfl) rfl ?_
        have e9 : (w_k_isLet_14 c i t there) (p, q) = .inl (p + 1, q) := ((if_neg h20).trans (if_neg h32))
        simp only [am_wr_l e9] at k9
        exact ih (p + 1) q (by omega) (by omega) k9
      · refine T_aload_n (am_dec tX12_isLet_0 20 rfl) rfl ?_
        refine T_iload (am_dec tX12_isLet_0 21 rfl) rfl ?_
        refine T_iload_n (am_dec tX12_isLet_0 22 rfl) rfl ?_
        refine T_iload_n (am_dec tX12_isLet_0 23 rfl) rfl ?_
        refine T_iload_n (am_dec tX12_isLet_0 24 rfl) rfl ?_
        refine T_iload_n (am_dec tX12_isLet_0 25 rfl) rfl ?_
        refine T_callV (as := [aI p, aI i, aI t, aI there, aI there]) rfl (am_dec tX12_isLet_0 26 rfl) lkX12_506 (md_obj hl) rfl rfl (Nat.le_of_ble_eq_true rfl) (by omega) (mk_worth (d := d - 1) hl p i t there there  hV hB9 hL hP9 (by omega) (by omega) (by omega)) (fun _ => ?_)
        obtain ⟨u42, hu42⟩ : ∃ x9, x9 = k_worth c q p i t there there := ⟨_, rfl⟩
        rw [← hu42]
        refine T_iconst 1 (am_dec tX12_isLet_0 27 rfl) rfl ⟨by decide, by decide⟩ ?_
        refine T_icmp_ne 51 (am_dec tX12_isLet_0 28 rfl) rfl (fun h46 => ?_) (fun h46 => ?_)
        · refine T_iinc (ls' := [some (aR b), some (aI i), some (aI t), some (aI there), some (aI (p + 1))]) (p + 1) (am_dec tX12_isLet_0 31 rfl) rfl rfl ⟨by omega, by omega⟩ (by decide) rfl ?_
          refine T_goto 14 (am_dec tX12_isLet_0 32 rfl) rfl ?_
          have e9 : (w_k_isLet_14 c i t there) (p, q) = .inl (p + 1, (u42).2) := (by have s9 := hu42.symm; subst s9; exact ((if_neg h20).trans ((if_pos h32).trans (if_neg h46))))
          simp only [am_wr_l e9] at k9
          exact ih (p + 1) ((u42).2) (by omega) (by omega) k9
        · refine T_iconst 1 (am_dec tX12_isLet_0 29 rfl) rfl ⟨by decide, by decide⟩ ?_
          exact T_zreturn (am_dec tX12_isLet_0 30 rfl) rfl (by first | exact Or.inl rfl | exact Or.inr rfl | omega) (by have e9 : (w_k_isLet_14 c i t there) (p, q) = .inr (1, (u42).2) := (by have s9 := hu42.symm; subst s9; exact ((if_neg h20).trans ((if_pos h32).trans (if_pos h46)))); simp only [am_wr_r e9] at k9; exact k9 _ _ rfl rfl)
def k_isLet (c : am_F) (q : am_F) (i : Int) (t : Int) (there : Int) : Int × am_F := (let n2 : Int := (k_lastOf c 0); (if n2 = (-1) then (1, q) else (let rv_14 : Int := (am_wr (w_k_isLet_14 c i t there) (0, (fun _ _ => 0)) 9 (0, q)).1; (let q14 : am_F := (am_wr (w_k_isLet_14 c i t there) (0, (fun _ _ => 0)) 9 (0, q)).2; (rv_14, q14)))))
theorem mk_isLet {S : am_S} {d u : Nat} {w : AH} {b : Nat} (hl : b + 735 ≤ w.length) {c : am_F} {q : am_F} (i : Int) (t : Int) (there : Int) (hV : MdV c) (hB9 : MdB c) (hL : MdL c) (hP9 : MdP c) (hbi : 0 ≤ i ∧ i < c 0 30) (hd : 2 ≤ d) : am_Out S zX12_isLet d u [aR b, aI i, aI t, aI there] (mdW w b c q) (.inl (some (aI ((k_isLet c q i t there).1)))) (mdW w b c ((k_isLet c q i t there).2)) := by
  have key : ∀ Q : AO → AH → Prop, Q (.inl (some (aI ((k_isLet c q i t there).1)))) (mdW w b c ((k_isLet c q i t there).2)) → am_M S zX12_isLet d u [aR b, aI i, aI t, aI there] (mdW w b c q) Q := by
    intro Q hQ
    refine am_body rfl (by decide +kernel) rfl (am_cats_cons rfl ( am_cats_cons rfl ( am_cats_cons rfl ( am_cats_cons rfl (am_cats_nil))))) (Nat.le_of_ble_eq_true rfl) (?_ : am_T _ _ _ _ _ 0 [some (aR b), some (aI i), some (aI t), some (aI there), none] [] (mdW w b c q))
    obtain ⟨vl0, vu0⟩ := MdV_0 hV
    obtain ⟨vl1, vu1⟩ := MdV_1 hV
    obtain ⟨vl3, vu3⟩ := MdV_3 hV
    obtain ⟨vl12, vu12⟩ := MdV_12 hV
    have hp0 := hP9.1
    refine T_aload_n (am_dec tX12_isLet_0 0 rfl) rfl ?_
    refine T_iconst 0 (am_dec tX12_isLet_0 1 rfl) rfl ⟨by decide, by decide⟩ ?_
    refine T_callV (as := [aI 0]) rfl (am_dec tX12_isLet_0 2 rfl) lkX12_503 (md_obj hl) rfl rfl (Nat.le_of_ble_eq_true rfl) (by omega) (mk_lastOf (d := d - 1) hl 0  hP9 ) (fun _ => ?_)
    refine T_nm (fun n2 hn2 => ?_)
    have hs2 := k_lastOf_b hP9 0
    rw [← hn2] at hs2
    refine T_iconst (-1) (am_dec tX12_isLet_0 3 rfl) rfl ⟨by decide, by decide⟩ ?_
    refine T_icmp_ne 11 (am_dec tX12_isLet_0 4 rfl) rfl (fun h6 => ?_) (fun h6 => ?_)
    · refine T_iconst 0 (am_dec tX12_isLet_0 7 rfl) rfl ⟨by decide, by decide⟩ ?_
      refine T_istore (ls' := [some (aR b), some (aI i), some (aI t), some (aI there), some (aI 0)]) (am_dec tX12_isLet_0 8 rfl) (by decide) rfl ?_
      refine L_k_isLet_14 hl c i t there hV hB9 hL hP9 (by omega)  (by omega) 9 0 q (by omega) (by omega) (fun rv_14 q14 hrv_14 hq14 => ?_)
      exact (am_tr (fun (x9 : Int × am_F) => Q (.inl (some (aI (x9.1)))) (mdW w b c x9.2)) (y := (rv_14, q14)) (show (k_isLet c q i t there) = (rv_14, q14) from (by have s9 := hn2.symm; subst s9; have s9 := hrv_14.symm; subst s9; have s9 := hq14.symm; subst s9; exact (if_neg h6))) hQ)
    · refine T_iconst 1 (am_dec tX12_isLet_0 5 rfl) rfl ⟨by decide, by decide⟩ ?_
      exact T_zreturn (am_dec tX12_isLet_0 6 rfl) rfl (by first | exact Or.inl rfl | exact Or.inr rfl | omega) (am_tr (fun (x9 : Int × am_F) => Q (.inl (some (aI (x9.1)))) (mdW w b c x9.2)) (y := (1, q)) (show (k_isLet c q i t there) = (1, q) from (by have s9 := hn2.symm; subst s9; exact (if_pos h6))) hQ)
  exact key _ ⟨rfl, rfl⟩
def k_firstOf (c : am_F) (q : am_F) (i : Int) (t : Int) (there : Int) : Int × am_F := (let n2 : Int := (k_lastOf c 1); (let t6 : Int := (if n2 = (-1) then (c (133 + i.toNat) 2) else (let n23 : Int := (k_lastOf c 1); (let u30 : Int × am_F := k_worth c q n23 i t there there; ((u30).1)))); (let q6 : am_F := (if n2 = (-1) then q else (let n23 : Int := (k_lastOf c 1); (let u30 : Int × am_F := k_worth c q n23 i t there there; ((u30).2)))); (t6, q6))))
theorem mk_firstOf {S : am_S} {d u : Nat} {w : AH} {b : Nat} (hl : b + 735 ≤ w.length) {c : am_F} {q : am_F} (i : Int) (t : Int) (there : Int) (hV : MdV c) (hB9 : MdB c) (hL : MdL c) (hP9 : MdP c) (hbi : 0 ≤ i ∧ i < c 0 30) (hd : 2 ≤ d) : am_Out S zX12_firstOf d u [aR b, aI i, aI t, aI there] (mdW w b c q) (.inl (some (aI ((k_firstOf c q i t there).1)))) (mdW w b c ((k_firstOf c q i t there).2)) := by
  have key : ∀ Q : AO → AH → Prop, Q (.inl (some (aI ((k_firstOf c q i t there).1)))) (mdW w b c ((k_firstOf c q i t there).2)) → am_M S zX12_firstOf d u [aR b, aI i, aI t, aI there] (mdW w b c q) Q := by
    intro Q hQ
    refine am_body rfl (by decide +kernel) rfl (am_cats_cons rfl ( am_cats_cons rfl ( am_cats_cons rfl ( am_cats_cons rfl (am_cats_nil))))) (Nat.le_of_ble_eq_true rfl) (?_ : am_T _ _ _ _ _ 0 [some (aR b), some (aI i), some (aI t), some (aI there)] [] (mdW w b c q))
    obtain ⟨vl0, vu0⟩ := MdV_0 hV
    obtain ⟨vl1, vu1⟩ := MdV_1 hV
    obtain ⟨vl3, vu3⟩ := MdV_3 hV
    obtain ⟨vl12, vu12⟩ := MdV_12 hV
    have bi := hB9 i (by omega) (by omega)
    refine T_aload_n (am_dec tX12_firstOf_0 0 rfl) rfl ?_
    refine T_iconst 1 (am_dec tX12_firstOf_0 1 rfl) rfl ⟨by decide, by decide⟩ ?_
    refine T_callV (as := [aI 1]) rfl (am_dec tX12_firstOf_0 2 rfl) lkX12_503 (md_obj hl) rfl rfl (Nat.le_of_ble_eq_true rfl) (by omega) (mk_lastOf (d := d - 1) hl 1  hP9 ) (fun _ => ?_)
    refine T_nm (fun n2 hn2 => ?_)
    have hs2 := k_lastOf_b hP9 1
    rw [← hn2] at hs2
    refine T_iconst (-1) (am_dec tX12_firstOf_0 3 rfl) rfl ⟨by decide, by decide⟩ ?_
    have K6 : ∀ (t6 : Int), ∀ (q6 : am_F), t6 = (if n2 = (-1) then (c (133 + i.toNat) 2) else (let n23 : Int := (k_lastOf c 1); (let u30 : Int × am_F := k_worth c q n23 i t there there; ((u30).1)))) → q6 = (if n2 = (-1) then q else (let n23 : Int := (k_lastOf c 1); (let u30 : Int × am_F := k_worth c q n23 i t there there; ((u30).2)))) →  am_T S zX12_firstOf d u Q 33 [none, none, none, none] [aI t6] (mdW w b c q6) := by
      intro t6 q6 ht6 hq6
      have hxt6 := ht6
      dsimp only at hxt6
      exact T_ireturn (am_dec tX12_firstOf_0 21 rfl) rfl (am_tr (fun (x9 : Int × am_F) => Q (.inl (some (aI (x9.1)))) (mdW w b c x9.2)) (y := (t6, q6)) (show (k_firstOf c q i t there) = (t6, q6) from (by have s9 := hn2.symm; subst s9; have s9 := ht6.symm; subst s9; have s9 := hq6.symm; subst s9; exact rfl)) hQ)
    refine T_icmp_ne 20 (am_dec tX12_firstOf_0 4 rfl) rfl (fun h6 => ?_) (fun h6 => ?_)
    · refine T_aload_n (am_dec tX12_firstOf_0 12 rfl) rfl ?_
      refine T_aload_n (am_dec tX12_firstOf_0 13 rfl) rfl ?_
      refine T_iconst 1 (am_dec tX12_firstOf_0 14 rfl) rfl ⟨by decide, by decide⟩ ?_
      refine T_callV (as := [aI 1]) rfl (am_dec tX12_firstOf_0 15 rfl) lkX12_503 (md_obj hl) rfl rfl (Nat.le_of_ble_eq_true rfl) (by omega) (mk_lastOf (d := d - 1) hl 1  hP9 ) (fun _ => ?_)
      refine T_nm (fun n23 hn23 => ?_)
      have hs23 := k_lastOf_b hP9 1
      rw [← hn23] at hs23
      refine T_iload_n (am_dec tX12_firstOf_0 16 rfl) rfl ?_
      refine T_iload_n (am_dec tX12_firstOf_0 17 rfl) rfl ?_
      refine T_iload_n (am_dec tX12_firstOf_0 18 rfl) rfl ?_
      refine T_iload_n (am_dec tX12_firstOf_0 19 rfl) rfl ?_
      refine T_callV (as := [aI n23, aI i, aI t, aI there, aI there]) rfl (am_dec tX12_firstOf_0 20 rfl) lkX12_506 (md_obj hl) rfl rfl (Nat.le_of_ble_eq_true rfl) (by omega) (mk_worth (d := d - 1) hl n23 i t there there  hV hB9 hL hP9 (by omega) (by omega) (by omega)) (fun _ => ?_)
      obtain ⟨u30, hu30⟩ : ∃ x9, x9 = k_worth c q n23 i t there there := ⟨_, rfl⟩
      rw [← hu30]
      refine T_weak (ls' := [none, none, none, none]) (am_sub_n (am_sub_n (am_sub_n (am_sub_n am_sub_nil)))) ?_
      exact K6 _ _ (by have s9 := hn23.symm; subst s9; have s9 := hu30.symm; subst s9; exact (if_neg h6).symm) (by have s9 := hn23.symm; subst s9; have s9 := hu30.symm; subst s9; exact (if_neg h6).symm)
    · refine T_aload_n (am_dec tX12_firstOf_0 5 rfl) rfl ?_
      refine T_getfield 11 34 (am_dec tX12_firstOf_0 6 rfl) flX12_82_11 (md_obj hl) rfl ?_
      refine T_iload_n (am_dec tX12_firstOf_0 7 rfl) rfl ?_
      refine T_aaloadR (r := b + (133 + i.toNat)) (am_dec tX12_firstOf_0 8 rfl) (by decide) (mh_bid hl) (by omega) (by omega) (if_pos (by omega)) ?_
      refine T_iconst 2 (am_dec tX12_firstOf_0 9 rfl) rfl ⟨by decide, by decide⟩ ?_
      refine T_ialoadE (x := c (133 + i.toNat) 2) (am_dec tX12_firstOf_0 10 rfl) (mr_bid hl (i := i) (by omega) (by omega)) (by omega) (by omega) rfl ?_
      refine T_goto 33 (am_dec tX12_firstOf_0 11 rfl) rfl ?_
      refine T_weak (ls' := [none, none, none, none]) (am_sub_n (am_sub_n (am_sub_n (am_sub_n am_sub_nil)))) ?_
      exact K6 _ _ (if_pos h6).symm (if_pos h6).symm
  exact key _ ⟨rfl, rfl⟩
