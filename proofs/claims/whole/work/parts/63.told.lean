/-! the model: what is told; images; a rule's worth -/
def am_wr {α β : Type} (f : α → α ⊕ β) (d : β) : Nat → α → β
  | 0, _ => d
  | n + 1, x => match f x with
    | .inl y => am_wr f d n y
    | .inr y => y
theorem am_wr_l {α β : Type} {f : α → α ⊕ β} {d : β} {x y : α} {n : Nat} (h : f x = .inl y) : am_wr f d (n + 1) x = am_wr f d n y := by
  show (match f x with | .inl y => am_wr f d n y | .inr y => y) = _
  rw [h]
theorem am_wr_r {α β : Type} {f : α → α ⊕ β} {d : β} {x : α} {y : β} {n : Nat} (h : f x = .inr y) : am_wr f d (n + 1) x = y := by
  show (match f x with | .inl y => am_wr f d n y | .inr y => y) = _
  rw [h]
def k_fault (c : am_F) (q : am_F) : Int × am_F := ((c 0 3), (am_put q 0 0 0))
theorem mk_fault {S : am_S} {d u : Nat} {w : AH} {b : Nat} (hl : b + 735 ≤ w.length) {c : am_F} {q : am_F}    : am_Out S zX12_fault d u [aR b] (mdW w b c q) (.inl (some (aI ((k_fault c q).1)))) (mdW w b c ((k_fault c q).2)) := by
  have key : ∀ Q : AO → AH → Prop, Q (.inl (some (aI ((k_fault c q).1)))) (mdW w b c ((k_fault c q).2)) → am_M S zX12_fault d u [aR b] (mdW w b c q) Q := by
    intro Q hQ
    refine am_body rfl (by decide +kernel) rfl (am_cats_cons rfl (am_cats_nil)) (Nat.le_of_ble_eq_true rfl) (?_ : am_T _ _ _ _ _ 0 [some (aR b)] [] (mdW w b c q))
    refine T_aload_n (am_dec tX12_fault_0 0 rfl) rfl ?_
    refine T_iconst 0 (am_dec tX12_fault_0 1 rfl) rfl ⟨by decide, by decide⟩ ?_
    refine T_putfield (fs' := mdO b (c 0) (am_up (q 0) 0 0)) 11 0 (am_dec tX12_fault_0 2 rfl) flX12_160_11 rfl rfl rfl trivial (md_obj hl) (Nat.le_of_ble_eq_true rfl) rfl ?_
    refine am_wE (w2 := mdW w b c (am_put q 0 0 0)) (md_fq) ?_
    refine T_aload_n (am_dec tX12_fault_0 3 rfl) rfl ?_
    refine T_getfield 11 3 (am_dec tX12_fault_0 4 rfl) flX12_9_11 (md_obj hl) rfl ?_
    exact T_ireturn (am_dec tX12_fault_0 5 rfl) rfl (am_tr (fun (x9 : Int × am_F) => Q (.inl (some (aI (x9.1)))) (mdW w b c x9.2)) (y := ((c 0 3), (am_put q 0 0 0))) (show (k_fault c q) = ((c 0 3), (am_put q 0 0 0)) from rfl) hQ)
  exact key _ ⟨rfl, rfl⟩
def k_told (c : am_F) (q : am_F) (what : Int) : Int × am_F := (let z10 : Int := (k_in what 0 9); (let t13 : Int := (if z10 = 0 then 1 else 0); (let q23 : am_F := (k_refuse (am_put q 0 0 0) t13 1 2); (let z23 : Int := (if t13 = 0 then 0 else 1); (if z23 = 0 then (let t34 : Int := (if 8 ≤ what then (if what = 8 then (c 0 30) else (c 0 31)) else (c 4 what.toNat)); (t34, q23)) else (0, q23))))))
theorem mk_told {S : am_S} {d u : Nat} {w : AH} {b : Nat} (hl : b + 735 ≤ w.length) {c : am_F} {q : am_F} (what : Int) (hV : MdV c) (hd : 1 ≤ d) : am_Out S zX12_told d u [aR b, aI what] (mdW w b c q) (.inl (some (aI ((k_told c q what).1)))) (mdW w b c ((k_told c q what).2)) := by
  have key : ∀ Q : AO → AH → Prop, Q (.inl (some (aI ((k_told c q what).1)))) (mdW w b c ((k_told c q what).2)) → am_M S zX12_told d u [aR b, aI what] (mdW w b c q) Q := by
    intro Q hQ
    refine am_body rfl (by decide +kernel) rfl (am_cats_cons rfl ( am_cats_cons rfl (am_cats_nil))) (Nat.le_of_ble_eq_true rfl) (?_ : am_T _ _ _ _ _ 0 [some (aR b), some (aI what)] [] (mdW w b c q))
    obtain ⟨vl0, vu0⟩ := MdV_0 hV
    obtain ⟨vl1, vu1⟩ := MdV_1 hV
    obtain ⟨vl3, vu3⟩ := MdV_3 hV
    obtain ⟨vl12, vu12⟩ := MdV_12 hV
    obtain ⟨vl13, vu13⟩ := MdV_13 hV
    refine T_aload_n (am_dec tX12_told_0 0 rfl) rfl ?_
    refine T_iconst 0 (am_dec tX12_told_0 1 rfl) rfl ⟨by decide, by decide⟩ ?_
    refine T_putfield (fs' := mdO b (c 0) (am_up (q 0) 0 0)) 11 0 (am_dec tX12_told_0 2 rfl) flX12_160_11 rfl rfl rfl trivial (md_obj hl) (Nat.le_of_ble_eq_true rfl) rfl ?_
    refine am_wE (w2 := mdW w b c (am_put q 0 0 0)) (md_fq) ?_
    refine T_aload_n (am_dec tX12_told_0 3 rfl) rfl ?_
    refine T_iload_n (am_dec tX12_told_0 4 rfl) rfl ?_
    refine T_iconst 0 (am_dec tX12_told_0 5 rfl) rfl ⟨by decide, by decide⟩ ?_
    refine T_bipush 9 (am_dec tX12_told_0 6 rfl) rfl ⟨by decide, by decide⟩ ?_
    refine T_callS (as := [aI what, aI 0, aI 9]) rfl (am_dec tX12_told_0 7 rfl) lkX12_194 rfl (Nat.le_of_ble_eq_true rfl) (by omega) (mk_in (d := d - 1)  what 0 9   ) (fun _ => ?_)
    refine T_nm (fun z10 hz10 => ?_)
    have hb10 := k_in_b what 0 9
    rw [← hz10] at hb10
    have hs10 := k_in_s what 0 9
    rw [← hz10] at hs10
    have K13 : ∀ (t13 : Int), t13 = (if z10 = 0 then 1 else 0) →  am_T S zX12_told d u Q 21 [some (aR b), some (aI what)] [aI t13, aR b] (mdW w b c (am_put q 0 0 0)) := by
      intro t13 ht13
      have hbt13 : t13 = 0 ∨ t13 = 1 := by
        rw [ht13]
        try dsimp only
        repeat' split
        all_goals first | exact Or.inl rfl | exact Or.inr rfl | apply k_in_b | apply k_isDigit_b | apply k_isSmall_b | apply k_bad_b | apply k_isIn_b | apply k_isStep_b | apply k_isFirst_b | apply k_isLine_b | apply k_seesBy_b | apply k_isWalker_b | apply k_seesOne_b | apply k_badTwo_b | apply k_sees_b | apply k_isCode_b | apply k_isLot_b | apply k_isShip_b | apply k_areRight_b | apply k_right_b | apply k_areSeeds_b | omega
      refine T_iconst 1 (am_dec tX12_told_0 12 rfl) rfl ⟨by decide, by decide⟩ ?_
      refine T_iconst 2 (am_dec tX12_told_0 13 rfl) rfl ⟨by decide, by decide⟩ ?_
      refine T_callV (as := [aI t13, aI 1, aI 2]) rfl (am_dec tX12_told_0 14 rfl) lkX12_275 (md_obj hl) rfl rfl (Nat.le_of_ble_eq_true rfl) (by omega) (mk_bad0 (d := d - 1) hl t13 1 2 (by omega) am_put_s (by omega)) (fun _ => ?_)
      refine T_nmH (W := fun x9 => mdW w b c x9) (v := (k_refuse (am_put q 0 0 0) t13 1 2)) (fun q23 hq23 => ?_)
      refine T_nm (fun z23 hz23 => ?_)
      have hq023 : t13 = 0 → q23 0 0 = 0 := fun h9 => by rw [hq23]; exact k_refuse_0 am_put_s h9
      refine T_if_eq 31 (am_dec tX12_told_0 15 rfl) rfl (fun h26 => ?_) (fun h26 => ?_)
      · refine T_iload_n (am_dec tX12_told_0 18 rfl) rfl ?_
        refine T_bipush 8 (am_dec tX12_told_0 19 rfl) rfl ⟨by decide, by decide⟩ ?_
        have K34 : ∀ (t34 : Int), t34 = (if 8 ≤ what then (if what = 8 then (c 0 30) else (c 0 31)) else (c 4 what.toNat)) →  am_T S zX12_told d u Q 63 [none, none] [aI t34] (mdW w b c q23) := by
          intro t34 ht34
          exact T_ireturn (am_dec tX12_told_0 34 rfl) rfl (am_tr (fun (x9 : Int × am_F) => Q (.inl (some (aI (x9.1)))) (mdW w b c x9.2)) (y := (t34, q23)) (show (k_told c q what) = (t34, q23) from (by have s9 := hz10.symm; subst s9; have s9 := ht13.symm; subst s9; have s9 := hq23.symm; subst s9; have s9 := hz23.symm; subst s9; have s9 := ht34.symm; subst s9; exact (if_pos h26))) hQ)
        refine T_icmp_ge 46 (am_dec tX12_told_0 20 rfl) rfl (fun h34 => ?_) (fun h34 => ?_)
        · refine T_iload_n (am_dec tX12_told_0 26 rfl) rfl ?_
          refine T_bipush 8 (am_dec tX12_told_0 27 rfl) rfl ⟨by decide, by decide⟩ ?_
          have K49 : ∀ (t49 : Int), t49 = (if what = 8 then (c 0 30) else (c 0 31)) →  am_T S zX12_told d u Q 63 [none, none] [aI t49] (mdW w b c q23) := by
            intro t49 ht49
            exact K34 _ (by have s9 := ht49.symm; subst s9; exact (if_pos h34).symm)
          refine T_icmp_ne 59 (am_dec tX12_told_0 28 rfl) rfl (fun h49 => ?_) (fun h49 => ?_)
          · refine T_aload_n (am_dec tX12_told_0 32 rfl) rfl ?_
            refine T_getfield 11 31 (am_dec tX12_told_0 33 rfl) flX12_295_11 (md_obj hl) rfl ?_
            refine T_weak (ls' := [none, none]) (am_sub_n (am_sub_n am_sub_nil)) ?_
            exact K49 _ (if_neg h49).symm
          · refine T_aload_n (am_dec tX12_told_0 29 rfl) rfl ?_
            refine T_getfield 11 30 (am_dec tX12_told_0 30 rfl) flX12_292_11 (md_obj hl) rfl ?_
            refine T_goto 63 (am_dec tX12_told_0 31 rfl) rfl ?_
            refine T_weak (ls' := [none, none]) (am_sub_n (am_sub_n am_sub_nil)) ?_
            exact K49 _ (if_pos h49).symm
        · refine T_aload_n (am_dec tX12_told_0 21 rfl) rfl ?_
          refine T_getfield 11 11 (am_dec tX12_told_0 22 rfl) flX12_23_11 (md_obj hl) rfl ?_
          refine T_iload_n (am_dec tX12_told_0 23 rfl) rfl ?_
          refine T_ialoadE (x := c 4 what.toNat) (am_dec tX12_told_0 24 rfl) (md_told hl) (by omega) (by omega) rfl ?_
          refine T_goto 63 (am_dec tX12_told_0 25 rfl) rfl ?_
          refine T_weak (ls' := [none, none]) (am_sub_n (am_sub_n am_sub_nil)) ?_
          exact K34 _ (if_neg h34).symm
      · refine T_iconst 0 (am_dec tX12_told_0 16 rfl) rfl ⟨by decide, by decide⟩ ?_
        exact T_ireturn (am_dec tX12_told_0 17 rfl) rfl (am_tr (fun (x9 : Int × am_F) => Q (.inl (some (aI (x9.1)))) (mdW w b c x9.2)) (y := (0, q23)) (show (k_told c q what) = (0, q23) from (by have s9 := hz10.symm; subst s9; have s9 := ht13.symm; subst s9; have s9 := hq23.symm; subst s9; have s9 := hz23.symm; subst s9; exact (if_neg h26))) hQ)
    refine T_if_ne 20 (am_dec tX12_told_0 8 rfl) rfl (fun h13 => ?_) (fun h13 => ?_)
    · refine T_iconst 0 (am_dec tX12_told_0 11 rfl) rfl ⟨by decide, by decide⟩ ?_
      exact K13 _ (if_neg h13).symm
    · refine T_iconst 1 (am_dec tX12_told_0 9 rfl) rfl ⟨by decide, by decide⟩ ?_
      refine T_goto 21 (am_dec tX12_told_0 10 rfl) rfl ?_
      exact K13 _ (if_pos h13).symm
  exact key _ ⟨rfl, rfl⟩
def k_status (q : am_F) (what : Int) : Int × am_F := (let z8 : Int := (k_in what 0 2); (let t11 : Int := (if z8 = 0 then (-1) else (q 2 what.toNat)); (t11, (am_put q 0 0 0))))
theorem mk_status {S : am_S} {d u : Nat} {w : AH} {b : Nat} (hl : b + 735 ≤ w.length) {c : am_F} {q : am_F} (what : Int)  (hd : 1 ≤ d) : am_Out S zX12_status d u [aR b, aI what] (mdW w b c q) (.inl (some (aI ((k_status q what).1)))) (mdW w b c ((k_status q what).2)) := by
  have key : ∀ Q : AO → AH → Prop, Q (.inl (some (aI ((k_status q what).1)))) (mdW w b c ((k_status q what).2)) → am_M S zX12_status d u [aR b, aI what] (mdW w b c q) Q := by
    intro Q hQ
    refine am_body rfl (by decide +kernel) rfl (am_cats_cons rfl ( am_cats_cons rfl (am_cats_nil))) (Nat.le_of_ble_eq_true rfl) (?_ : am_T _ _ _ _ _ 0 [some (aR b), some (aI what)] [] (mdW w b c q))
    refine T_aload_n (am_dec tX12_status_0 0 rfl) rfl ?_
    refine T_iconst 0 (am_dec tX12_status_0 1 rfl) rfl ⟨by decide, by decide⟩ ?_
    refine T_putfield (fs' := mdO b (c 0) (am_up (q 0) 0 0)) 11 0 (am_dec tX12_status_0 2 rfl) flX12_160_11 rfl rfl rfl trivial (md_obj hl) (Nat.le_of_ble_eq_true rfl) rfl ?_
    refine am_wE (w2 := mdW w b c (am_put q 0 0 0)) (md_fq) ?_
    refine T_iload_n (am_dec tX12_status_0 3 rfl) rfl ?_
    refine T_iconst 0 (am_dec tX12_status_0 4 rfl) rfl ⟨by decide, by decide⟩ ?_
    refine T_iconst 2 (am_dec tX12_status_0 5 rfl) rfl ⟨by decide, by decide⟩ ?_
    refine T_callS (as := [aI what, aI 0, aI 2]) rfl (am_dec tX12_status_0 6 rfl) lkX12_194 rfl (Nat.le_of_ble_eq_true rfl) (by omega) (mk_in (d := d - 1)  what 0 2   ) (fun _ => ?_)
    refine T_nm (fun z8 hz8 => ?_)
    have hb8 := k_in_b what 0 2
    rw [← hz8] at hb8
    have hs8 := k_in_s what 0 2
    rw [← hz8] at hs8
    have K11 : ∀ (t11 : Int), t11 = (if z8 = 0 then (-1) else (q 2 what.toNat)) →  am_T S zX12_status d u Q 24 [none, none] [aI t11] (mdW w b c (am_put q 0 0 0)) := by
      intro t11 ht11
      exact T_ireturn (am_dec tX12_status_0 14 rfl) rfl (am_tr (fun (x9 : Int × am_F) => Q (.inl (some (aI (x9.1)))) (mdW w b c x9.2)) (y := (t11, (am_put q 0 0 0))) (show (k_status q what) = (t11, (am_put q 0 0 0)) from (by have s9 := hz8.symm; subst s9; have s9 := ht11.symm; subst s9; exact rfl)) hQ)
    refine T_if_eq 23 (am_dec tX12_status_0 7 rfl) rfl (fun h11 => ?_) (fun h11 => ?_)
    · refine T_iconst (-1) (am_dec tX12_status_0 13 rfl) rfl ⟨by decide, by decide⟩ ?_
      refine T_weak (ls' := [none, none]) (am_sub_n (am_sub_n am_sub_nil)) ?_
      exact K11 _ (if_pos h11).symm
    · refine T_aload_n (am_dec tX12_status_0 8 rfl) rfl ?_
      refine T_getfield 11 9 (am_dec tX12_status_0 9 rfl) flX12_17_11 (md_obj hl) rfl ?_
      refine T_iload_n (am_dec tX12_status_0 10 rfl) rfl ?_
      refine T_ialoadE (x := q 2 what.toNat) (am_dec tX12_status_0 11 rfl) (md_refused hl) (by omega) (by omega) (am_put_k (by decide)) ?_
      refine T_goto 24 (am_dec tX12_status_0 12 rfl) rfl ?_
      refine T_weak (ls' := [none, none]) (am_sub_n (am_sub_n am_sub_nil)) ?_
      exact K11 _ (if_neg h11).symm
  exact key _ ⟨rfl, rfl⟩
def k_count (c : am_F) (q : am_F) (what : Int) : Int × am_F := (let t6 : Int := (if what = 0 then (c 0 32) else (if what = 1 then (c 0 1) else (-1))); (t6, (am_put q 0 0 0)))
theorem mk_count {S : am_S} {d u : Nat} {w : AH} {b : Nat} (hl : b + 735 ≤ w.length) {c : am_F} {q : am_F} (what : Int)   : am_Out S zX12_count d u [aR b, aI what] (mdW w b c q) (.inl (some (aI ((k_count c q what).1)))) (mdW w b c ((k_count c q what).2)) := by
  have key : ∀ Q : AO → AH → Prop, Q (.inl (some (aI ((k_count c q what).1)))) (mdW w b c ((k_count c q what).2)) → am_M S zX12_count d u [aR b, aI what] (mdW w b c q) Q := by
    intro Q hQ
    refine am_body rfl (by decide +kernel) rfl (am_cats_cons rfl ( am_cats_cons rfl (am_cats_nil))) (Nat.le_of_ble_eq_true rfl) (?_ : am_T _ _ _ _ _ 0 [some (aR b), some (aI what)] [] (mdW w b c q))
    refine T_aload_n (am_dec tX12_count_0 0 rfl) rfl ?_
    refine T_iconst 0 (am_dec tX12_count_0 1 rfl) rfl ⟨by decide, by decide⟩ ?_
    refine T_putfield (fs' := mdO b (c 0) (am_up (q 0) 0 0)) 11 0 (am_dec tX12_count_0 2 rfl) flX12_160_11 rfl rfl rfl trivial (md_obj hl) (Nat.le_of_ble_eq_true rfl) rfl ?_
    refine am_wE (w2 := mdW w b c (am_put q 0 0 0)) (md_fq) ?_
    refine T_iload_n (am_dec tX12_count_0 3 rfl) rfl ?_
    have K6 : ∀ (t6 : Int), t6 = (if what = 0 then (c 0 32) else (if what = 1 then (c 0 1) else (-1))) →  am_T S zX12_count d u Q 29 [none, none] [aI t6] (mdW w b c (am_put q 0 0 0)) := by
      intro t6 ht6
      exact T_ireturn (am_dec tX12_count_0 15 rfl) rfl (am_tr (fun (x9 : Int × am_F) => Q (.inl (some (aI (x9.1)))) (mdW w b c x9.2)) (y := (t6, (am_put q 0 0 0))) (show (k_count c q what) = (t6, (am_put q 0 0 0)) from (by have s9 := ht6.symm; subst s9; exact rfl)) hQ)
    refine T_if_ne 16 (am_dec tX12_count_0 4 rfl) rfl (fun h6 => ?_) (fun h6 => ?_)
    · refine T_iload_n (am_dec tX12_count_0 8 rfl) rfl ?_
      refine T_iconst 1 (am_dec tX12_count_0 9 rfl) rfl ⟨by decide, by decide⟩ ?_
      have K18 : ∀ (t18 : Int), t18 = (if what = 1 then (c 0 1) else (-1)) →  am_T S zX12_count d u Q 29 [none, none] [aI t18] (mdW w b c (am_put q 0 0 0)) := by
        intro t18 ht18
        exact K6 _ (by have s9 := ht18.symm; subst s9; exact (if_neg h6).symm)
      refine T_icmp_ne 28 (am_dec tX12_count_0 10 rfl) rfl (fun h18 => ?_) (fun h18 => ?_)
      · refine T_iconst (-1) (am_dec tX12_count_0 14 rfl) rfl ⟨by decide, by decide⟩ ?_
        refine T_weak (ls' := [none, none]) (am_sub_n (am_sub_n am_sub_nil)) ?_
        exact K18 _ (if_neg h18).symm
      · refine T_aload_n (am_dec tX12_count_0 11 rfl) rfl ?_
        refine T_getfield 11 1 (am_dec tX12_count_0 12 rfl) flX12_163_11 (md_obj hl) rfl ?_
        refine T_goto 29 (am_dec tX12_count_0 13 rfl) rfl ?_
        refine T_weak (ls' := [none, none]) (am_sub_n (am_sub_n am_sub_nil)) ?_
        exact K18 _ (if_pos h18).symm
    · refine T_aload_n (am_dec tX12_count_0 5 rfl) rfl ?_
      refine T_getfield 11 32 (am_dec tX12_count_0 6 rfl) flX12_298_11 (md_obj hl) rfl ?_
      refine T_goto 29 (am_dec tX12_count_0 7 rfl) rfl ?_
      refine T_weak (ls' := [none, none]) (am_sub_n (am_sub_n am_sub_nil)) ?_
      exact K6 _ (if_pos h6).symm
  exact key _ ⟨rfl, rfl⟩
def g_k_feed_23 (fa : Int) (fb : Int) (fc : Int) (fd : Int) (fe : Int) (k : Int) (c : am_F) : am_F := (let t33 : Int := (if 4 ≤ k then (if 8 ≤ k then (if 12 ≤ k then (if 16 ≤ k then fe else fd) else fc) else fb) else fa); (am_put (am_put c 1 ((c 0 1).toNat) (am_iand (am_ishr t33 (24 - (8 * (k % 4)))) 255)) 0 1 ((c 0 1) + 1)))
theorem L_k_feed_23 {S : am_S} {d u : Nat} {Q : AO → AH → Prop} {w : AH} {b : Nat} (hl : b + 735 ≤ w.length) (q : am_F) (fa : Int) (fb : Int) (fc : Int) (fd : Int) (fe : Int) (c0 : am_F) (htp : 0 ≤ c0 0 1 ∧ c0 0 1 ≤ 600) (h58 : c0 0 1 + 20 ≤ 600)  (B9 : Int) (hB : B9 = 20) : ∀ (n : Nat) (k : Int) (c : am_F), k + n = B9 → 0 ≤ k → c 0 1 = c0 0 1 + k → (∀ (c' : am_F), c' = am_fold (g_k_feed_23 fa fb fc fd fe) k n c → c' 0 1 = c0 0 1 + B9 → am_T S zX12_feed d u Q 120 [some (aR b), none, none, none, none, none, none, none] [] (mdW w b c' q)) → am_T S zX12_feed d u Q 23 [some (aR b), some (aI fa), some (aI fb), some (aI fc), some (aI fd), some (aI fe), some (aI k), none] [] (mdW w b c q) := by
  intro n
  induction n with
  | zero =>
    intro k c hi9 h0i hinv k9
    have e9 : k = B9 := by omega
    subst e9
    refine T_iload (am_dec tX12_feed_0 13 rfl) rfl ?_
    refine T_bipush 20 (am_dec tX12_feed_0 14 rfl) rfl ⟨by decide, by decide⟩ ?_
    refine T_icmp_ge 120 (am_dec tX12_feed_0 15 rfl) rfl (fun h27 => ?_) (fun h27 => by exfalso; omega)
    refine T_weak (ls' := [some (aR b), none, none, none, none, none, none, none]) (am_sub_s (am_sub_n (am_sub_n (am_sub_n (am_sub_n (am_sub_n (am_sub_n (am_sub_n am_sub_nil)))))))) ?_
    exact k9 c rfl hinv
  | succ n ih =>
    intro k c hi9 h0i hinv k9
    refine T_iload (am_dec tX12_feed_0 13 rfl) rfl ?_
    refine T_bipush 20 (am_dec tX12_feed_0 14 rfl) rfl ⟨by decide, by decide⟩ ?_
    refine T_icmp_ge 120 (am_dec tX12_feed_0 15 rfl) rfl (fun h27 => by exfalso; omega) (fun h27 => ?_)
    refine T_iload (am_dec tX12_feed_0 16 rfl) rfl ?_
    refine T_iconst 4 (am_dec tX12_feed_0 17 rfl) rfl ⟨by decide, by decide⟩ ?_
    have K33 : ∀ (t33 : Int), t33 = (if 4 ≤ k then (if 8 ≤ k then (if 12 ≤ k then (if 16 ≤ k then fe else fd) else fc) else fb) else fa) →  am_T S zX12_feed d u Q 76 [some (aR b), some (aI fa), some (aI fb), some (aI fc), some (aI fd), some (aI fe), some (aI k), none] [aI t33] (mdW w b c q) := by
      intro t33 ht33
      refine T_istore (ls' := [some (aR b), some (aI fa), some (aI fb), some (aI fc), some (aI fd), some (aI fe), some (aI k), some (aI t33)]) (am_dec tX12_feed_0 37 rfl) (by decide) rfl ?_
      refine T_aload_n (am_dec tX12_feed_0 38 rfl) rfl ?_
      refine T_getfield 11 8 (am_dec tX12_feed_0 39 rfl) flX12_13_11 (md_obj hl) rfl ?_
      refine T_aload_n (am_dec tX12_feed_1 0 rfl) rfl ?_
      refine T_getfield 11 1 (am_dec tX12_feed_1 1 rfl) flX12_163_11 (md_obj hl) rfl ?_
      refine T_iload (am_dec tX12_feed_1 2 rfl) rfl ?_
      refine T_bipush 24 (am_dec tX12_feed_1 3 rfl) rfl ⟨by decide, by decide⟩ ?_
      refine T_bipush 8 (am_dec tX12_feed_1 4 rfl) rfl ⟨by decide, by decide⟩ ?_
      refine T_iload (am_dec tX12_feed_1 5 rfl) rfl ?_
      refine T_iconst 4 (am_dec tX12_feed_1 6 rfl) rfl ⟨by decide, by decide⟩ ?_
      refine T_irem (k % 4) (am_dec tX12_feed_1 7 rfl) (by omega) (am_tm (by omega)) ⟨by omega, by omega⟩ ?_
      refine T_imul (8 * (k % 4)) (am_dec tX12_feed_1 8 rfl) rfl ⟨by omega, by omega⟩ ?_
      refine T_isub (24 - (8 * (k % 4))) (am_dec tX12_feed_1 9 rfl) rfl ⟨by omega, by omega⟩ ?_
      refine T_ishr (am_ishr t33 (24 - (8 * (k % 4)))) (am_dec tX12_feed_1 10 rfl) (am_w32e _).symm (am_w32r _) ?_
      refine T_sipush 255 (am_dec tX12_feed_1 11 rfl) rfl ⟨by decide, by decide⟩ ?_
      refine T_iand (am_iand (am_ishr t33 (24 - (8 * (k % 4)))) 255) (am_dec tX12_feed_1 12 rfl) (am_w32e _).symm (am_w32r _) ?_
      refine T_iastore (am_dec tX12_feed_1 13 rfl) (md_fed hl) (by omega) (by omega) ?_
      refine am_wE (w2 := mdW w b (am_put c 1 ((c 0 1).toNat) (am_iand (am_ishr t33 (24 - (8 * (k % 4)))) 255)) q) (md_pc (Nat.le_of_ble_eq_true rfl) (fun _ _ => rfl)) ?_
      refine T_aload_n (am_dec tX12_feed_1 14 rfl) rfl ?_
      refine T_dup (am_dec tX12_feed_1 15 rfl) rfl ?_
      refine T_getfield 11 1 (am_dec tX12_feed_1 16 rfl) flX12_163_11 (md_obj hl) rfl ?_
      refine T_iconst 1 (am_dec tX12_feed_1 17 rfl) rfl ⟨by decide, by decide⟩ ?_
      refine T_iadd ((c 0 1) + 1) (am_dec tX12_feed_1 18 rfl) rfl ⟨by omega, by omega⟩ ?_
      refine T_putfield (fs' := mdO b (am_up ((am_put c 1 ((c 0 1).toNat) (am_iand (am_ishr t33 (24 - (8 * (k % 4)))) 255)) 0) 1 ((c 0 1) + 1)) (q 0)) 11 1 (am_dec tX12_feed_1 19 rfl) flX12_163_11 rfl rfl rfl trivial (md_obj hl) (Nat.le_of_ble_eq_true rfl) rfl ?_
      refine am_wE (w2 := mdW w b (am_put (am_put c 1 ((c 0 1).toNat) (am_iand (am_ishr t33 (24 - (8 * (k % 4)))) 255)) 0 1 ((c 0 1) + 1)) q) (md_fc) ?_
      refine T_iinc (ls' := [some (aR b), some (aI fa), some (aI fb), some (aI fc), some (aI fd), some (aI fe), some (aI (k + 1)), some (aI t33)]) (k + 1) (am_dec tX12_feed_1 20 rfl) rfl rfl ⟨by omega, by omega⟩ (by decide) rfl ?_
      refine T_goto 23 (am_dec tX12_feed_1 21 rfl) rfl ?_
      refine T_weak (ls' := [some (aR b), some (aI fa), some (aI fb), some (aI fc), some (aI fd), some (aI fe), some (aI (k + 1)), none]) (am_sub_s (am_sub_s (am_sub_s (am_sub_s (am_sub_s (am_sub_s (am_sub_s (am_sub_n am_sub_nil)))))))) ?_
      have e9 : (g_k_feed_23 fa fb fc fd fe) k c = (am_put (am_put c 1 ((c 0 1).toNat) (am_iand (am_ishr t33 (24 - (8 * (k % 4)))) 255)) 0 1 ((c 0 1) + 1)) := (by have s9 := ht33.symm; subst s9; exact rfl)
      simp only [am_fold_s, e9] at k9
      exact ih (k + 1) (am_put (am_put c 1 ((c 0 1).toNat) (am_iand (am_ishr t33 (24 - (8 * (k % 4)))) 255)) 0 1 ((c 0 1) + 1)) (by omega) (by omega) (by rw [am_put_s]; omega) k9
    refine T_icmp_ge 40 (am_dec tX12_feed_0 18 rfl) rfl (fun h33 => ?_) (fun h33 => ?_)
    · refine T_iload (am_dec tX12_feed_0 21 rfl) rfl ?_
      refine T_bipush 8 (am_dec tX12_feed_0 22 rfl) rfl ⟨by decide, by decide⟩ ?_
      have K44 : ∀ (t44 : Int), t44 = (if 8 ≤ k then (if 12 ≤ k then (if 16 ≤ k then fe else fd) else fc) else fb) →  am_T S zX12_feed d u Q 76 [some (aR b), some (aI fa), some (aI fb), some (aI fc), some (aI fd), some (aI fe), some (aI k), none] [aI t44] (mdW w b c q) := by
        intro t44 ht44
        exact K33 _ (by have s9 := ht44.symm; subst s9; exact (if_pos h33).symm)
      refine T_icmp_ge 51 (am_dec tX12_feed_0 23 rfl) rfl (fun h44 => ?_) (fun h44 => ?_)
      · refine T_iload (am_dec tX12_feed_0 26 rfl) rfl ?_
        refine T_bipush 12 (am_dec tX12_feed_0 27 rfl) rfl ⟨by decide, by decide⟩ ?_
        have K55 : ∀ (t55 : Int), t55 = (if 12 ≤ k then (if 16 ≤ k then fe else fd) else fc) →  am_T S zX12_feed d u Q 76 [some (aR b), some (aI fa), some (aI fb), some (aI fc), some (aI fd), some (aI fe), some (aI k), none] [aI t55] (mdW w b c q) := by
          intro t55 ht55
          exact K44 _ (by have s9 := ht55.symm; subst s9; exact (if_pos h44).symm)
        refine T_icmp_ge 62 (am_dec tX12_feed_0 28 rfl) rfl (fun h55 => ?_) (fun h55 => ?_)
        · refine T_iload (am_dec tX12_feed_0 31 rfl) rfl ?_
          refine T_bipush 16 (am_dec tX12_feed_0 32 rfl) rfl ⟨by decide, by decide⟩ ?_
          have K66 : ∀ (t66 : Int), t66 = (if 16 ≤ k then fe else fd) →  am_T S zX12_feed d u Q 76 [some (aR b), some (aI fa), some (aI fb), some (aI fc), some (aI fd), some (aI fe), some (aI k), none] [aI t66] (mdW w b c q) := by
            intro t66 ht66
            exact K55 _ (by have s9 := ht66.symm; subst s9; exact (if_pos h55).symm)
          refine T_icmp_ge 74 (am_dec tX12_feed_0 33 rfl) rfl (fun h66 => ?_) (fun h66 => ?_)
          · refine T_iload (am_dec tX12_feed_0 36 rfl) rfl ?_
            exact K66 _ (if_pos h66).symm
          · refine T_iload (am_dec tX12_feed_0 34 rfl) rfl ?_
            refine T_goto 76 (am_dec tX12_feed_0 35 rfl) rfl ?_
            exact K66 _ (if_neg h66).symm
        · refine T_iload_n (am_dec tX12_feed_0 29 rfl) rfl ?_
          refine T_goto 76 (am_dec tX12_feed_0 30 rfl) rfl ?_
          exact K55 _ (if_neg h55).symm
      · refine T_iload_n (am_dec tX12_feed_0 24 rfl) rfl ?_
        refine T_goto 76 (am_dec tX12_feed_0 25 rfl) rfl ?_
        exact K44 _ (if_neg h44).symm
    · refine T_iload_n (am_dec tX12_feed_0 19 rfl) rfl ?_
      refine T_goto 76 (am_dec tX12_feed_0 20 rfl) rfl ?_
      exact K33 _ (if_neg h33).symm
def k_feed (c : am_F) (q : am_F) (fa : Int) (fb : Int) (fc : Int) (fd : Int) (fe : Int) : Int × am_F × am_F := (if (c 0 1) + 20 ≤ 600 then (let c23 : am_F := am_fold (g_k_feed_23 fa fb fc fd fe) 0 20 c; ((c23 0 1), c23, (am_put q 0 0 0))) else ((-1), c, (am_put q 0 0 0)))
theorem mk_feed {S : am_S} {d u : Nat} {w : AH} {b : Nat} (hl : b + 735 ≤ w.length) {c : am_F} {q : am_F} (fa : Int) (fb : Int) (fc : Int) (fd : Int) (fe : Int) (htp : 0 ≤ c 0 1 ∧ c 0 1 ≤ 600)  : am_Out S zX12_feed d u [aR b, aI fa, aI fb, aI fc, aI fd, aI fe] (mdW w b c q) (.inl (some (aI ((k_feed c q fa fb fc fd fe).1)))) (mdW w b ((k_feed c q fa fb fc fd fe).2.1) ((k_feed c q fa fb fc fd fe).2.2)) := by
  have key : ∀ Q : AO → AH → Prop, Q (.inl (some (aI ((k_feed c q fa fb fc fd fe).1)))) (mdW w b ((k_feed c q fa fb fc fd fe).2.1) ((k_feed c q fa fb fc fd fe).2.2)) → am_M S zX12_feed d u [aR b, aI fa, aI fb, aI fc, aI fd, aI fe] (mdW w b c q) Q := by
    intro Q hQ
    refine am_body rfl (by decide +kernel) rfl (am_cats_cons rfl ( am_cats_cons rfl ( am_cats_cons rfl ( am_cats_cons rfl ( am_cats_cons rfl ( am_cats_cons rfl (am_cats_nil))))))) (Nat.le_of_ble_eq_true rfl) (?_ : am_T _ _ _ _ _ 0 [some (aR b), some (aI fa), some (aI fb), some (aI fc), some (aI fd), some (aI fe), none, none] [] (mdW w b c q))
    refine T_aload_n (am_dec tX12_feed_0 0 rfl) rfl ?_
    refine T_iconst 0 (am_dec tX12_feed_0 1 rfl) rfl ⟨by decide, by decide⟩ ?_
    refine T_putfield (fs' := mdO b (c 0) (am_up (q 0) 0 0)) 11 0 (am_dec tX12_feed_0 2 rfl) flX12_160_11 rfl rfl rfl trivial (md_obj hl) (Nat.le_of_ble_eq_true rfl) rfl ?_
    refine am_wE (w2 := mdW w b c (am_put q 0 0 0)) (md_fq) ?_
    refine T_aload_n (am_dec tX12_feed_0 3 rfl) rfl ?_
    refine T_getfield 11 1 (am_dec tX12_feed_0 4 rfl) flX12_163_11 (md_obj hl) rfl ?_
    refine T_bipush 20 (am_dec tX12_feed_0 5 rfl) rfl ⟨by decide, by decide⟩ ?_
    refine T_iadd ((c 0 1) + 20) (am_dec tX12_feed_0 6 rfl) rfl ⟨by omega, by omega⟩ ?_
    refine T_sipush 600 (am_dec tX12_feed_0 7 rfl) rfl ⟨by decide, by decide⟩ ?_
    refine T_icmp_le 20 (am_dec tX12_feed_0 8 rfl) rfl (fun h15 => ?_) (fun h15 => ?_)
    · refine T_iconst 0 (am_dec tX12_feed_0 11 rfl) rfl ⟨by decide, by decide⟩ ?_
      refine T_istore (ls' := [some (aR b), some (aI fa), some (aI fb), some (aI fc), some (aI fd), some (aI fe), some (aI 0), none]) (am_dec tX12_feed_0 12 rfl) (by decide) rfl ?_
      refine L_k_feed_23 hl (am_put q 0 0 0) fa fb fc fd fe c htp (by omega)  _ rfl 20 0 c (by omega) (by omega) (by omega) (fun c23 hc23 hv23 => ?_)
      refine T_aload_n (am_dec tX12_feed_1 22 rfl) rfl ?_
      refine T_getfield 11 1 (am_dec tX12_feed_1 23 rfl) flX12_163_11 (md_obj hl) rfl ?_
      exact T_ireturn (am_dec tX12_feed_1 24 rfl) rfl (am_tr (fun (x9 : Int × am_F × am_F) => Q (.inl (some (aI (x9.1)))) (mdW w b x9.2.1 x9.2.2)) (y := ((c23 0 1), c23, (am_put q 0 0 0))) (show (k_feed c q fa fb fc fd fe) = ((c23 0 1), c23, (am_put q 0 0 0)) from (by have s9 := hc23.symm; subst s9; exact (if_pos h15))) hQ)
    · refine T_iconst (-1) (am_dec tX12_feed_0 9 rfl) rfl ⟨by decide, by decide⟩ ?_
      exact T_ireturn (am_dec tX12_feed_0 10 rfl) rfl (am_tr (fun (x9 : Int × am_F × am_F) => Q (.inl (some (aI (x9.1)))) (mdW w b x9.2.1 x9.2.2)) (y := ((-1), c, (am_put q 0 0 0))) (show (k_feed c q fa fb fc fd fe) = ((-1), c, (am_put q 0 0 0)) from (if_neg h15)) hQ)
  exact key _ ⟨rfl, rfl⟩
def k_moves (c : am_F) (mv : Int) (bk : Int) (k : Int) : Int × am_F := (let c1 : am_F := (if bk = 0 then (am_put c (155 + k.toNat) ((c 0 33).toNat) mv) else c); ((c1 (155 + k.toNat) ((((c1 0 33) + 1) - 1).toNat)), (am_put c1 0 33 ((c1 0 33) + 1))))
theorem mk_moves {S : am_S} {d u : Nat} {w : AH} {b : Nat} (hl : b + 735 ≤ w.length) {c : am_F} {q : am_F} (mv : Int) (bk : Int) (k : Int) (hk : 0 ≤ k ∧ k < 3) (hsp : 0 ≤ c 0 33 ∧ c 0 33 < 143)  : am_Out S zX12_moves d u [aR b, aR (b + (155 + k.toNat)), aI mv, aI bk] (mdW w b c q) (.inl (some (aI ((k_moves c mv bk k).1)))) (mdW w b ((k_moves c mv bk k).2) q) := by
  have key : ∀ Q : AO → AH → Prop, Q (.inl (some (aI ((k_moves c mv bk k).1)))) (mdW w b ((k_moves c mv bk k).2) q) → am_M S zX12_moves d u [aR b, aR (b + (155 + k.toNat)), aI mv, aI bk] (mdW w b c q) Q := by
    intro Q hQ
    refine am_body rfl (by decide +kernel) rfl (am_cats_cons rfl ( am_cats_cons rfl ( am_cats_cons rfl ( am_cats_cons rfl (am_cats_nil))))) (Nat.le_of_ble_eq_true rfl) (?_ : am_T _ _ _ _ _ 0 [some (aR b), some (aR (b + (155 + k.toNat))), some (aI mv), some (aI bk)] [] (mdW w b c q))
    refine T_iload_n (am_dec tX12_moves_0 0 rfl) rfl ?_
    have K1 : ∀ (c1 : am_F), c1 = (if bk = 0 then (am_put c (155 + k.toNat) ((c 0 33).toNat) mv) else c) →  am_T S zX12_moves d u Q 11 [some (aR b), some (aR (b + (155 + k.toNat))), none, none] [] (mdW w b c1 q) := by
      intro c1 hc1
      refine T_aload_n (am_dec tX12_moves_0 7 rfl) rfl ?_
      have e33 : c1 0 33 = c 0 33 := by
        rw [hc1]
        split
        · exact am_put_k (by omega)
        · rfl
      refine T_dup (am_dec tX12_moves_0 8 rfl) rfl ?_
      refine T_getfield 11 33 (am_dec tX12_moves_0 9 rfl) flX12_521_11 (md_obj hl) rfl ?_
      refine T_iconst 1 (am_dec tX12_moves_0 10 rfl) rfl ⟨by decide, by decide⟩ ?_
      refine T_iadd ((c1 0 33) + 1) (am_dec tX12_moves_0 11 rfl) rfl ⟨by omega, by omega⟩ ?_
      refine T_putfield (fs' := mdO b (am_up (c1 0) 33 ((c1 0 33) + 1)) (q 0)) 11 33 (am_dec tX12_moves_0 12 rfl) flX12_521_11 rfl rfl rfl trivial (md_obj hl) (Nat.le_of_ble_eq_true rfl) rfl ?_
      refine am_wE (w2 := mdW w b (am_put c1 0 33 ((c1 0 33) + 1)) q) (md_fc) ?_
      refine T_aload_n (am_dec tX12_moves_0 13 rfl) rfl ?_
      refine T_aload_n (am_dec tX12_moves_0 14 rfl) rfl ?_
      refine T_getfield 11 33 (am_dec tX12_moves_0 15 rfl) flX12_521_11 (md_obj hl) rfl ?_
      refine T_iconst 1 (am_dec tX12_moves_0 16 rfl) rfl ⟨by decide, by decide⟩ ?_
      refine T_isub (((c1 0 33) + 1) - 1) (am_dec tX12_moves_0 17 rfl) rfl ⟨by omega, by omega⟩ ?_
      refine T_ialoadE (x := c1 (155 + k.toNat) ((((c1 0 33) + 1) - 1).toNat)) (am_dec tX12_moves_0 18 rfl) (mr_kept hl (i := k) (by omega) (by omega)) (by omega) (by omega) (am_put_k (by omega)) ?_
      exact T_ireturn (am_dec tX12_moves_0 19 rfl) rfl (am_tr (fun (x9 : Int × am_F) => Q (.inl (some (aI (x9.1)))) (mdW w b x9.2 q)) (y := ((c1 (155 + k.toNat) ((((c1 0 33) + 1) - 1).toNat)), (am_put c1 0 33 ((c1 0 33) + 1)))) (show (k_moves c mv bk k) = ((c1 (155 + k.toNat) ((((c1 0 33) + 1) - 1).toNat)), (am_put c1 0 33 ((c1 0 33) + 1))) from (by have s9 := hc1.symm; subst s9; exact rfl)) hQ)
    refine T_if_ne 11 (am_dec tX12_moves_0 1 rfl) rfl (fun h1 => ?_) (fun h1 => ?_)
    · refine T_weak (ls' := [some (aR b), some (aR (b + (155 + k.toNat))), none, none]) (am_sub_s (am_sub_s (am_sub_n (am_sub_n am_sub_nil)))) ?_
      exact K1 _ (if_neg h1).symm
    · refine T_aload_n (am_dec tX12_moves_0 2 rfl) rfl ?_
      refine T_aload_n (am_dec tX12_moves_0 3 rfl) rfl ?_
      refine T_getfield 11 33 (am_dec tX12_moves_0 4 rfl) flX12_521_11 (md_obj hl) rfl ?_
      refine T_iload_n (am_dec tX12_moves_0 5 rfl) rfl ?_
      refine T_iastore (am_dec tX12_moves_0 6 rfl) (mr_kept hl (i := k) (by omega) (by omega)) (by omega) (by omega) ?_
      refine am_wE (w2 := mdW w b (am_put c (155 + k.toNat) ((c 0 33).toNat) mv) q) (md_pc (by omega) (fun f g => md_t_kept f g (by omega))) ?_
      refine T_weak (ls' := [some (aR b), some (aR (b + (155 + k.toNat))), none, none]) (am_sub_s (am_sub_s (am_sub_n (am_sub_n am_sub_nil)))) ?_
      exact K1 _ (if_pos h1).symm
  exact key _ ⟨rfl, rfl⟩
/-- what an image keeps and gives: the rows that moves over -/
def MvI (c0 c : am_F) (k s : Int) : Prop := c 0 33 = s ∧ c 4 = c0 4 ∧ c 0 45 = c0 0 45
theorem k_moves_33 {c : am_F} {mv bk k : Int} : (k_moves c mv bk k).2 0 33 = c 0 33 + 1 := by
  unfold k_moves
  dsimp only
  rw [am_put_s]
  split
  · rw [am_put_k (by omega)]
  · rfl
def g_k_movesAll_35 (bk : Int) (k : Int) (i : Int) (c : am_F) : am_F := (let u55 : Int × am_F := k_moves c (c 6 i.toNat) bk k; (am_put (u55).2 6 i.toNat ((u55).1)))
theorem L_k_movesAll_35 {S : am_S} {d u : Nat} {Q : AO → AH → Prop} {w : AH} {b : Nat} (hl : b + 735 ≤ w.length) (q : am_F) (bk : Int) (k : Int) (c0 : am_F) (hk : 0 ≤ k ∧ k < 3)  (hd : 1 ≤ d) (B9 : Int) (hB : B9 = 81) : ∀ (n : Nat) (i : Int) (c : am_F), i + n = B9 → 0 ≤ i → c 0 33 = 2 + i → (∀ (c' : am_F), c' = am_fold (g_k_movesAll_35 bk k) i n c → c' 0 33 = 2 + B9 → am_T S zX12_movesAll d u Q 65 [some (aR b), some (aR (b + (155 + k.toNat))), some (aI bk), none, none] [] (mdW w b c' q)) → am_T S zX12_movesAll d u Q 35 [some (aR b), some (aR (b + (155 + k.toNat))), some (aI bk), some (aI i), none] [] (mdW w b c q) := by
  intro n
  induction n with
  | zero =>
    intro i c hi9 h0i hinv k9
    have e9 : i = B9 := by omega
    subst e9
    refine T_iload_n (am_dec tX12_movesAll_0 21 rfl) rfl ?_
    refine T_bipush 81 (am_dec tX12_movesAll_0 22 rfl) rfl ⟨by decide, by decide⟩ ?_
    refine T_icmp_ge 65 (am_dec tX12_movesAll_0 23 rfl) rfl (fun h38 => ?_) (fun h38 => by exfalso; omega)
    refine T_weak (ls' := [some (aR b), some (aR (b + (155 + k.toNat))), some (aI bk), none, none]) (am_sub_s (am_sub_s (am_sub_s (am_sub_n (am_sub_n am_sub_nil))))) ?_
    exact k9 c rfl hinv
  | succ n ih =>
    intro i c hi9 h0i hinv k9
    refine T_iload_n (am_dec tX12_movesAll_0 21 rfl) rfl ?_
    refine T_bipush 81 (am_dec tX12_movesAll_0 22 rfl) rfl ⟨by decide, by decide⟩ ?_
    refine T_icmp_ge 65 (am_dec tX12_movesAll_0 23 rfl) rfl (fun h38 => by exfalso; omega) (fun h38 => ?_)
    refine T_aload_n (am_dec tX12_movesAll_0 24 rfl) rfl ?_
    refine T_getfield 11 13 (am_dec tX12_movesAll_0 25 rfl) flX12_29_11 (md_obj hl) rfl ?_
    refine T_iload_n (am_dec tX12_movesAll_0 26 rfl) rfl ?_
    refine T_aload_n (am_dec tX12_movesAll_0 27 rfl) rfl ?_
    refine T_aload_n (am_dec tX12_movesAll_0 28 rfl) rfl ?_
    refine T_aload_n (am_dec tX12_movesAll_0 29 rfl) rfl ?_
    refine T_getfield 11 13 (am_dec tX12_movesAll_0 30 rfl) flX12_29_11 (md_obj hl) rfl ?_
    refine T_iload_n (am_dec tX12_movesAll_0 31 rfl) rfl ?_
    refine T_ialoadE (x := c 6 i.toNat) (am_dec tX12_movesAll_0 32 rfl) (md_first hl) (by omega) (by omega) rfl ?_
    refine T_iload_n (am_dec tX12_movesAll_0 33 rfl) rfl ?_
    refine T_callV (as := [aR (b + (155 + k.toNat)), aI (c 6 i.toNat), aI bk]) rfl (am_dec tX12_movesAll_0 34 rfl) lkX12_524 (md_obj hl) rfl rfl (Nat.le_of_ble_eq_true rfl) (by omega) (mk_moves (d := d - 1) hl (c 6 i.toNat) bk k (by omega) (show 0 ≤ c 0 33 ∧ c 0 33 < 143 by omega) ) (fun _ => ?_)
    obtain ⟨u55, hu55⟩ : ∃ x9, x9 = k_moves c (c 6 i.toNat) bk k := ⟨_, rfl⟩
    rw [← hu55]
    have hm55 : (u55).2 0 33 = c 0 33 + 1 := by rw [hu55]; exact k_moves_33
    refine T_iastore (am_dec tX12_movesAll_0 35 rfl) (md_first hl) (by omega) (by omega) ?_
    refine am_wE (w2 := mdW w b (am_put (u55).2 6 i.toNat ((u55).1)) q) (md_pc (Nat.le_of_ble_eq_true rfl) (fun _ _ => rfl)) ?_
    refine T_iinc (ls' := [some (aR b), some (aR (b + (155 + k.toNat))), some (aI bk), some (aI (i + 1)), none]) (i + 1) (am_dec tX12_movesAll_0 36 rfl) rfl rfl ⟨by omega, by omega⟩ (by decide) rfl ?_
    refine T_goto 35 (am_dec tX12_movesAll_0 37 rfl) rfl ?_
    have e9 : (g_k_movesAll_35 bk k) i c = (am_put (u55).2 6 i.toNat ((u55).1)) := (by have s9 := hu55.symm; subst s9; exact rfl)
    simp only [am_fold_s, e9] at k9
    exact ih (i + 1) (am_put (u55).2 6 i.toNat ((u55).1)) (by omega) (by omega) (by rw [am_put_k (by omega)]; omega) k9
def g_k_movesAll_76 (bk : Int) (k : Int) (i : Int) (j : Int) (c : am_F) : am_F := (let u102 : Int × am_F := k_moves c (c (133 + i.toNat) j.toNat) bk k; (am_put (u102).2 (133 + i.toNat) j.toNat ((u102).1)))
theorem L_k_movesAll_76 {S : am_S} {d u : Nat} {Q : AO → AH → Prop} {w : AH} {b : Nat} (hl : b + 735 ≤ w.length) (q : am_F) (bk : Int) (k : Int) (i : Int) (c0 : am_F) (hk : 0 ≤ k ∧ k < 3) (ho67 : 0 ≤ i ∧ i < 12) (hd : 1 ≤ d) (B9 : Int) (hB : B9 = 3) : ∀ (n : Nat) (j : Int) (c : am_F), j + n = B9 → 0 ≤ j → c 0 33 = 83 + 3 * i + j → (∀ (c' : am_F), c' = am_fold (g_k_movesAll_76 bk k i) j n c → c' 0 33 = 83 + 3 * i + B9 → am_T S zX12_movesAll d u Q 112 [some (aR b), some (aR (b + (155 + k.toNat))), some (aI bk), some (aI i), none] [] (mdW w b c' q)) → am_T S zX12_movesAll d u Q 76 [some (aR b), some (aR (b + (155 + k.toNat))), some (aI bk), some (aI i), some (aI j)] [] (mdW w b c q) := by
  intro n
  induction n with
  | zero =>
    intro j c hi9 h0i hinv k9
    have e9 : j = B9 := by omega
    subst e9
    refine T_iload (am_dec tX12_movesAll_1 5 rfl) rfl ?_
    refine T_iconst 3 (am_dec tX12_movesAll_1 6 rfl) rfl ⟨by decide, by decide⟩ ?_
    refine T_icmp_ge 112 (am_dec tX12_movesAll_1 7 rfl) rfl (fun h79 => ?_) (fun h79 => by exfalso; omega)
    refine T_weak (ls' := [some (aR b), some (aR (b + (155 + k.toNat))), some (aI bk), some (aI i), none]) (am_sub_s (am_sub_s (am_sub_s (am_sub_s (am_sub_n am_sub_nil))))) ?_
    exact k9 c rfl hinv
  | succ n ih =>
    intro j c hi9 h0i hinv k9
    refine T_iload (am_dec tX12_movesAll_1 5 rfl) rfl ?_
    refine T_iconst 3 (am_dec tX12_movesAll_1 6 rfl) rfl ⟨by decide, by decide⟩ ?_
    refine T_icmp_ge 112 (am_dec tX12_movesAll_1 7 rfl) rfl (fun h79 => by exfalso; omega) (fun h79 => ?_)
    refine T_aload_n (am_dec tX12_movesAll_1 8 rfl) rfl ?_
    refine T_getfield 11 34 (am_dec tX12_movesAll_1 9 rfl) flX12_82_11 (md_obj hl) rfl ?_
    refine T_iload_n (am_dec tX12_movesAll_1 10 rfl) rfl ?_
    refine T_aaloadR (r := b + (133 + i.toNat)) (am_dec tX12_movesAll_1 11 rfl) (by decide) (mh_bid hl) (by omega) (by omega) (if_pos (by omega)) ?_
    refine T_iload (am_dec tX12_movesAll_1 12 rfl) rfl ?_
    refine T_aload_n (am_dec tX12_movesAll_1 13 rfl) rfl ?_
    refine T_aload_n (am_dec tX12_movesAll_1 14 rfl) rfl ?_
    refine T_aload_n (am_dec tX12_movesAll_1 15 rfl) rfl ?_
    refine T_getfield 11 34 (am_dec tX12_movesAll_1 16 rfl) flX12_82_11 (md_obj hl) rfl ?_
    refine T_iload_n (am_dec tX12_movesAll_1 17 rfl) rfl ?_
    refine T_aaloadR (r := b + (133 + i.toNat)) (am_dec tX12_movesAll_1 18 rfl) (by decide) (mh_bid hl) (by omega) (by omega) (if_pos (by omega)) ?_
    refine T_iload (am_dec tX12_movesAll_1 19 rfl) rfl ?_
    refine T_ialoadE (x := c (133 + i.toNat) j.toNat) (am_dec tX12_movesAll_1 20 rfl) (mr_bid hl (i := i) (by omega) (by omega)) (by omega) (by omega) rfl ?_
    refine T_iload_n (am_dec tX12_movesAll_1 21 rfl) rfl ?_
    refine T_callV (as := [aR (b + (155 + k.toNat)), aI (c (133 + i.toNat) j.toNat), aI bk]) rfl (am_dec tX12_movesAll_1 22 rfl) lkX12_524 (md_obj hl) rfl rfl (Nat.le_of_ble_eq_true rfl) (by omega) (mk_moves (d := d - 1) hl (c (133 + i.toNat) j.toNat) bk k (by omega) (show 0 ≤ c 0 33 ∧ c 0 33 < 143 by omega) ) (fun _ => ?_)
    obtain ⟨u102, hu102⟩ : ∃ x9, x9 = k_moves c (c (133 + i.toNat) j.toNat) bk k := ⟨_, rfl⟩
    rw [← hu102]
    have hm102 : (u102).2 0 33 = c 0 33 + 1 := by rw [hu102]; exact k_moves_33
    refine T_iastore (am_dec tX12_movesAll_1 23 rfl) (mr_bid hl (i := i) (by omega) (by omega)) (by omega) (by omega) ?_
    refine am_wE (w2 := mdW w b (am_put (u102).2 (133 + i.toNat) j.toNat ((u102).1)) q) (md_pc (by omega) (fun f g => md_t_bid f g (by omega))) ?_
    refine T_iinc (ls' := [some (aR b), some (aR (b + (155 + k.toNat))), some (aI bk), some (aI i), some (aI (j + 1))]) (j + 1) (am_dec tX12_movesAll_1 24 rfl) rfl rfl ⟨by omega, by omega⟩ (by decide) rfl ?_
    refine T_goto 76 (am_dec tX12_movesAll_1 25 rfl) rfl ?_
    have e9 : (g_k_movesAll_76 bk k i) j c = (am_put (u102).2 (133 + i.toNat) j.toNat ((u102).1)) := (by have s9 := hu102.symm; subst s9; exact rfl)
    simp only [am_fold_s, e9] at k9
    exact ih (j + 1) (am_put (u102).2 (133 + i.toNat) j.toNat ((u102).1)) (by omega) (by omega) (by rw [am_put_k (by omega)]; omega) k9
def g_k_movesAll_67 (bk : Int) (k : Int) (i : Int) (c : am_F) : am_F := am_fold (g_k_movesAll_76 bk k i) 0 3 c
theorem L_k_movesAll_67 {S : am_S} {d u : Nat} {Q : AO → AH → Prop} {w : AH} {b : Nat} (hl : b + 735 ≤ w.length) (q : am_F) (bk : Int) (k : Int) (c0 : am_F) (hk : 0 ≤ k ∧ k < 3)  (hd : 1 ≤ d) (B9 : Int) (hB : B9 = 12) : ∀ (n : Nat) (i : Int) (c : am_F), i + n = B9 → 0 ≤ i → c 0 33 = 83 + 3 * i → (∀ (c' : am_F), c' = am_fold (g_k_movesAll_67 bk k) i n c → c' 0 33 = 83 + 3 * B9 → am_T S zX12_movesAll d u Q 118 [some (aR b), some (aR (b + (155 + k.toNat))), some (aI bk), none, none] [] (mdW w b c' q)) → am_T S zX12_movesAll d u Q 67 [some (aR b), some (aR (b + (155 + k.toNat))), some (aI bk), some (aI i), none] [] (mdW w b c q) := by
  intro n
  induction n with
  | zero =>
    intro i c hi9 h0i hinv k9
    have e9 : i = B9 := by omega
    subst e9
    refine T_iload_n (am_dec tX12_movesAll_1 0 rfl) rfl ?_
    refine T_bipush 12 (am_dec tX12_movesAll_1 1 rfl) rfl ⟨by decide, by decide⟩ ?_
    refine T_icmp_ge 118 (am_dec tX12_movesAll_1 2 rfl) rfl (fun h70 => ?_) (fun h70 => by exfalso; omega)
    refine T_weak (ls' := [some (aR b), some (aR (b + (155 + k.toNat))), some (aI bk), none, none]) (am_sub_s (am_sub_s (am_sub_s (am_sub_n (am_sub_n am_sub_nil))))) ?_
    exact k9 c rfl hinv
  | succ n ih =>
    intro i c hi9 h0i hinv k9
    refine T_iload_n (am_dec tX12_movesAll_1 0 rfl) rfl ?_
    refine T_bipush 12 (am_dec tX12_movesAll_1 1 rfl) rfl ⟨by decide, by decide⟩ ?_
    refine T_icmp_ge 118 (am_dec tX12_movesAll_1 2 rfl) rfl (fun h70 => by exfalso; omega) (fun h70 => ?_)
    refine T_iconst 0 (am_dec tX12_movesAll_1 3 rfl) rfl ⟨by decide, by decide⟩ ?_
    refine T_istore (ls' := [some (aR b), some (aR (b + (155 + k.toNat))), some (aI bk), some (aI i), some (aI 0)]) (am_dec tX12_movesAll_1 4 rfl) (by decide) rfl ?_
    refine L_k_movesAll_76 hl q bk k i c0 hk (by omega) (by omega) _ rfl 3 0 c (by omega) (by omega) (by omega) (fun c76 hc76 hv76 => ?_)
    refine T_iinc (ls' := [some (aR b), some (aR (b + (155 + k.toNat))), some (aI bk), some (aI (i + 1)), none]) (i + 1) (am_dec tX12_movesAll_1 26 rfl) rfl rfl ⟨by omega, by omega⟩ (by decide) rfl ?_
    refine T_goto 67 (am_dec tX12_movesAll_1 27 rfl) rfl ?_
    have e9 : (g_k_movesAll_67 bk k) i c = c76 := (by have s9 := hc76.symm; subst s9; exact rfl)
    simp only [am_fold_s, e9] at k9
    exact ih (i + 1) c76 (by omega) (by omega) (by omega) k9
def g_k_movesAll_129 (bk : Int) (k : Int) (i : Int) (j : Int) (c : am_F) : am_F := (let u155 : Int × am_F := k_moves c (c (146 + i.toNat) j.toNat) bk k; (am_put (u155).2 (146 + i.toNat) j.toNat ((u155).1)))
theorem L_k_movesAll_129 {S : am_S} {d u : Nat} {Q : AO → AH → Prop} {w : AH} {b : Nat} (hl : b + 735 ≤ w.length) (q : am_F) (bk : Int) (k : Int) (i : Int) (c0 : am_F) (hk : 0 ≤ k ∧ k < 3) (ho120 : 0 ≤ i ∧ i < 8) (hd : 1 ≤ d) (B9 : Int) (hB : B9 = 3) : ∀ (n : Nat) (j : Int) (c : am_F), j + n = B9 → 0 ≤ j → c 0 33 = 119 + 3 * i + j → (∀ (c' : am_F), c' = am_fold (g_k_movesAll_129 bk k i) j n c → c' 0 33 = 119 + 3 * i + B9 → am_T S zX12_movesAll d u Q 165 [some (aR b), some (aR (b + (155 + k.toNat))), some (aI bk), some (aI i), none] [] (mdW w b c' q)) → am_T S zX12_movesAll d u Q 129 [some (aR b), some (aR (b + (155 + k.toNat))), some (aI bk), some (aI i), some (aI j)] [] (mdW w b c q) := by
  intro n
  induction n with
  | zero =>
    intro j c hi9 h0i hinv k9
    have e9 : j = B9 := by omega
    subst e9
    refine T_iload (am_dec tX12_movesAll_1 35 rfl) rfl ?_
    refine T_iconst 3 (am_dec tX12_movesAll_1 36 rfl) rfl ⟨by decide, by decide⟩ ?_
    refine T_icmp_ge 165 (am_dec tX12_movesAll_1 37 rfl) rfl (fun h132 => ?_) (fun h132 => by exfalso; omega)
    refine T_weak (ls' := [some (aR b), some (aR (b + (155 + k.toNat))), some (aI bk), some (aI i), none]) (am_sub_s (am_sub_s (am_sub_s (am_sub_s (am_sub_n am_sub_nil))))) ?_
    exact k9 c rfl hinv
  | succ n ih =>
    intro j c hi9 h0i hinv k9
    refine T_iload (am_dec tX12_movesAll_1 35 rfl) rfl ?_
    refine T_iconst 3 (am_dec tX12_movesAll_1 36 rfl) rfl ⟨by decide, by decide⟩ ?_
    refine T_icmp_ge 165 (am_dec tX12_movesAll_1 37 rfl) rfl (fun h132 => by exfalso; omega) (fun h132 => ?_)
    refine T_aload_n (am_dec tX12_movesAll_1 38 rfl) rfl ?_
    refine T_getfield 11 35 (am_dec tX12_movesAll_1 39 rfl) flX12_85_11 (md_obj hl) rfl ?_
    refine T_iload_n (am_dec tX12_movesAll_2 0 rfl) rfl ?_
    refine T_aaloadR (r := b + (146 + i.toNat)) (am_dec tX12_movesAll_2 1 rfl) (by decide) (mh_gauge hl) (by omega) (by omega) (if_pos (by omega)) ?_
    refine T_iload (am_dec tX12_movesAll_2 2 rfl) rfl ?_
    refine T_aload_n (am_dec tX12_movesAll_2 3 rfl) rfl ?_
    refine T_aload_n (am_dec tX12_movesAll_2 4 rfl) rfl ?_
    refine T_aload_n (am_dec tX12_movesAll_2 5 rfl) rfl ?_
    refine T_getfield 11 35 (am_dec tX12_movesAll_2 6 rfl) flX12_85_11 (md_obj hl) rfl ?_
    refine T_iload_n (am_dec tX12_movesAll_2 7 rfl) rfl ?_
    refine T_aaloadR (r := b + (146 + i.toNat)) (am_dec tX12_movesAll_2 8 rfl) (by decide) (mh_gauge hl) (by omega) (by omega) (if_pos (by omega)) ?_
    refine T_iload (am_dec tX12_movesAll_2 9 rfl) rfl ?_
    refine T_ialoadE (x := c (146 + i.toNat) j.toNat) (am_dec tX12_movesAll_2 10 rfl) (mr_gauge hl (i := i) (by omega) (by omega)) (by omega) (by omega) rfl ?_
    refine T_iload_n (am_dec tX12_movesAll_2 11 rfl) rfl ?_
    refine T_callV (as := [aR (b + (155 + k.toNat)), aI (c (146 + i.toNat) j.toNat), aI bk]) rfl (am_dec tX12_movesAll_2 12 rfl) lkX12_524 (md_obj hl) rfl rfl (Nat.le_of_ble_eq_true rfl) (by omega) (mk_moves (d := d - 1) hl (c (146 + i.toNat) j.toNat) bk k (by omega) (show 0 ≤ c 0 33 ∧ c 0 33 < 143 by omega) ) (fun _ => ?_)
    obtain ⟨u155, hu155⟩ : ∃ x9, x9 = k_moves c (c (146 + i.toNat) j.toNat) bk k := ⟨_, rfl⟩
    rw [← hu155]
    have hm155 : (u155).2 0 33 = c 0 33 + 1 := by rw [hu155]; exact k_moves_33
    refine T_iastore (am_dec tX12_movesAll_2 13 rfl) (mr_gauge hl (i := i) (by omega) (by omega)) (by omega) (by omega) ?_
    refine am_wE (w2 := mdW w b (am_put (u155).2 (146 + i.toNat) j.toNat ((u155).1)) q) (md_pc (by omega) (fun f g => md_t_gauge f g (by omega))) ?_
    refine T_iinc (ls' := [some (aR b), some (aR (b + (155 + k.toNat))), some (aI bk), some (aI i), some (aI (j + 1))]) (j + 1) (am_dec tX12_movesAll_2 14 rfl) rfl rfl ⟨by omega, by omega⟩ (by decide) rfl ?_
    refine T_goto 129 (am_dec tX12_movesAll_2 15 rfl) rfl ?_
    have e9 : (g_k_movesAll_129 bk k i) j c = (am_put (u155).2 (146 + i.toNat) j.toNat ((u155).1)) := (by have s9 := hu155.symm; subst s9; exact rfl)
    simp only [am_fold_s, e9] at k9
    exact ih (j + 1) (am_put (u155).2 (146 + i.toNat) j.toNat ((u155).1)) (by omega) (by omega) (by rw [am_put_k (by omega)]; omega) k9
def g_k_movesAll_120 (bk : Int) (k : Int) (i : Int) (c : am_F) : am_F := am_fold (g_k_movesAll_129 bk k i) 0 3 c
theorem L_k_movesAll_120 {S : am_S} {d u : Nat} {Q : AO → AH → Prop} {w : AH} {b : Nat} (hl : b + 735 ≤ w.length) (q : am_F) (bk : Int) (k : Int) (c0 : am_F) (hk : 0 ≤ k ∧ k < 3)  (hd : 1 ≤ d) (B9 : Int) (hB : B9 = 8) : ∀ (n : Nat) (i : Int) (c : am_F), i + n = B9 → 0 ≤ i → c 0 33 = 119 + 3 * i → (∀ (c' : am_F), c' = am_fold (g_k_movesAll_120 bk k) i n c → c' 0 33 = 119 + 3 * B9 → am_T S zX12_movesAll d u Q 171 [none, none, none, none, none] [] (mdW w b c' q)) → am_T S zX12_movesAll d u Q 120 [some (aR b), some (aR (b + (155 + k.toNat))), some (aI bk), some (aI i), none] [] (mdW w b c q) := by
  intro n
  induction n with
  | zero =>
    intro i c hi9 h0i hinv k9
    have e9 : i = B9 := by omega
    subst e9
    refine T_iload_n (am_dec tX12_movesAll_1 30 rfl) rfl ?_
    refine T_bipush 8 (am_dec tX12_movesAll_1 31 rfl) rfl ⟨by decide, by decide⟩ ?_
    refine T_icmp_ge 171 (am_dec tX12_movesAll_1 32 rfl) rfl (fun h123 => ?_) (fun h123 => by exfalso; omega)
    refine T_weak (ls' := [none, none, none, none, none]) (am_sub_n (am_sub_n (am_sub_n (am_sub_n (am_sub_n am_sub_nil))))) ?_
    exact k9 c rfl hinv
  | succ n ih =>
    intro i c hi9 h0i hinv k9
    refine T_iload_n (am_dec tX12_movesAll_1 30 rfl) rfl ?_
    refine T_bipush 8 (am_dec tX12_movesAll_1 31 rfl) rfl ⟨by decide, by decide⟩ ?_
    refine T_icmp_ge 171 (am_dec tX12_movesAll_1 32 rfl) rfl (fun h123 => by exfalso; omega) (fun h123 => ?_)
    refine T_iconst 0 (am_dec tX12_movesAll_1 33 rfl) rfl ⟨by decide, by decide⟩ ?_
    refine T_istore (ls' := [some (aR b), some (aR (b + (155 + k.toNat))), some (aI bk), some (aI i), some (aI 0)]) (am_dec tX12_movesAll_1 34 rfl) (by decide) rfl ?_
    refine L_k_movesAll_129 hl q bk k i c0 hk (by omega) (by omega) _ rfl 3 0 c (by omega) (by omega) (by omega) (fun c129 hc129 hv129 => ?_)
    refine T_iinc (ls' := [some (aR b), some (aR (b + (155 + k.toNat))), some (aI bk), some (aI (i + 1)), none]) (i + 1) (am_dec tX12_movesAll_2 16 rfl) rfl rfl ⟨by omega, by omega⟩ (by decide) rfl ?_
    refine T_goto 120 (am_dec tX12_movesAll_2 17 rfl) rfl ?_
    have e9 : (g_k_movesAll_120 bk k) i c = c129 := (by have s9 := hc129.symm; subst s9; exact rfl)
    simp only [am_fold_s, e9] at k9
    exact ih (i + 1) c129 (by omega) (by omega) (by omega) k9
def k_movesAll (c : am_F) (bk : Int) (k : Int) : am_F := (let u13 : Int × am_F := k_moves (am_put c 0 33 0) (c 0 30) bk k; (let u27 : Int × am_F := k_moves (am_put (u13).2 0 30 ((u13).1)) ((u13).2 0 31) bk k; (let c35 : am_F := am_fold (g_k_movesAll_35 bk k) 0 81 (am_put (u27).2 0 31 ((u27).1)); (let c67 : am_F := am_fold (g_k_movesAll_67 bk k) 0 12 c35; am_fold (g_k_movesAll_120 bk k) 0 8 c67))))
theorem mk_movesAll {S : am_S} {d u : Nat} {w : AH} {b : Nat} (hl : b + 735 ≤ w.length) {c : am_F} {q : am_F} (bk : Int) (k : Int) (hk : 0 ≤ k ∧ k < 3) (hd : 1 ≤ d) : am_Out S zX12_movesAll d u [aR b, aR (b + (155 + k.toNat)), aI bk] (mdW w b c q) (.inl none) (mdW w b (k_movesAll c bk k) q) := by
  have key : ∀ Q : AO → AH → Prop, Q (.inl none) (mdW w b (k_movesAll c bk k) q) → am_M S zX12_movesAll d u [aR b, aR (b + (155 + k.toNat)), aI bk] (mdW w b c q) Q := by
    intro Q hQ
    refine am_body rfl (by decide +kernel) rfl (am_cats_cons rfl ( am_cats_cons rfl ( am_cats_cons rfl (am_cats_nil)))) (Nat.le_of_ble_eq_true rfl) (?_ : am_T _ _ _ _ _ 0 [some (aR b), some (aR (b + (155 + k.toNat))), some (aI bk), none, none] [] (mdW w b c q))
    refine T_aload_n (am_dec tX12_movesAll_0 0 rfl) rfl ?_
    refine T_iconst 0 (am_dec tX12_movesAll_0 1 rfl) rfl ⟨by decide, by decide⟩ ?_
    refine T_putfield (fs' := mdO b (am_up (c 0) 33 0) (q 0)) 11 33 (am_dec tX12_movesAll_0 2 rfl) flX12_521_11 rfl rfl rfl trivial (md_obj hl) (Nat.le_of_ble_eq_true rfl) rfl ?_
    refine am_wE (w2 := mdW w b (am_put c 0 33 0) q) (md_fc) ?_
    refine T_aload_n (am_dec tX12_movesAll_0 3 rfl) rfl ?_
    refine T_aload_n (am_dec tX12_movesAll_0 4 rfl) rfl ?_
    refine T_aload_n (am_dec tX12_movesAll_0 5 rfl) rfl ?_
    refine T_aload_n (am_dec tX12_movesAll_0 6 rfl) rfl ?_
    refine T_getfield 11 30 (am_dec tX12_movesAll_0 7 rfl) flX12_292_11 (md_obj hl) rfl ?_
    refine T_iload_n (am_dec tX12_movesAll_0 8 rfl) rfl ?_
    refine T_callV (as := [aR (b + (155 + k.toNat)), aI (c 0 30), aI bk]) rfl (am_dec tX12_movesAll_0 9 rfl) lkX12_524 (md_obj hl) rfl rfl (Nat.le_of_ble_eq_true rfl) (by omega) (mk_moves (d := d - 1) hl (c 0 30) bk k (by omega) (show 0 ≤ 0 ∧ 0 < 143 by omega) ) (fun _ => ?_)
    obtain ⟨u13, hu13⟩ : ∃ x9, x9 = k_moves (am_put c 0 33 0) (c 0 30) bk k := ⟨_, rfl⟩
    rw [← hu13]
    have hm13 : (u13).2 0 33 = 0 + 1 := by rw [hu13]; exact k_moves_33
    refine T_putfield (fs' := mdO b (am_up ((u13).2 0) 30 ((u13).1)) (q 0)) 11 30 (am_dec tX12_movesAll_0 10 rfl) flX12_292_11 rfl rfl rfl trivial (md_obj hl) (Nat.le_of_ble_eq_true rfl) rfl ?_
    refine am_wE (w2 := mdW w b (am_put (u13).2 0 30 ((u13).1)) q) (md_fc) ?_
    refine T_aload_n (am_dec tX12_movesAll_0 11 rfl) rfl ?_
    refine T_aload_n (am_dec tX12_movesAll_0 12 rfl) rfl ?_
    refine T_aload_n (am_dec tX12_movesAll_0 13 rfl) rfl ?_
    refine T_aload_n (am_dec tX12_movesAll_0 14 rfl) rfl ?_
    refine T_getfield 11 31 (am_dec tX12_movesAll_0 15 rfl) flX12_295_11 (md_obj hl) rfl ?_
    refine T_iload_n (am_dec tX12_movesAll_0 16 rfl) rfl ?_
    refine T_callV (as := [aR (b + (155 + k.toNat)), aI ((u13).2 0 31), aI bk]) rfl (am_dec tX12_movesAll_0 17 rfl) lkX12_524 (md_obj hl) rfl rfl (Nat.le_of_ble_eq_true rfl) (by omega) (mk_moves (d := d - 1) hl ((u13).2 0 31) bk k (by omega) (show 0 ≤ (u13).2 0 33 ∧ (u13).2 0 33 < 143 by omega) ) (fun _ => ?_)
    obtain ⟨u27, hu27⟩ : ∃ x9, x9 = k_moves (am_put (u13).2 0 30 ((u13).1)) ((u13).2 0 31) bk k := ⟨_, rfl⟩
    rw [← hu27]
    have hm27 : (u27).2 0 33 = (u13).2 0 33 + 1 := by rw [hu27]; exact k_moves_33
    refine T_putfield (fs' := mdO b (am_up ((u27).2 0) 31 ((u27).1)) (q 0)) 11 31 (am_dec tX12_movesAll_0 18 rfl) flX12_295_11 rfl rfl rfl trivial (md_obj hl) (Nat.le_of_ble_eq_true rfl) rfl ?_
    refine am_wE (w2 := mdW w b (am_put (u27).2 0 31 ((u27).1)) q) (md_fc) ?_
    refine T_iconst 0 (am_dec tX12_movesAll_0 19 rfl) rfl ⟨by decide, by decide⟩ ?_
    refine T_istore_n (ls' := [some (aR b), some (aR (b + (155 + k.toNat))), some (aI bk), some (aI 0), none]) (am_dec tX12_movesAll_0 20 rfl) (by decide) rfl ?_
    refine L_k_movesAll_35 hl q bk k (am_put (u27).2 0 31 ((u27).1)) hk  (by omega) _ rfl 81 0 (am_put (u27).2 0 31 ((u27).1)) (by omega) (by omega) (show (u27).2 0 33 = 2 + 0 by omega) (fun c35 hc35 hv35 => ?_)
    refine T_iconst 0 (am_dec tX12_movesAll_0 38 rfl) rfl ⟨by decide, by decide⟩ ?_
    refine T_istore_n (ls' := [some (aR b), some (aR (b + (155 + k.toNat))), some (aI bk), some (aI 0), none]) (am_dec tX12_movesAll_0 39 rfl) (by decide) rfl ?_
    refine L_k_movesAll_67 hl q bk k c35 hk  (by omega) _ rfl 12 0 c35 (by omega) (by omega) (by omega) (fun c67 hc67 hv67 => ?_)
    refine T_iconst 0 (am_dec tX12_movesAll_1 28 rfl) rfl ⟨by decide, by decide⟩ ?_
    refine T_istore_n (ls' := [some (aR b), some (aR (b + (155 + k.toNat))), some (aI bk), some (aI 0), none]) (am_dec tX12_movesAll_1 29 rfl) (by decide) rfl ?_
    refine L_k_movesAll_120 hl q bk k c67 hk  (by omega) _ rfl 8 0 c67 (by omega) (by omega) (by omega) (fun c120 hc120 hv120 => ?_)
    exact T_return (am_dec tX12_movesAll_2 18 rfl) rfl (am_tr (fun (x9 : am_F) => Q (.inl none) (mdW w b x9 q)) (y := c120) (show (k_movesAll c bk k) = c120 from (by have s9 := hu13.symm; subst s9; have s9 := hu27.symm; subst s9; have s9 := hc35.symm; subst s9; have s9 := hc67.symm; subst s9; have s9 := hc120.symm; subst s9; exact rfl)) hQ)
  exact key _ ⟨rfl, rfl⟩
