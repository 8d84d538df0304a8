/-! the model: lots, leaks, bids -/
theorem md_fe {fs : List AV} {k : Nat} {x y : Int} (h : fs[k]? = some (aI x)) (e : x = y) : fs[k]? = some (aI y) := e ▸ h
def k_isLot (c : am_F) (k : Int) : Int := (k_in k 0 ((c 4 3) - 1))
theorem mk_isLot {S : am_S} {d u : Nat} {w : AH} {b : Nat} (hl : b + 735 ≤ w.length) {c : am_F} {q : am_F} (k : Int) (hV : MdV c) (hd : 1 ≤ d) : am_Out S zX12_isLot d u [aR b, aI k] (mdW w b c q) (.inl (some (aI (k_isLot c k)))) (mdW w b c q) := by
  have key : ∀ Q : AO → AH → Prop, Q (.inl (some (aI (k_isLot c k)))) (mdW w b c q) → am_M S zX12_isLot d u [aR b, aI k] (mdW w b c q) Q := by
    intro Q hQ
    refine am_body rfl (by decide +kernel) rfl (am_cats_cons rfl ( am_cats_cons rfl (am_cats_nil))) (Nat.le_of_ble_eq_true rfl) (?_ : am_T _ _ _ _ _ 0 [some (aR b), some (aI k)] [] (mdW w b c q))
    obtain ⟨vl0, vu0⟩ := MdV_0 hV
    obtain ⟨vl1, vu1⟩ := MdV_1 hV
    obtain ⟨vl3, vu3⟩ := MdV_3 hV
    refine T_iload_n (am_dec tX12_isLot_0 0 rfl) rfl ?_
    refine T_iconst 0 (am_dec tX12_isLot_0 1 rfl) rfl ⟨by decide, by decide⟩ ?_
    refine T_aload_n (am_dec tX12_isLot_0 2 rfl) rfl ?_
    refine T_getfield 11 11 (am_dec tX12_isLot_0 3 rfl) flX12_23_11 (md_obj hl) rfl ?_
    refine T_iconst 3 (am_dec tX12_isLot_0 4 rfl) rfl ⟨by decide, by decide⟩ ?_
    refine T_ialoadE (x := c 4 3) (am_dec tX12_isLot_0 5 rfl) (md_told hl) (by omega) (by omega) rfl ?_
    refine T_iconst 1 (am_dec tX12_isLot_0 6 rfl) rfl ⟨by decide, by decide⟩ ?_
    refine T_isub ((c 4 3) - 1) (am_dec tX12_isLot_0 7 rfl) rfl ⟨by omega, by omega⟩ ?_
    refine T_callS (as := [aI k, aI 0, aI ((c 4 3) - 1)]) rfl (am_dec tX12_isLot_0 8 rfl) lkX12_194 rfl (Nat.le_of_ble_eq_true rfl) (by omega) (mk_in (d := d - 1)  k 0 ((c 4 3) - 1)   ) (fun _ => ?_)
    refine T_nm (fun z10 hz10 => ?_)
    have hb10 := k_in_b k 0 ((c 4 3) - 1)
    rw [← hz10] at hb10
    have hs10 := k_in_s k 0 ((c 4 3) - 1)
    rw [← hz10] at hs10
    exact T_zreturn (am_dec tX12_isLot_0 9 rfl) rfl (by first | exact Or.inl rfl | exact Or.inr rfl | omega) (am_tr (fun (x9 : Int) => Q (.inl (some (aI (x9)))) (mdW w b c q)) (y := z10) (show (k_isLot c k) = z10 from (by have s9 := hz10.symm; subst s9; exact rfl)) hQ)
  exact key _ ⟨rfl, rfl⟩
theorem k_isLot_b (c : am_F) (k : Int) : (k_isLot c k) = 0 ∨ (k_isLot c k) = 1 := by
  unfold k_isLot
  try dsimp only
  repeat' split
  all_goals first | exact Or.inl rfl | exact Or.inr rfl | apply k_in_b | apply k_isDigit_b | apply k_isSmall_b | apply k_bad_b | apply k_isIn_b | apply k_isStep_b | apply k_isFirst_b | apply k_isLine_b | apply k_seesBy_b | apply k_isWalker_b | apply k_seesOne_b | apply k_badTwo_b | apply k_sees_b | apply k_isCode_b
theorem k_isLot_s (c : am_F) (x : Int) : (k_isLot c x = 1 ∧ 0 ≤ x ∧ x < c 4 3) ∨ (k_isLot c x = 0 ∧ ¬ (0 ≤ x ∧ x < c 4 3)) := by
  have h := k_in_s x 0 (c 4 3 - 1)
  unfold k_isLot
  omega
theorem am_i32p {a b : Int} (ha : 0 ≤ a ∧ a ≤ 1000) (hb : 0 ≤ b ∧ b ≤ 1000) : am_i32 (a * b) := by
  have h1 := Int.mul_le_mul ha.2 hb.2 hb.1 (by omega : (0:Int) ≤ 1000)
  have h2 := Int.mul_nonneg ha.1 hb.1
  exact ⟨by omega, by omega⟩
def k_lot (c : am_F) (q : am_F) (k : Int) (what : Int) : Int × am_F := (let z8 : Int := (k_isLot c k); (let t11 : Int := (if z8 = 0 then 1 else 0); (let q21 : am_F := (k_refuse (am_put q 0 0 0) t11 1 1); (let z21 : Int := (if t11 = 0 then 0 else 1); (if z21 = 0 then (let z31 : Int := (k_in what 0 2); (let t34 : Int := (if z31 = 0 then 1 else 0); (let q44 : am_F := (k_refuse q21 t34 2 2); (let z44 : Int := (if t34 = 0 then 0 else 1); (if z44 = 0 then (let t54 : Int := (if 2 ≤ what then ((((c (96 + k.toNat) 2) - (c (96 + k.toNat) 0)) + 1) * (((c (96 + k.toNat) 3) - (c (96 + k.toNat) 1)) + 1)) else (c (96 + k.toNat) ((4 + what).toNat))); (t54, q44)) else (0, q44)))))) else (0, q21))))))
theorem mk_lot {S : am_S} {d u : Nat} {w : AH} {b : Nat} (hl : b + 735 ≤ w.length) {c : am_F} {q : am_F} (k : Int) (what : Int) (hV : MdV c) (hL : MdL c) (hd : 2 ≤ d) : am_Out S zX12_lot d u [aR b, aI k, aI what] (mdW w b c q) (.inl (some (aI ((k_lot c q k what).1)))) (mdW w b c ((k_lot c q k what).2)) := by
  have key : ∀ Q : AO → AH → Prop, Q (.inl (some (aI ((k_lot c q k what).1)))) (mdW w b c ((k_lot c q k what).2)) → am_M S zX12_lot d u [aR b, aI k, aI what] (mdW w b c q) Q := by
    intro Q hQ
    refine am_body rfl (by decide +kernel) rfl (am_cats_cons rfl ( am_cats_cons rfl ( am_cats_cons rfl (am_cats_nil)))) (Nat.le_of_ble_eq_true rfl) (?_ : am_T _ _ _ _ _ 0 [some (aR b), some (aI k), some (aI what)] [] (mdW w b c q))
    obtain ⟨vl0, vu0⟩ := MdV_0 hV
    obtain ⟨vl1, vu1⟩ := MdV_1 hV
    obtain ⟨vl3, vu3⟩ := MdV_3 hV
    refine T_aload_n (am_dec tX12_lot_0 0 rfl) rfl ?_
    refine T_iconst 0 (am_dec tX12_lot_0 1 rfl) rfl ⟨by decide, by decide⟩ ?_
    refine T_putfield (fs' := mdO b (c 0) (am_up (q 0) 0 0)) 11 0 (am_dec tX12_lot_0 2 rfl) flX12_160_11 rfl rfl rfl trivial (md_obj hl) (Nat.le_of_ble_eq_true rfl) rfl ?_
    refine am_wE (w2 := mdW w b c (am_put q 0 0 0)) (md_fq) ?_
    refine T_aload_n (am_dec tX12_lot_0 3 rfl) rfl ?_
    refine T_aload_n (am_dec tX12_lot_0 4 rfl) rfl ?_
    refine T_iload_n (am_dec tX12_lot_0 5 rfl) rfl ?_
    refine T_callV (as := [aI k]) rfl (am_dec tX12_lot_0 6 rfl) lkX12_412 (md_obj hl) rfl rfl (Nat.le_of_ble_eq_true rfl) (by omega) (mk_isLot (d := d - 1) hl k  hV (by omega)) (fun _ => ?_)
    refine T_nm (fun z8 hz8 => ?_)
    have hb8 := k_isLot_b c k
    rw [← hz8] at hb8
    have hs8 := k_isLot_s c k
    rw [← hz8] at hs8
    have K11 : ∀ (t11 : Int), t11 = (if z8 = 0 then 1 else 0) →  am_T S zX12_lot d u Q 19 [some (aR b), some (aI k), some (aI what)] [aI t11, aR b] (mdW w b c (am_put q 0 0 0)) := by
      intro t11 ht11
      have hbt11 : t11 = 0 ∨ t11 = 1 := by
        rw [ht11]
        try dsimp only
        repeat' split
        all_goals first | exact Or.inl rfl | exact Or.inr rfl | apply k_in_b | apply k_isDigit_b | apply k_isSmall_b | apply k_bad_b | apply k_isIn_b | apply k_isStep_b | apply k_isFirst_b | apply k_isLine_b | apply k_seesBy_b | apply k_isWalker_b | apply k_seesOne_b | apply k_badTwo_b | apply k_sees_b | apply k_isCode_b | apply k_isLot_b | omega
      refine T_iconst 1 (am_dec tX12_lot_0 11 rfl) rfl ⟨by decide, by decide⟩ ?_
      refine T_iconst 1 (am_dec tX12_lot_0 12 rfl) rfl ⟨by decide, by decide⟩ ?_
      refine T_callV (as := [aI t11, aI 1, aI 1]) rfl (am_dec tX12_lot_0 13 rfl) lkX12_275 (md_obj hl) rfl rfl (Nat.le_of_ble_eq_true rfl) (by omega) (mk_bad0 (d := d - 1) hl t11 1 1 (by omega) am_put_s (by omega)) (fun _ => ?_)
      refine T_nmH (W := fun x9 => mdW w b c x9) (v := (k_refuse (am_put q 0 0 0) t11 1 1)) (fun q21 hq21 => ?_)
      refine T_nm (fun z21 hz21 => ?_)
      have hq021 : t11 = 0 → q21 0 0 = 0 := fun h9 => by rw [hq21]; exact k_refuse_0 am_put_s h9
      refine T_if_ne 50 (am_dec tX12_lot_0 14 rfl) rfl (fun h24 => ?_) (fun h24 => ?_)
      · refine T_iconst 0 (am_dec tX12_lot_0 28 rfl) rfl ⟨by decide, by decide⟩ ?_
        exact T_ireturn (am_dec tX12_lot_0 29 rfl) rfl (am_tr (fun (x9 : Int × am_F) => Q (.inl (some (aI (x9.1)))) (mdW w b c x9.2)) (y := (0, q21)) (show (k_lot c q k what) = (0, q21) from (by have s9 := hz8.symm; subst s9; have s9 := ht11.symm; subst s9; have s9 := hq21.symm; subst s9; have s9 := hz21.symm; subst s9; exact (if_neg h24))) hQ)
      · refine T_aload_n (am_dec tX12_lot_0 15 rfl) rfl ?_
        refine T_iload_n (am_dec tX12_lot_0 16 rfl) rfl ?_
        refine T_iconst 0 (am_dec tX12_lot_0 17 rfl) rfl ⟨by decide, by decide⟩ ?_
        refine T_iconst 2 (am_dec tX12_lot_0 18 rfl) rfl ⟨by decide, by decide⟩ ?_
        refine T_callS (as := [aI what, aI 0, aI 2]) rfl (am_dec tX12_lot_0 19 rfl) lkX12_194 rfl (Nat.le_of_ble_eq_true rfl) (by omega) (mk_in (d := d - 1)  what 0 2   ) (fun _ => ?_)
        refine T_nm (fun z31 hz31 => ?_)
        have hb31 := k_in_b what 0 2
        rw [← hz31] at hb31
        have hs31 := k_in_s what 0 2
        rw [← hz31] at hs31
        have K34 : ∀ (t34 : Int), t34 = (if z31 = 0 then 1 else 0) →  am_T S zX12_lot d u Q 42 [some (aR b), some (aI k), some (aI what)] [aI t34, aR b] (mdW w b c q21) := by
          intro t34 ht34
          have hbt34 : t34 = 0 ∨ t34 = 1 := by
            rw [ht34]
            try dsimp only
            repeat' split
            all_goals first | exact Or.inl rfl | exact Or.inr rfl | apply k_in_b | apply k_isDigit_b | apply k_isSmall_b | apply k_bad_b | apply k_isIn_b | apply k_isStep_b | apply k_isFirst_b | apply k_isLine_b | apply k_seesBy_b | apply k_isWalker_b | apply k_seesOne_b | apply k_badTwo_b | apply k_sees_b | apply k_isCode_b | apply k_isLot_b | omega
          refine T_iconst 2 (am_dec tX12_lot_0 24 rfl) rfl ⟨by decide, by decide⟩ ?_
          refine T_iconst 2 (am_dec tX12_lot_0 25 rfl) rfl ⟨by decide, by decide⟩ ?_
          refine T_callV (as := [aI t34, aI 2, aI 2]) rfl (am_dec tX12_lot_0 26 rfl) lkX12_275 (md_obj hl) rfl rfl (Nat.le_of_ble_eq_true rfl) (by omega) (mk_bad0 (d := d - 1) hl t34 2 2 (by omega) (hq021 (by omega)) (by omega)) (fun _ => ?_)
          refine T_nmH (W := fun x9 => mdW w b c x9) (v := (k_refuse q21 t34 2 2)) (fun q44 hq44 => ?_)
          refine T_nm (fun z44 hz44 => ?_)
          have hq044 : t34 = 0 → q44 0 0 = 0 := fun h9 => by rw [hq44]; exact k_refuse_0 (hq021 (by omega)) h9
          refine T_if_eq 52 (am_dec tX12_lot_0 27 rfl) rfl (fun h47 => ?_) (fun h47 => ?_)
          · refine T_iload_n (am_dec tX12_lot_0 30 rfl) rfl ?_
            refine T_iconst 2 (am_dec tX12_lot_0 31 rfl) rfl ⟨by decide, by decide⟩ ?_
            have lk := hL k (by omega) (by omega)
            have K54 : ∀ (t54 : Int), t54 = (if 2 ≤ what then ((((c (96 + k.toNat) 2) - (c (96 + k.toNat) 0)) + 1) * (((c (96 + k.toNat) 3) - (c (96 + k.toNat) 1)) + 1)) else (c (96 + k.toNat) ((4 + what).toNat))) →  am_T S zX12_lot d u Q 109 [none, none, none] [aI t54] (mdW w b c q44) := by
              intro t54 ht54
              exact T_ireturn (am_dec tX12_lot_1 33 rfl) rfl (am_tr (fun (x9 : Int × am_F) => Q (.inl (some (aI (x9.1)))) (mdW w b c x9.2)) (y := (t54, q44)) (show (k_lot c q k what) = (t54, q44) from (by have s9 := hz8.symm; subst s9; have s9 := ht11.symm; subst s9; have s9 := hq21.symm; subst s9; have s9 := hz21.symm; subst s9; have s9 := hz31.symm; subst s9; have s9 := ht34.symm; subst s9; have s9 := hq44.symm; subst s9; have s9 := hz44.symm; subst s9; have s9 := ht54.symm; subst s9; exact ((if_pos h24).trans (if_pos h47)))) hQ)
            refine T_icmp_ge 70 (am_dec tX12_lot_0 32 rfl) rfl (fun h54 => ?_) (fun h54 => ?_)
            · refine T_aload_n (am_dec tX12_lot_1 2 rfl) rfl ?_
              refine T_getfield 11 23 (am_dec tX12_lot_1 3 rfl) flX12_61_11 (md_obj hl) rfl ?_
              refine T_iload_n (am_dec tX12_lot_1 4 rfl) rfl ?_
              refine T_aaloadR (r := b + (96 + k.toNat)) (am_dec tX12_lot_1 5 rfl) (by decide) (mh_lot hl) (by omega) (by omega) (if_pos (by omega)) ?_
              refine T_iconst 2 (am_dec tX12_lot_1 6 rfl) rfl ⟨by decide, by decide⟩ ?_
              refine T_ialoadE (x := c (96 + k.toNat) 2) (am_dec tX12_lot_1 7 rfl) (mr_lot hl (i := k) (by omega) (by omega)) (by omega) (by omega) rfl ?_
              refine T_aload_n (am_dec tX12_lot_1 8 rfl) rfl ?_
              refine T_getfield 11 23 (am_dec tX12_lot_1 9 rfl) flX12_61_11 (md_obj hl) rfl ?_
              refine T_iload_n (am_dec tX12_lot_1 10 rfl) rfl ?_
              refine T_aaloadR (r := b + (96 + k.toNat)) (am_dec tX12_lot_1 11 rfl) (by decide) (mh_lot hl) (by omega) (by omega) (if_pos (by omega)) ?_
              refine T_iconst 0 (am_dec tX12_lot_1 12 rfl) rfl ⟨by decide, by decide⟩ ?_
              refine T_ialoadE (x := c (96 + k.toNat) 0) (am_dec tX12_lot_1 13 rfl) (mr_lot hl (i := k) (by omega) (by omega)) (by omega) (by omega) rfl ?_
              refine T_isub ((c (96 + k.toNat) 2) - (c (96 + k.toNat) 0)) (am_dec tX12_lot_1 14 rfl) rfl ⟨by omega, by omega⟩ ?_
              refine T_iconst 1 (am_dec tX12_lot_1 15 rfl) rfl ⟨by decide, by decide⟩ ?_
              refine T_iadd (((c (96 + k.toNat) 2) - (c (96 + k.toNat) 0)) + 1) (am_dec tX12_lot_1 16 rfl) rfl ⟨by omega, by omega⟩ ?_
              refine T_aload_n (am_dec tX12_lot_1 17 rfl) rfl ?_
              refine T_getfield 11 23 (am_dec tX12_lot_1 18 rfl) flX12_61_11 (md_obj hl) rfl ?_
              refine T_iload_n (am_dec tX12_lot_1 19 rfl) rfl ?_
              refine T_aaloadR (r := b + (96 + k.toNat)) (am_dec tX12_lot_1 20 rfl) (by decide) (mh_lot hl) (by omega) (by omega) (if_pos (by omega)) ?_
              refine T_iconst 3 (am_dec tX12_lot_1 21 rfl) rfl ⟨by decide, by decide⟩ ?_
              refine T_ialoadE (x := c (96 + k.toNat) 3) (am_dec tX12_lot_1 22 rfl) (mr_lot hl (i := k) (by omega) (by omega)) (by omega) (by omega) rfl ?_
              refine T_aload_n (am_dec tX12_lot_1 23 rfl) rfl ?_
              refine T_getfield 11 23 (am_dec tX12_lot_1 24 rfl) flX12_61_11 (md_obj hl) rfl ?_
              refine T_iload_n (am_dec tX12_lot_1 25 rfl) rfl ?_
              refine T_aaloadR (r := b + (96 + k.toNat)) (am_dec tX12_lot_1 26 rfl) (by decide) (mh_lot hl) (by omega) (by omega) (if_pos (by omega)) ?_
              refine T_iconst 1 (am_dec tX12_lot_1 27 rfl) rfl ⟨by decide, by decide⟩ ?_
              refine T_ialoadE (x := c (96 + k.toNat) 1) (am_dec tX12_lot_1 28 rfl) (mr_lot hl (i := k) (by omega) (by omega)) (by omega) (by omega) rfl ?_
              refine T_isub ((c (96 + k.toNat) 3) - (c (96 + k.toNat) 1)) (am_dec tX12_lot_1 29 rfl) rfl ⟨by omega, by omega⟩ ?_
              refine T_iconst 1 (am_dec tX12_lot_1 30 rfl) rfl ⟨by decide, by decide⟩ ?_
              refine T_iadd (((c (96 + k.toNat) 3) - (c (96 + k.toNat) 1)) + 1) (am_dec tX12_lot_1 31 rfl) rfl ⟨by omega, by omega⟩ ?_
              refine T_imul ((((c (96 + k.toNat) 2) - (c (96 + k.toNat) 0)) + 1) * (((c (96 + k.toNat) 3) - (c (96 + k.toNat) 1)) + 1)) (am_dec tX12_lot_1 32 rfl) rfl (am_i32p (by omega) (by omega)) ?_
              refine T_weak (ls' := [none, none, none]) (am_sub_n (am_sub_n (am_sub_n am_sub_nil))) ?_
              exact K54 _ (if_pos h54).symm
            · refine T_aload_n (am_dec tX12_lot_0 33 rfl) rfl ?_
              refine T_getfield 11 23 (am_dec tX12_lot_0 34 rfl) flX12_61_11 (md_obj hl) rfl ?_
              refine T_iload_n (am_dec tX12_lot_0 35 rfl) rfl ?_
              refine T_aaloadR (r := b + (96 + k.toNat)) (am_dec tX12_lot_0 36 rfl) (by decide) (mh_lot hl) (by omega) (by omega) (if_pos (by omega)) ?_
              refine T_iconst 4 (am_dec tX12_lot_0 37 rfl) rfl ⟨by decide, by decide⟩ ?_
              refine T_iload_n (am_dec tX12_lot_0 38 rfl) rfl ?_
              refine T_iadd (4 + what) (am_dec tX12_lot_0 39 rfl) rfl ⟨by omega, by omega⟩ ?_
              refine T_ialoadE (x := c (96 + k.toNat) ((4 + what).toNat)) (am_dec tX12_lot_1 0 rfl) (mr_lot hl (i := k) (by omega) (by omega)) (by omega) (by omega) rfl ?_
              refine T_goto 109 (am_dec tX12_lot_1 1 rfl) rfl ?_
              refine T_weak (ls' := [none, none, none]) (am_sub_n (am_sub_n (am_sub_n am_sub_nil))) ?_
              exact K54 _ (if_neg h54).symm
          · refine T_iconst 0 (am_dec tX12_lot_0 28 rfl) rfl ⟨by decide, by decide⟩ ?_
            exact T_ireturn (am_dec tX12_lot_0 29 rfl) rfl (am_tr (fun (x9 : Int × am_F) => Q (.inl (some (aI (x9.1)))) (mdW w b c x9.2)) (y := (0, q44)) (show (k_lot c q k what) = (0, q44) from (by have s9 := hz8.symm; subst s9; have s9 := ht11.symm; subst s9; have s9 := hq21.symm; subst s9; have s9 := hz21.symm; subst s9; have s9 := hz31.symm; subst s9; have s9 := ht34.symm; subst s9; have s9 := hq44.symm; subst s9; have s9 := hz44.symm; subst s9; exact ((if_pos h24).trans (if_neg h47)))) hQ)
        refine T_if_ne 41 (am_dec tX12_lot_0 20 rfl) rfl (fun h34 => ?_) (fun h34 => ?_)
        · refine T_iconst 0 (am_dec tX12_lot_0 23 rfl) rfl ⟨by decide, by decide⟩ ?_
          exact K34 _ (if_neg h34).symm
        · refine T_iconst 1 (am_dec tX12_lot_0 21 rfl) rfl ⟨by decide, by decide⟩ ?_
          refine T_goto 42 (am_dec tX12_lot_0 22 rfl) rfl ?_
          exact K34 _ (if_pos h34).symm
    refine T_if_ne 18 (am_dec tX12_lot_0 7 rfl) rfl (fun h11 => ?_) (fun h11 => ?_)
    · refine T_iconst 0 (am_dec tX12_lot_0 10 rfl) rfl ⟨by decide, by decide⟩ ?_
      exact K11 _ (if_neg h11).symm
    · refine T_iconst 1 (am_dec tX12_lot_0 8 rfl) rfl ⟨by decide, by decide⟩ ?_
      refine T_goto 19 (am_dec tX12_lot_0 9 rfl) rfl ?_
      exact K11 _ (if_pos h11).symm
  exact key _ ⟨rfl, rfl⟩
def g_k_yardsOf_35 (q : am_F) (t : Int) (y : Int) (x : Int) (v : Int) : Int := am_w32 (v + (q (159 + (t + 1).toNat) ((x + (9 * y)).toNat)))
theorem L_k_yardsOf_35 {S : am_S} {d u : Nat} {Q : AO → AH → Prop} {w : AH} {b : Nat} (hl : b + 735 ≤ w.length) (c : am_F) (q : am_F) (k : Int) (t : Int) (y : Int) (hV : MdV c) (hL : MdL c) (hk : 0 ≤ k ∧ k < c 4 3) (ht : -1 ≤ t ∧ t < 40) (ho12 : c (96 + k.toNat) 1 ≤ y ∧ y < (c (96 + k.toNat) 3) + 1) (hd : 1 ≤ d) (B9 : Int) (hB : B9 = (c (96 + k.toNat) 2) + 1) : ∀ (n : Nat) (x : Int) (v : Int), x + n = B9 → c (96 + k.toNat) 0 ≤ x → (∀ (v' : Int), v' = am_fold (g_k_yardsOf_35 q t y) x n v → am_T S zX12_yardsOf d u Q 73 [some (aR b), some (aI k), some (aI t), some (aI v'), some (aI y), none] [] (mdW w b c q)) → am_T S zX12_yardsOf d u Q 35 [some (aR b), some (aI k), some (aI t), some (aI v), some (aI y), some (aI x)] [] (mdW w b c q) := by
  intro n
  induction n with
  | zero =>
    intro x v hi9 h0i k9
    have e9 : x = B9 := by omega
    subst e9
    obtain ⟨vl0, vu0⟩ := MdV_0 hV
    obtain ⟨vl1, vu1⟩ := MdV_1 hV
    obtain ⟨vl3, vu3⟩ := MdV_3 hV
    have lk := hL k (by omega) (by omega)
    refine T_iload (am_dec tX12_yardsOf_0 24 rfl) rfl ?_
    refine T_aload_n (am_dec tX12_yardsOf_0 25 rfl) rfl ?_
    refine T_getfield 11 23 (am_dec tX12_yardsOf_0 26 rfl) flX12_61_11 (md_obj hl) rfl ?_
    refine T_iload_n (am_dec tX12_yardsOf_0 27 rfl) rfl ?_
    refine T_aaloadR (r := b + (96 + k.toNat)) (am_dec tX12_yardsOf_0 28 rfl) (by decide) (mh_lot hl) (by omega) (by omega) (if_pos (by omega)) ?_
    refine T_iconst 2 (am_dec tX12_yardsOf_0 29 rfl) rfl ⟨by decide, by decide⟩ ?_
    refine T_ialoadE (x := c (96 + k.toNat) 2) (am_dec tX12_yardsOf_0 30 rfl) (mr_lot hl (i := k) (by omega) (by omega)) (by omega) (by omega) rfl ?_
    refine T_icmp_gt 73 (am_dec tX12_yardsOf_0 31 rfl) rfl (fun h45 => ?_) (fun h45 => by exfalso; omega)
    refine T_weak (ls' := [some (aR b), some (aI k), some (aI t), some (aI v), some (aI y), none]) (am_sub_s (am_sub_s (am_sub_s (am_sub_s (am_sub_s (am_sub_n am_sub_nil)))))) ?_
    exact k9 v rfl
  | succ n ih =>
    intro x v hi9 h0i k9
    obtain ⟨vl0, vu0⟩ := MdV_0 hV
    obtain ⟨vl1, vu1⟩ := MdV_1 hV
    obtain ⟨vl3, vu3⟩ := MdV_3 hV
    have lk := hL k (by omega) (by omega)
    refine T_iload (am_dec tX12_yardsOf_0 24 rfl) rfl ?_
    refine T_aload_n (am_dec tX12_yardsOf_0 25 rfl) rfl ?_
    refine T_getfield 11 23 (am_dec tX12_yardsOf_0 26 rfl) flX12_61_11 (md_obj hl) rfl ?_
    refine T_iload_n (am_dec tX12_yardsOf_0 27 rfl) rfl ?_
    refine T_aaloadR (r := b + (96 + k.toNat)) (am_dec tX12_yardsOf_0 28 rfl) (by decide) (mh_lot hl) (by omega) (by omega) (if_pos (by omega)) ?_
    refine T_iconst 2 (am_dec tX12_yardsOf_0 29 rfl) rfl ⟨by decide, by decide⟩ ?_
    refine T_ialoadE (x := c (96 + k.toNat) 2) (am_dec tX12_yardsOf_0 30 rfl) (mr_lot hl (i := k) (by omega) (by omega)) (by omega) (by omega) rfl ?_
    refine T_icmp_gt 73 (am_dec tX12_yardsOf_0 31 rfl) rfl (fun h45 => by exfalso; omega) (fun h45 => ?_)
    refine T_iload_n (am_dec tX12_yardsOf_0 32 rfl) rfl ?_
    refine T_aload_n (am_dec tX12_yardsOf_0 33 rfl) rfl ?_
    refine T_getfield 11 37 (am_dec tX12_yardsOf_0 34 rfl) flX12_91_11 (md_obj hl) rfl ?_
    refine T_iload_n (am_dec tX12_yardsOf_0 35 rfl) rfl ?_
    refine T_iconst 1 (am_dec tX12_yardsOf_0 36 rfl) rfl ⟨by decide, by decide⟩ ?_
    refine T_iadd (t + 1) (am_dec tX12_yardsOf_0 37 rfl) rfl ⟨by omega, by omega⟩ ?_
    refine T_aaloadR (r := b + (159 + (t + 1).toNat)) (am_dec tX12_yardsOf_0 38 rfl) (by decide) (mh_fog hl) (by omega) (by omega) (if_pos (by omega)) ?_
    refine T_iload (am_dec tX12_yardsOf_0 39 rfl) rfl ?_
    refine T_iload (am_dec tX12_yardsOf_1 0 rfl) rfl ?_
    refine T_callS (as := [aI x, aI y]) rfl (am_dec tX12_yardsOf_1 1 rfl) lkX12_317 rfl (Nat.le_of_ble_eq_true rfl) (by omega) (mk_cell' (d := d - 1) x y (by omega)) (fun _ => ?_)
    refine T_ialoadE (x := q (159 + (t + 1).toNat) ((x + (9 * y)).toNat)) (am_dec tX12_yardsOf_1 2 rfl) (mr_fog hl (i := (t + 1)) (by omega) (by omega)) (by omega) (by omega) rfl ?_
    refine T_iaddW (am_w32 (v + (q (159 + (t + 1).toNat) ((x + (9 * y)).toNat)))) (am_dec tX12_yardsOf_1 3 rfl) (am_w32e _).symm (am_w32r _) ?_
    refine T_nm (fun v_66 hv_66 => ?_)
    refine T_istore_n (ls' := [some (aR b), some (aI k), some (aI t), some (aI v_66), some (aI y), some (aI x)]) (am_dec tX12_yardsOf_1 4 rfl) (by decide) rfl ?_
    refine T_iinc (ls' := [some (aR b), some (aI k), some (aI t), some (aI v_66), some (aI y), some (aI (x + 1))]) (x + 1) (am_dec tX12_yardsOf_1 5 rfl) rfl rfl ⟨by omega, by omega⟩ (by decide) rfl ?_
    refine T_goto 35 (am_dec tX12_yardsOf_1 6 rfl) rfl ?_
    have e9 : (g_k_yardsOf_35 q t y) x v = v_66 := (by have s9 := hv_66.symm; subst s9; exact rfl)
    simp only [am_fold_s, e9] at k9
    exact ih (x + 1) v_66 (by omega) (by omega) k9
def g_k_yardsOf_12 (c : am_F) (q : am_F) (k : Int) (t : Int) (y : Int) (v : Int) : Int := (let x_33 : Int := c (96 + k.toNat) 0; am_fold (g_k_yardsOf_35 q t y) x_33 ((c (96 + k.toNat) 2) + 1 - x_33).toNat v)
theorem L_k_yardsOf_12 {S : am_S} {d u : Nat} {Q : AO → AH → Prop} {w : AH} {b : Nat} (hl : b + 735 ≤ w.length) (c : am_F) (q : am_F) (k : Int) (t : Int) (hV : MdV c) (hL : MdL c) (hk : 0 ≤ k ∧ k < c 4 3) (ht : -1 ≤ t ∧ t < 40)  (hd : 1 ≤ d) (B9 : Int) (hB : B9 = (c (96 + k.toNat) 3) + 1) : ∀ (n : Nat) (y : Int) (v : Int), y + n = B9 → c (96 + k.toNat) 1 ≤ y → (∀ (v' : Int), v' = am_fold (g_k_yardsOf_12 c q k t) y n v → am_T S zX12_yardsOf d u Q 79 [none, none, none, some (aI v'), none, none] [] (mdW w b c q)) → am_T S zX12_yardsOf d u Q 12 [some (aR b), some (aI k), some (aI t), some (aI v), some (aI y), none] [] (mdW w b c q) := by
  intro n
  induction n with
  | zero =>
    intro y v hi9 h0i k9
    have e9 : y = B9 := by omega
    subst e9
    obtain ⟨vl0, vu0⟩ := MdV_0 hV
    obtain ⟨vl1, vu1⟩ := MdV_1 hV
    obtain ⟨vl3, vu3⟩ := MdV_3 hV
    have lk := hL k (by omega) (by omega)
    refine T_iload (am_dec tX12_yardsOf_0 9 rfl) rfl ?_
    refine T_aload_n (am_dec tX12_yardsOf_0 10 rfl) rfl ?_
    refine T_getfield 11 23 (am_dec tX12_yardsOf_0 11 rfl) flX12_61_11 (md_obj hl) rfl ?_
    refine T_iload_n (am_dec tX12_yardsOf_0 12 rfl) rfl ?_
    refine T_aaloadR (r := b + (96 + k.toNat)) (am_dec tX12_yardsOf_0 13 rfl) (by decide) (mh_lot hl) (by omega) (by omega) (if_pos (by omega)) ?_
    refine T_iconst 3 (am_dec tX12_yardsOf_0 14 rfl) rfl ⟨by decide, by decide⟩ ?_
    refine T_ialoadE (x := c (96 + k.toNat) 3) (am_dec tX12_yardsOf_0 15 rfl) (mr_lot hl (i := k) (by omega) (by omega)) (by omega) (by omega) rfl ?_
    refine T_icmp_gt 79 (am_dec tX12_yardsOf_0 16 rfl) rfl (fun h22 => ?_) (fun h22 => by exfalso; omega)
    refine T_weak (ls' := [none, none, none, some (aI v), none, none]) (am_sub_n (am_sub_n (am_sub_n (am_sub_s (am_sub_n (am_sub_n am_sub_nil)))))) ?_
    exact k9 v rfl
  | succ n ih =>
    intro y v hi9 h0i k9
    obtain ⟨vl0, vu0⟩ := MdV_0 hV
    obtain ⟨vl1, vu1⟩ := MdV_1 hV
    obtain ⟨vl3, vu3⟩ := MdV_3 hV
    have lk := hL k (by omega) (by omega)
    refine T_iload (am_dec tX12_yardsOf_0 9 rfl) rfl ?_
    refine T_aload_n (am_dec tX12_yardsOf_0 10 rfl) rfl ?_
    refine T_getfield 11 23 (am_dec tX12_yardsOf_0 11 rfl) flX12_61_11 (md_obj hl) rfl ?_
    refine T_iload_n (am_dec tX12_yardsOf_0 12 rfl) rfl ?_
    refine T_aaloadR (r := b + (96 + k.toNat)) (am_dec tX12_yardsOf_0 13 rfl) (by decide) (mh_lot hl) (by omega) (by omega) (if_pos (by omega)) ?_
    refine T_iconst 3 (am_dec tX12_yardsOf_0 14 rfl) rfl ⟨by decide, by decide⟩ ?_
    refine T_ialoadE (x := c (96 + k.toNat) 3) (am_dec tX12_yardsOf_0 15 rfl) (mr_lot hl (i := k) (by omega) (by omega)) (by omega) (by omega) rfl ?_
    refine T_icmp_gt 79 (am_dec tX12_yardsOf_0 16 rfl) rfl (fun h22 => by exfalso; omega) (fun h22 => ?_)
    refine T_aload_n (am_dec tX12_yardsOf_0 17 rfl) rfl ?_
    refine T_getfield 11 23 (am_dec tX12_yardsOf_0 18 rfl) flX12_61_11 (md_obj hl) rfl ?_
    refine T_iload_n (am_dec tX12_yardsOf_0 19 rfl) rfl ?_
    refine T_aaloadR (r := b + (96 + k.toNat)) (am_dec tX12_yardsOf_0 20 rfl) (by decide) (mh_lot hl) (by omega) (by omega) (if_pos (by omega)) ?_
    refine T_iconst 0 (am_dec tX12_yardsOf_0 21 rfl) rfl ⟨by decide, by decide⟩ ?_
    refine T_ialoadE (x := c (96 + k.toNat) 0) (am_dec tX12_yardsOf_0 22 rfl) (mr_lot hl (i := k) (by omega) (by omega)) (by omega) (by omega) rfl ?_
    refine T_nm (fun x_33 hx_33 => ?_)
    refine T_istore (ls' := [some (aR b), some (aI k), some (aI t), some (aI v), some (aI y), some (aI x_33)]) (am_dec tX12_yardsOf_0 23 rfl) (by decide) rfl ?_
    refine L_k_yardsOf_35 hl c q k t y hV hL hk ht (by omega) (by omega) _ rfl ((c (96 + k.toNat) 2) + 1 - x_33).toNat x_33 v (by omega) (by omega) (fun v_35 hv_35 => ?_)
    refine T_iinc (ls' := [some (aR b), some (aI k), some (aI t), some (aI v_35), some (aI (y + 1)), none]) (y + 1) (am_dec tX12_yardsOf_1 7 rfl) rfl rfl ⟨by omega, by omega⟩ (by decide) rfl ?_
    refine T_goto 12 (am_dec tX12_yardsOf_1 8 rfl) rfl ?_
    have e9 : (g_k_yardsOf_12 c q k t) y v = v_35 := (by have s9 := hx_33.symm; subst s9; have s9 := hv_35.symm; subst s9; exact rfl)
    simp only [am_fold_s, e9] at k9
    exact ih (y + 1) v_35 (by omega) (by omega) k9
def k_yardsOf (c : am_F) (q : am_F) (k : Int) (t : Int) : Int := (let y_10 : Int := c (96 + k.toNat) 1; am_fold (g_k_yardsOf_12 c q k t) y_10 ((c (96 + k.toNat) 3) + 1 - y_10).toNat 0)
theorem mk_yardsOf {S : am_S} {d u : Nat} {w : AH} {b : Nat} (hl : b + 735 ≤ w.length) {c : am_F} {q : am_F} (k : Int) (t : Int) (hV : MdV c) (hL : MdL c) (hk : 0 ≤ k ∧ k < c 4 3) (ht : -1 ≤ t ∧ t < 40) (hd : 1 ≤ d) : am_Out S zX12_yardsOf d u [aR b, aI k, aI t] (mdW w b c q) (.inl (some (aI (k_yardsOf c q k t)))) (mdW w b c q) := by
  have key : ∀ Q : AO → AH → Prop, Q (.inl (some (aI (k_yardsOf c q k t)))) (mdW w b c q) → am_M S zX12_yardsOf d u [aR b, aI k, aI t] (mdW w b c q) Q := by
    intro Q hQ
    refine am_body rfl (by decide +kernel) rfl (am_cats_cons rfl ( am_cats_cons rfl ( am_cats_cons rfl (am_cats_nil)))) (Nat.le_of_ble_eq_true rfl) (?_ : am_T _ _ _ _ _ 0 [some (aR b), some (aI k), some (aI t), none, none, none] [] (mdW w b c q))
    obtain ⟨vl0, vu0⟩ := MdV_0 hV
    obtain ⟨vl1, vu1⟩ := MdV_1 hV
    obtain ⟨vl3, vu3⟩ := MdV_3 hV
    have lk := hL k (by omega) (by omega)
    refine T_iconst 0 (am_dec tX12_yardsOf_0 0 rfl) rfl ⟨by decide, by decide⟩ ?_
    refine T_istore_n (ls' := [some (aR b), some (aI k), some (aI t), some (aI 0), none, none]) (am_dec tX12_yardsOf_0 1 rfl) (by decide) rfl ?_
    refine T_aload_n (am_dec tX12_yardsOf_0 2 rfl) rfl ?_
    refine T_getfield 11 23 (am_dec tX12_yardsOf_0 3 rfl) flX12_61_11 (md_obj hl) rfl ?_
    refine T_iload_n (am_dec tX12_yardsOf_0 4 rfl) rfl ?_
    refine T_aaloadR (r := b + (96 + k.toNat)) (am_dec tX12_yardsOf_0 5 rfl) (by decide) (mh_lot hl) (by omega) (by omega) (if_pos (by omega)) ?_
    refine T_iconst 1 (am_dec tX12_yardsOf_0 6 rfl) rfl ⟨by decide, by decide⟩ ?_
    refine T_ialoadE (x := c (96 + k.toNat) 1) (am_dec tX12_yardsOf_0 7 rfl) (mr_lot hl (i := k) (by omega) (by omega)) (by omega) (by omega) rfl ?_
    refine T_nm (fun y_10 hy_10 => ?_)
    refine T_istore (ls' := [some (aR b), some (aI k), some (aI t), some (aI 0), some (aI y_10), none]) (am_dec tX12_yardsOf_0 8 rfl) (by decide) rfl ?_
    refine L_k_yardsOf_12 hl c q k t hV hL hk ht  (by omega) _ rfl ((c (96 + k.toNat) 3) + 1 - y_10).toNat y_10 0 (by omega) (by omega) (fun v_12 hv_12 => ?_)
    refine T_iload_n (am_dec tX12_yardsOf_1 9 rfl) rfl ?_
    exact T_ireturn (am_dec tX12_yardsOf_1 10 rfl) rfl (am_tr (fun (x9 : Int) => Q (.inl (some (aI (x9)))) (mdW w b c q)) (y := v_12) (show (k_yardsOf c q k t) = v_12 from (by have s9 := hy_10.symm; subst s9; have s9 := hv_12.symm; subst s9; exact rfl)) hQ)
  exact key _ ⟨rfl, rfl⟩
def k_yards (c : am_F) (q : am_F) (k : Int) (t : Int) : Int × am_F := (let z8 : Int := (k_isLot c k); (let t11 : Int := (if z8 = 0 then 1 else 0); (let q21 : am_F := (k_refuse (am_put q 0 0 0) t11 1 1); (let z21 : Int := (if t11 = 0 then 0 else 1); (if z21 = 0 then (let z29 : Int := (k_isFirst t); (let t32 : Int := (if z29 = 0 then 1 else 0); (let q42 : am_F := (k_refuse q21 t32 2 2); (let z42 : Int := (if t32 = 0 then 0 else 1); (if z42 = 0 then (let q51 : am_F := k_goes c q42; ((k_yardsOf c q51 k t), q51)) else (0, q42)))))) else (0, q21))))))
theorem mk_yards {S : am_S} {d u : Nat} {w : AH} {b : Nat} (hl : b + 735 ≤ w.length) {c : am_F} {q : am_F} (k : Int) (t : Int) (hV : MdV c) (hWd : MdWd c) (hS9 : MdS c) (hLp : MdLp c) (hDu : MdDu c) (hL : MdL c) (hd : 5 ≤ d) : am_Out S zX12_yards d u [aR b, aI k, aI t] (mdW w b c q) (.inl (some (aI ((k_yards c q k t).1)))) (mdW w b c ((k_yards c q k t).2)) := by
  have key : ∀ Q : AO → AH → Prop, Q (.inl (some (aI ((k_yards c q k t).1)))) (mdW w b c ((k_yards c q k t).2)) → am_M S zX12_yards d u [aR b, aI k, aI t] (mdW w b c q) Q := by
    intro Q hQ
    refine am_body rfl (by decide +kernel) rfl (am_cats_cons rfl ( am_cats_cons rfl ( am_cats_cons rfl (am_cats_nil)))) (Nat.le_of_ble_eq_true rfl) (?_ : am_T _ _ _ _ _ 0 [some (aR b), some (aI k), some (aI t)] [] (mdW w b c q))
    obtain ⟨vl0, vu0⟩ := MdV_0 hV
    obtain ⟨vl1, vu1⟩ := MdV_1 hV
    obtain ⟨vl3, vu3⟩ := MdV_3 hV
    refine T_aload_n (am_dec tX12_yards_0 0 rfl) rfl ?_
    refine T_iconst 0 (am_dec tX12_yards_0 1 rfl) rfl ⟨by decide, by decide⟩ ?_
    refine T_putfield (fs' := mdO b (c 0) (am_up (q 0) 0 0)) 11 0 (am_dec tX12_yards_0 2 rfl) flX12_160_11 rfl rfl rfl trivial (md_obj hl) (Nat.le_of_ble_eq_true rfl) rfl ?_
    refine am_wE (w2 := mdW w b c (am_put q 0 0 0)) (md_fq) ?_
    refine T_aload_n (am_dec tX12_yards_0 3 rfl) rfl ?_
    refine T_aload_n (am_dec tX12_yards_0 4 rfl) rfl ?_
    refine T_iload_n (am_dec tX12_yards_0 5 rfl) rfl ?_
    refine T_callV (as := [aI k]) rfl (am_dec tX12_yards_0 6 rfl) lkX12_412 (md_obj hl) rfl rfl (Nat.le_of_ble_eq_true rfl) (by omega) (mk_isLot (d := d - 1) hl k  hV (by omega)) (fun _ => ?_)
    refine T_nm (fun z8 hz8 => ?_)
    have hb8 := k_isLot_b c k
    rw [← hz8] at hb8
    have hs8 := k_isLot_s c k
    rw [← hz8] at hs8
    have K11 : ∀ (t11 : Int), t11 = (if z8 = 0 then 1 else 0) →  am_T S zX12_yards d u Q 19 [some (aR b), some (aI k), some (aI t)] [aI t11, aR b] (mdW w b c (am_put q 0 0 0)) := by
      intro t11 ht11
      have hbt11 : t11 = 0 ∨ t11 = 1 := by
        rw [ht11]
        try dsimp only
        repeat' split
        all_goals first | exact Or.inl rfl | exact Or.inr rfl | apply k_in_b | apply k_isDigit_b | apply k_isSmall_b | apply k_bad_b | apply k_isIn_b | apply k_isStep_b | apply k_isFirst_b | apply k_isLine_b | apply k_seesBy_b | apply k_isWalker_b | apply k_seesOne_b | apply k_badTwo_b | apply k_sees_b | apply k_isCode_b | apply k_isLot_b | omega
      refine T_iconst 1 (am_dec tX12_yards_0 11 rfl) rfl ⟨by decide, by decide⟩ ?_
      refine T_iconst 1 (am_dec tX12_yards_0 12 rfl) rfl ⟨by decide, by decide⟩ ?_
      refine T_callV (as := [aI t11, aI 1, aI 1]) rfl (am_dec tX12_yards_0 13 rfl) lkX12_275 (md_obj hl) rfl rfl (Nat.le_of_ble_eq_true rfl) (by omega) (mk_bad0 (d := d - 1) hl t11 1 1 (by omega) am_put_s (by omega)) (fun _ => ?_)
      refine T_nmH (W := fun x9 => mdW w b c x9) (v := (k_refuse (am_put q 0 0 0) t11 1 1)) (fun q21 hq21 => ?_)
      refine T_nm (fun z21 hz21 => ?_)
      have hq021 : t11 = 0 → q21 0 0 = 0 := fun h9 => by rw [hq21]; exact k_refuse_0 am_put_s h9
      refine T_if_ne 48 (am_dec tX12_yards_0 14 rfl) rfl (fun h24 => ?_) (fun h24 => ?_)
      · refine T_iconst 0 (am_dec tX12_yards_0 26 rfl) rfl ⟨by decide, by decide⟩ ?_
        exact T_ireturn (am_dec tX12_yards_0 27 rfl) rfl (am_tr (fun (x9 : Int × am_F) => Q (.inl (some (aI (x9.1)))) (mdW w b c x9.2)) (y := (0, q21)) (show (k_yards c q k t) = (0, q21) from (by have s9 := hz8.symm; subst s9; have s9 := ht11.symm; subst s9; have s9 := hq21.symm; subst s9; have s9 := hz21.symm; subst s9; exact (if_neg h24))) hQ)
      · refine T_aload_n (am_dec tX12_yards_0 15 rfl) rfl ?_
        refine T_iload_n (am_dec tX12_yards_0 16 rfl) rfl ?_
        refine T_callS (as := [aI t]) rfl (am_dec tX12_yards_0 17 rfl) lkX12_348 rfl (Nat.le_of_ble_eq_true rfl) (by omega) (mk_isFirst (d := d - 1)  t   (by omega)) (fun _ => ?_)
        refine T_nm (fun z29 hz29 => ?_)
        have hb29 := k_isFirst_b t
        rw [← hz29] at hb29
        have hs29 := k_isFirst_s t
        rw [← hz29] at hs29
        have K32 : ∀ (t32 : Int), t32 = (if z29 = 0 then 1 else 0) →  am_T S zX12_yards d u Q 40 [some (aR b), some (aI k), some (aI t)] [aI t32, aR b] (mdW w b c q21) := by
          intro t32 ht32
          have hbt32 : t32 = 0 ∨ t32 = 1 := by
            rw [ht32]
            try dsimp only
            repeat' split
            all_goals first | exact Or.inl rfl | exact Or.inr rfl | apply k_in_b | apply k_isDigit_b | apply k_isSmall_b | apply k_bad_b | apply k_isIn_b | apply k_isStep_b | apply k_isFirst_b | apply k_isLine_b | apply k_seesBy_b | apply k_isWalker_b | apply k_seesOne_b | apply k_badTwo_b | apply k_sees_b | apply k_isCode_b | apply k_isLot_b | omega
          refine T_iconst 2 (am_dec tX12_yards_0 22 rfl) rfl ⟨by decide, by decide⟩ ?_
          refine T_iconst 2 (am_dec tX12_yards_0 23 rfl) rfl ⟨by decide, by decide⟩ ?_
          refine T_callV (as := [aI t32, aI 2, aI 2]) rfl (am_dec tX12_yards_0 24 rfl) lkX12_275 (md_obj hl) rfl rfl (Nat.le_of_ble_eq_true rfl) (by omega) (mk_bad0 (d := d - 1) hl t32 2 2 (by omega) (hq021 (by omega)) (by omega)) (fun _ => ?_)
          refine T_nmH (W := fun x9 => mdW w b c x9) (v := (k_refuse q21 t32 2 2)) (fun q42 hq42 => ?_)
          refine T_nm (fun z42 hz42 => ?_)
          have hq042 : t32 = 0 → q42 0 0 = 0 := fun h9 => by rw [hq42]; exact k_refuse_0 (hq021 (by omega)) h9
          refine T_if_eq 50 (am_dec tX12_yards_0 25 rfl) rfl (fun h45 => ?_) (fun h45 => ?_)
          · refine T_aload_n (am_dec tX12_yards_0 28 rfl) rfl ?_
            refine T_callV (as := []) rfl (am_dec tX12_yards_0 29 rfl) lkX12_345 (md_obj hl) rfl rfl (Nat.le_of_ble_eq_true rfl) (by omega) (mk_goes (d := d - 1) hl   hV hWd hS9 hLp hDu (by omega)) (fun _ => ?_)
            refine T_nmH (W := fun x9 => mdW w b c x9) (v := k_goes c q42) (fun q51 hq51 => ?_)
            refine T_aload_n (am_dec tX12_yards_0 30 rfl) rfl ?_
            refine T_iload_n (am_dec tX12_yards_0 31 rfl) rfl ?_
            refine T_iload_n (am_dec tX12_yards_0 32 rfl) rfl ?_
            refine T_callV (as := [aI k, aI t]) rfl (am_dec tX12_yards_0 33 rfl) lkX12_415 (md_obj hl) rfl rfl (Nat.le_of_ble_eq_true rfl) (by omega) (mk_yardsOf (d := d - 1) hl k t  hV hL (by omega) (by omega) (by omega)) (fun _ => ?_)
            exact T_ireturn (am_dec tX12_yards_0 34 rfl) rfl (am_tr (fun (x9 : Int × am_F) => Q (.inl (some (aI (x9.1)))) (mdW w b c x9.2)) (y := ((k_yardsOf c q51 k t), q51)) (show (k_yards c q k t) = ((k_yardsOf c q51 k t), q51) from (by have s9 := hz8.symm; subst s9; have s9 := ht11.symm; subst s9; have s9 := hq21.symm; subst s9; have s9 := hz21.symm; subst s9; have s9 := hz29.symm; subst s9; have s9 := ht32.symm; subst s9; have s9 := hq42.symm; subst s9; have s9 := hz42.symm; subst s9; have s9 := hq51.symm; subst s9; exact ((if_pos h24).trans (if_pos h45)))) hQ)
          · refine T_iconst 0 (am_dec tX12_yards_0 26 rfl) rfl ⟨by decide, by decide⟩ ?_
            exact T_ireturn (am_dec tX12_yards_0 27 rfl) rfl (am_tr (fun (x9 : Int × am_F) => Q (.inl (some (aI (x9.1)))) (mdW w b c x9.2)) (y := (0, q42)) (show (k_yards c q k t) = (0, q42) from (by have s9 := hz8.symm; subst s9; have s9 := ht11.symm; subst s9; have s9 := hq21.symm; subst s9; have s9 := hz21.symm; subst s9; have s9 := hz29.symm; subst s9; have s9 := ht32.symm; subst s9; have s9 := hq42.symm; subst s9; have s9 := hz42.symm; subst s9; exact ((if_pos h24).trans (if_neg h45)))) hQ)
        refine T_if_ne 39 (am_dec tX12_yards_0 18 rfl) rfl (fun h32 => ?_) (fun h32 => ?_)
        · refine T_iconst 0 (am_dec tX12_yards_0 21 rfl) rfl ⟨by decide, by decide⟩ ?_
          exact K32 _ (if_neg h32).symm
        · refine T_iconst 1 (am_dec tX12_yards_0 19 rfl) rfl ⟨by decide, by decide⟩ ?_
          refine T_goto 40 (am_dec tX12_yards_0 20 rfl) rfl ?_
          exact K32 _ (if_pos h32).symm
    refine T_if_ne 18 (am_dec tX12_yards_0 7 rfl) rfl (fun h11 => ?_) (fun h11 => ?_)
    · refine T_iconst 0 (am_dec tX12_yards_0 10 rfl) rfl ⟨by decide, by decide⟩ ?_
      exact K11 _ (if_neg h11).symm
    · refine T_iconst 1 (am_dec tX12_yards_0 8 rfl) rfl ⟨by decide, by decide⟩ ?_
      refine T_goto 19 (am_dec tX12_yards_0 9 rfl) rfl ?_
      exact K11 _ (if_pos h11).symm
  exact key _ ⟨rfl, rfl⟩
def k_leaks (c : am_F) (q : am_F) (la : Int) (lb : Int) (what : Int) : Int × am_F := (let z8 : Int := (k_isLot c la); (let t11 : Int := (if z8 = 0 then 1 else (let z16 : Int := (k_isLot c lb); (if z16 = 0 then 1 else 0))); (let q29 : am_F := (k_refuse (am_put q 0 0 0) t11 1 1); (let z29 : Int := (if t11 = 0 then 0 else 1); (if z29 = 0 then (let t38 : Int := (if la = lb then 1 else (let z44 : Int := (k_in what 0 1); (if z44 = 0 then 1 else 0))); (let q57 : am_F := (k_refuse q29 t38 2 2); (let z57 : Int := (if t38 = 0 then 0 else 1); (if z57 = 0 then (let q66 : am_F := k_goes c q57; (let t70 : Int := (if what = 0 then (q66 (259 + la.toNat) lb.toNat) else (am_w32 ((q66 (259 + la.toNat) lb.toNat) * (c (96 + lb.toNat) 5)))); (t70, q66))) else (0, q57))))) else (0, q29))))))
theorem mk_leaks {S : am_S} {d u : Nat} {w : AH} {b : Nat} (hl : b + 735 ≤ w.length) {c : am_F} {q : am_F} (la : Int) (lb : Int) (what : Int) (hV : MdV c) (hWd : MdWd c) (hS9 : MdS c) (hLp : MdLp c) (hDu : MdDu c) (hL : MdL c) (hd : 5 ≤ d) : am_Out S zX12_leaks d u [aR b, aI la, aI lb, aI what] (mdW w b c q) (.inl (some (aI ((k_leaks c q la lb what).1)))) (mdW w b c ((k_leaks c q la lb what).2)) := by
  have key : ∀ Q : AO → AH → Prop, Q (.inl (some (aI ((k_leaks c q la lb what).1)))) (mdW w b c ((k_leaks c q la lb what).2)) → am_M S zX12_leaks d u [aR b, aI la, aI lb, aI what] (mdW w b c q) Q := by
    intro Q hQ
    refine am_body rfl (by decide +kernel) rfl (am_cats_cons rfl ( am_cats_cons rfl ( am_cats_cons rfl ( am_cats_cons rfl (am_cats_nil))))) (Nat.le_of_ble_eq_true rfl) (?_ : am_T _ _ _ _ _ 0 [some (aR b), some (aI la), some (aI lb), some (aI what)] [] (mdW w b c q))
    obtain ⟨vl0, vu0⟩ := MdV_0 hV
    obtain ⟨vl1, vu1⟩ := MdV_1 hV
    obtain ⟨vl3, vu3⟩ := MdV_3 hV
    refine T_aload_n (am_dec tX12_leaks_0 0 rfl) rfl ?_
    refine T_iconst 0 (am_dec tX12_leaks_0 1 rfl) rfl ⟨by decide, by decide⟩ ?_
    refine T_putfield (fs' := mdO b (c 0) (am_up (q 0) 0 0)) 11 0 (am_dec tX12_leaks_0 2 rfl) flX12_160_11 rfl rfl rfl trivial (md_obj hl) (Nat.le_of_ble_eq_true rfl) rfl ?_
    refine am_wE (w2 := mdW w b c (am_put q 0 0 0)) (md_fq) ?_
    refine T_aload_n (am_dec tX12_leaks_0 3 rfl) rfl ?_
    refine T_aload_n (am_dec tX12_leaks_0 4 rfl) rfl ?_
    refine T_iload_n (am_dec tX12_leaks_0 5 rfl) rfl ?_
    refine T_callV (as := [aI la]) rfl (am_dec tX12_leaks_0 6 rfl) lkX12_412 (md_obj hl) rfl rfl (Nat.le_of_ble_eq_true rfl) (by omega) (mk_isLot (d := d - 1) hl la  hV (by omega)) (fun _ => ?_)
    refine T_nm (fun z8 hz8 => ?_)
    have hb8 := k_isLot_b c la
    rw [← hz8] at hb8
    have hs8 := k_isLot_s c la
    rw [← hz8] at hs8
    have K11 : ∀ (t11 : Int), t11 = (if z8 = 0 then 1 else (let z16 : Int := (k_isLot c lb); (if z16 = 0 then 1 else 0))) →  am_T S zX12_leaks d u Q 27 [some (aR b), some (aI la), some (aI lb), some (aI what)] [aI t11, aR b] (mdW w b c (am_put q 0 0 0)) := by
      intro t11 ht11
      have hxt11 := ht11
      dsimp only at hxt11
      have hy3 := k_isLot_s c lb
      have hbt11 : t11 = 0 ∨ t11 = 1 := by
        rw [ht11]
        try dsimp only
        repeat' split
        all_goals first | exact Or.inl rfl | exact Or.inr rfl | apply k_in_b | apply k_isDigit_b | apply k_isSmall_b | apply k_bad_b | apply k_isIn_b | apply k_isStep_b | apply k_isFirst_b | apply k_isLine_b | apply k_seesBy_b | apply k_isWalker_b | apply k_seesOne_b | apply k_badTwo_b | apply k_sees_b | apply k_isCode_b | apply k_isLot_b | omega
      refine T_iconst 1 (am_dec tX12_leaks_0 15 rfl) rfl ⟨by decide, by decide⟩ ?_
      refine T_iconst 1 (am_dec tX12_leaks_0 16 rfl) rfl ⟨by decide, by decide⟩ ?_
      refine T_callV (as := [aI t11, aI 1, aI 1]) rfl (am_dec tX12_leaks_0 17 rfl) lkX12_275 (md_obj hl) rfl rfl (Nat.le_of_ble_eq_true rfl) (by omega) (mk_bad0 (d := d - 1) hl t11 1 1 (by omega) am_put_s (by omega)) (fun _ => ?_)
      refine T_nmH (W := fun x9 => mdW w b c x9) (v := (k_refuse (am_put q 0 0 0) t11 1 1)) (fun q29 hq29 => ?_)
      refine T_nm (fun z29 hz29 => ?_)
      have hq029 : t11 = 0 → q29 0 0 = 0 := fun h9 => by rw [hq29]; exact k_refuse_0 am_put_s h9
      refine T_if_ne 63 (am_dec tX12_leaks_0 18 rfl) rfl (fun h32 => ?_) (fun h32 => ?_)
      · refine T_iconst 0 (am_dec tX12_leaks_0 35 rfl) rfl ⟨by decide, by decide⟩ ?_
        exact T_ireturn (am_dec tX12_leaks_0 36 rfl) rfl (am_tr (fun (x9 : Int × am_F) => Q (.inl (some (aI (x9.1)))) (mdW w b c x9.2)) (y := (0, q29)) (show (k_leaks c q la lb what) = (0, q29) from (by have s9 := hz8.symm; subst s9; have s9 := ht11.symm; subst s9; have s9 := hq29.symm; subst s9; have s9 := hz29.symm; subst s9; exact (if_neg h32))) hQ)
      · refine T_aload_n (am_dec tX12_leaks_0 19 rfl) rfl ?_
        refine T_iload_n (am_dec tX12_leaks_0 20 rfl) rfl ?_
        refine T_iload_n (am_dec tX12_leaks_0 21 rfl) rfl ?_
        have K38 : ∀ (t38 : Int), t38 = (if la = lb then 1 else (let z44 : Int := (k_in what 0 1); (if z44 = 0 then 1 else 0))) →  am_T S zX12_leaks d u Q 55 [some (aR b), some (aI la), some (aI lb), some (aI what)] [aI t38, aR b] (mdW w b c q29) := by
          intro t38 ht38
          have hxt38 := ht38
          dsimp only at hxt38
          have hy4 := k_in_s what 0 1
          have hbt38 : t38 = 0 ∨ t38 = 1 := by
            rw [ht38]
            try dsimp only
            repeat' split
            all_goals first | exact Or.inl rfl | exact Or.inr rfl | apply k_in_b | apply k_isDigit_b | apply k_isSmall_b | apply k_bad_b | apply k_isIn_b | apply k_isStep_b | apply k_isFirst_b | apply k_isLine_b | apply k_seesBy_b | apply k_isWalker_b | apply k_seesOne_b | apply k_badTwo_b | apply k_sees_b | apply k_isCode_b | apply k_isLot_b | omega
          refine T_iconst 2 (am_dec tX12_leaks_0 31 rfl) rfl ⟨by decide, by decide⟩ ?_
          refine T_iconst 2 (am_dec tX12_leaks_0 32 rfl) rfl ⟨by decide, by decide⟩ ?_
          refine T_callV (as := [aI t38, aI 2, aI 2]) rfl (am_dec tX12_leaks_0 33 rfl) lkX12_275 (md_obj hl) rfl rfl (Nat.le_of_ble_eq_true rfl) (by omega) (mk_bad0 (d := d - 1) hl t38 2 2 (by omega) (hq029 (by omega)) (by omega)) (fun _ => ?_)
          refine T_nmH (W := fun x9 => mdW w b c x9) (v := (k_refuse q29 t38 2 2)) (fun q57 hq57 => ?_)
          refine T_nm (fun z57 hz57 => ?_)
          have hq057 : t38 = 0 → q57 0 0 = 0 := fun h9 => by rw [hq57]; exact k_refuse_0 (hq029 (by omega)) h9
          refine T_if_eq 65 (am_dec tX12_leaks_0 34 rfl) rfl (fun h60 => ?_) (fun h60 => ?_)
          · refine T_aload_n (am_dec tX12_leaks_0 37 rfl) rfl ?_
            refine T_callV (as := []) rfl (am_dec tX12_leaks_0 38 rfl) lkX12_345 (md_obj hl) rfl rfl (Nat.le_of_ble_eq_true rfl) (by omega) (mk_goes (d := d - 1) hl   hV hWd hS9 hLp hDu (by omega)) (fun _ => ?_)
            refine T_nmH (W := fun x9 => mdW w b c x9) (v := k_goes c q57) (fun q66 hq66 => ?_)
            refine T_iload_n (am_dec tX12_leaks_0 39 rfl) rfl ?_
            have K70 : ∀ (t70 : Int), t70 = (if what = 0 then (q66 (259 + la.toNat) lb.toNat) else (am_w32 ((q66 (259 + la.toNat) lb.toNat) * (c (96 + lb.toNat) 5)))) →  am_T S zX12_leaks d u Q 101 [none, none, none, none] [aI t70] (mdW w b c q66) := by
              intro t70 ht70
              exact T_ireturn (am_dec tX12_leaks_1 21 rfl) rfl (am_tr (fun (x9 : Int × am_F) => Q (.inl (some (aI (x9.1)))) (mdW w b c x9.2)) (y := (t70, q66)) (show (k_leaks c q la lb what) = (t70, q66) from (by have s9 := hz8.symm; subst s9; have s9 := ht11.symm; subst s9; have s9 := hq29.symm; subst s9; have s9 := hz29.symm; subst s9; have s9 := ht38.symm; subst s9; have s9 := hq57.symm; subst s9; have s9 := hz57.symm; subst s9; have s9 := hq66.symm; subst s9; have s9 := ht70.symm; subst s9; exact ((if_pos h32).trans (if_pos h60)))) hQ)
            refine T_if_ne 84 (am_dec tX12_leaks_1 0 rfl) rfl (fun h70 => ?_) (fun h70 => ?_)
            · refine T_aload_n (am_dec tX12_leaks_1 8 rfl) rfl ?_
              refine T_getfield 11 41 (am_dec tX12_leaks_1 9 rfl) flX12_103_11 (md_obj hl) rfl ?_
              refine T_iload_n (am_dec tX12_leaks_1 10 rfl) rfl ?_
              refine T_aaloadR (r := b + (259 + la.toNat)) (am_dec tX12_leaks_1 11 rfl) (by decide) (mh_leak hl) (by omega) (by omega) (if_pos (by omega)) ?_
              refine T_iload_n (am_dec tX12_leaks_1 12 rfl) rfl ?_
              refine T_ialoadE (x := q66 (259 + la.toNat) lb.toNat) (am_dec tX12_leaks_1 13 rfl) (mr_leak hl (i := la) (by omega) (by omega)) (by omega) (by omega) rfl ?_
              refine T_aload_n (am_dec tX12_leaks_1 14 rfl) rfl ?_
              refine T_getfield 11 23 (am_dec tX12_leaks_1 15 rfl) flX12_61_11 (md_obj hl) rfl ?_
              refine T_iload_n (am_dec tX12_leaks_1 16 rfl) rfl ?_
              refine T_aaloadR (r := b + (96 + lb.toNat)) (am_dec tX12_leaks_1 17 rfl) (by decide) (mh_lot hl) (by omega) (by omega) (if_pos (by omega)) ?_
              refine T_iconst 5 (am_dec tX12_leaks_1 18 rfl) rfl ⟨by decide, by decide⟩ ?_
              refine T_ialoadE (x := c (96 + lb.toNat) 5) (am_dec tX12_leaks_1 19 rfl) (mr_lot hl (i := lb) (by omega) (by omega)) (by omega) (by omega) rfl ?_
              refine T_imulW (am_w32 ((q66 (259 + la.toNat) lb.toNat) * (c (96 + lb.toNat) 5))) (am_dec tX12_leaks_1 20 rfl) (am_w32e _).symm (am_w32r _) ?_
              refine T_weak (ls' := [none, none, none, none]) (am_sub_n (am_sub_n (am_sub_n (am_sub_n am_sub_nil)))) ?_
              exact K70 _ (if_neg h70).symm
            · refine T_aload_n (am_dec tX12_leaks_1 1 rfl) rfl ?_
              refine T_getfield 11 41 (am_dec tX12_leaks_1 2 rfl) flX12_103_11 (md_obj hl) rfl ?_
              refine T_iload_n (am_dec tX12_leaks_1 3 rfl) rfl ?_
              refine T_aaloadR (r := b + (259 + la.toNat)) (am_dec tX12_leaks_1 4 rfl) (by decide) (mh_leak hl) (by omega) (by omega) (if_pos (by omega)) ?_
              refine T_iload_n (am_dec tX12_leaks_1 5 rfl) rfl ?_
              refine T_ialoadE (x := q66 (259 + la.toNat) lb.toNat) (am_dec tX12_leaks_1 6 rfl) (mr_leak hl (i := la) (by omega) (by omega)) (by omega) (by omega) rfl ?_
              refine T_goto 101 (am_dec tX12_leaks_1 7 rfl) rfl ?_
              refine T_weak (ls' := [none, none, none, none]) (am_sub_n (am_sub_n (am_sub_n (am_sub_n am_sub_nil)))) ?_
              exact K70 _ (if_pos h70).symm
          · refine T_iconst 0 (am_dec tX12_leaks_0 35 rfl) rfl ⟨by decide, by decide⟩ ?_
            exact T_ireturn (am_dec tX12_leaks_0 36 rfl) rfl (am_tr (fun (x9 : Int × am_F) => Q (.inl (some (aI (x9.1)))) (mdW w b c x9.2)) (y := (0, q57)) (show (k_leaks c q la lb what) = (0, q57) from (by have s9 := hz8.symm; subst s9; have s9 := ht11.symm; subst s9; have s9 := hq29.symm; subst s9; have s9 := hz29.symm; subst s9; have s9 := ht38.symm; subst s9; have s9 := hq57.symm; subst s9; have s9 := hz57.symm; subst s9; exact ((if_pos h32).trans (if_neg h60)))) hQ)
        refine T_icmp_eq 50 (am_dec tX12_leaks_0 22 rfl) rfl (fun h38 => ?_) (fun h38 => ?_)
        · refine T_iconst 1 (am_dec tX12_leaks_0 28 rfl) rfl ⟨by decide, by decide⟩ ?_
          refine T_goto 55 (am_dec tX12_leaks_0 29 rfl) rfl ?_
          exact K38 _ (if_pos h38).symm
        · refine T_iload_n (am_dec tX12_leaks_0 23 rfl) rfl ?_
          refine T_iconst 0 (am_dec tX12_leaks_0 24 rfl) rfl ⟨by decide, by decide⟩ ?_
          refine T_iconst 1 (am_dec tX12_leaks_0 25 rfl) rfl ⟨by decide, by decide⟩ ?_
          refine T_callS (as := [aI what, aI 0, aI 1]) rfl (am_dec tX12_leaks_0 26 rfl) lkX12_194 rfl (Nat.le_of_ble_eq_true rfl) (by omega) (mk_in (d := d - 1)  what 0 1   ) (fun _ => ?_)
          refine T_nm (fun z44 hz44 => ?_)
          have hb44 := k_in_b what 0 1
          rw [← hz44] at hb44
          have hs44 := k_in_s what 0 1
          rw [← hz44] at hs44
          have K47 : ∀ (t47 : Int), t47 = (if z44 = 0 then 1 else 0) →  am_T S zX12_leaks d u Q 55 [some (aR b), some (aI la), some (aI lb), some (aI what)] [aI t47, aR b] (mdW w b c q29) := by
            intro t47 ht47
            have hbt47 : t47 = 0 ∨ t47 = 1 := by
              rw [ht47]
              try dsimp only
              repeat' split
              all_goals first | exact Or.inl rfl | exact Or.inr rfl | apply k_in_b | apply k_isDigit_b | apply k_isSmall_b | apply k_bad_b | apply k_isIn_b | apply k_isStep_b | apply k_isFirst_b | apply k_isLine_b | apply k_seesBy_b | apply k_isWalker_b | apply k_seesOne_b | apply k_badTwo_b | apply k_sees_b | apply k_isCode_b | apply k_isLot_b | omega
            exact K38 _ (by have s9 := hz44.symm; subst s9; have s9 := ht47.symm; subst s9; exact (if_neg h38).symm)
          refine T_if_ne 54 (am_dec tX12_leaks_0 27 rfl) rfl (fun h47 => ?_) (fun h47 => ?_)
          · refine T_iconst 0 (am_dec tX12_leaks_0 30 rfl) rfl ⟨by decide, by decide⟩ ?_
            exact K47 _ (if_neg h47).symm
          · refine T_iconst 1 (am_dec tX12_leaks_0 28 rfl) rfl ⟨by decide, by decide⟩ ?_
            refine T_goto 55 (am_dec tX12_leaks_0 29 rfl) rfl ?_
            exact K47 _ (if_pos h47).symm
    refine T_if_eq 22 (am_dec tX12_leaks_0 7 rfl) rfl (fun h11 => ?_) (fun h11 => ?_)
    · refine T_iconst 1 (am_dec tX12_leaks_0 12 rfl) rfl ⟨by decide, by decide⟩ ?_
      refine T_goto 27 (am_dec tX12_leaks_0 13 rfl) rfl ?_
      exact K11 _ (if_pos h11).symm
    · refine T_aload_n (am_dec tX12_leaks_0 8 rfl) rfl ?_
      refine T_iload_n (am_dec tX12_leaks_0 9 rfl) rfl ?_
      refine T_callV (as := [aI lb]) rfl (am_dec tX12_leaks_0 10 rfl) lkX12_412 (md_obj hl) rfl rfl (Nat.le_of_ble_eq_true rfl) (by omega) (mk_isLot (d := d - 1) hl lb  hV (by omega)) (fun _ => ?_)
      refine T_nm (fun z16 hz16 => ?_)
      have hb16 := k_isLot_b c lb
      rw [← hz16] at hb16
      have hs16 := k_isLot_s c lb
      rw [← hz16] at hs16
      have K19 : ∀ (t19 : Int), t19 = (if z16 = 0 then 1 else 0) →  am_T S zX12_leaks d u Q 27 [some (aR b), some (aI la), some (aI lb), some (aI what)] [aI t19, aR b] (mdW w b c (am_put q 0 0 0)) := by
        intro t19 ht19
        have hbt19 : t19 = 0 ∨ t19 = 1 := by
          rw [ht19]
          try dsimp only
          repeat' split
          all_goals first | exact Or.inl rfl | exact Or.inr rfl | apply k_in_b | apply k_isDigit_b | apply k_isSmall_b | apply k_bad_b | apply k_isIn_b | apply k_isStep_b | apply k_isFirst_b | apply k_isLine_b | apply k_seesBy_b | apply k_isWalker_b | apply k_seesOne_b | apply k_badTwo_b | apply k_sees_b | apply k_isCode_b | apply k_isLot_b | omega
        exact K11 _ (by have s9 := hz16.symm; subst s9; have s9 := ht19.symm; subst s9; exact (if_neg h11).symm)
      refine T_if_ne 26 (am_dec tX12_leaks_0 11 rfl) rfl (fun h19 => ?_) (fun h19 => ?_)
      · refine T_iconst 0 (am_dec tX12_leaks_0 14 rfl) rfl ⟨by decide, by decide⟩ ?_
        exact K19 _ (if_neg h19).symm
      · refine T_iconst 1 (am_dec tX12_leaks_0 12 rfl) rfl ⟨by decide, by decide⟩ ?_
        refine T_goto 27 (am_dec tX12_leaks_0 13 rfl) rfl ?_
        exact K19 _ (if_pos h19).symm
  exact key _ ⟨rfl, rfl⟩
def g_k_net_37 (c : am_F) (q : am_F) (k : Int) (j : Int) (v : Int) : Int := am_w32 (v + (am_w32 ((am_w32 ((q (259 + j.toNat) k.toNat) * (c (96 + k.toNat) 5))) - (am_w32 ((q (259 + k.toNat) j.toNat) * (c (96 + j.toNat) 5))))))
theorem L_k_net_37 {S : am_S} {d u : Nat} {Q : AO → AH → Prop} {w : AH} {b : Nat} (hl : b + 735 ≤ w.length) (c : am_F) (q : am_F) (k : Int) (hV : MdV c) (hWd : MdWd c) (hS9 : MdS c) (hLp : MdLp c) (hDu : MdDu c) (hL : MdL c) (hk : 0 ≤ k ∧ k < c 4 3) (hd : 5 ≤ d) (B9 : Int) (hB : B9 = c 4 3) : ∀ (n : Nat) (j : Int) (v : Int), j + n = B9 → 0 ≤ j → (∀ (v' : Int), v' = am_fold (g_k_net_37 c q k) j n v → am_T S zX12_net d u Q 91 [none, none, some (aI v'), none] [] (mdW w b c q)) → am_T S zX12_net d u Q 37 [some (aR b), some (aI k), some (aI v), some (aI j)] [] (mdW w b c q) := by
  intro n
  induction n with
  | zero =>
    intro j v hi9 h0i k9
    have e9 : j = B9 := by omega
    subst e9
    obtain ⟨vl0, vu0⟩ := MdV_0 hV
    obtain ⟨vl1, vu1⟩ := MdV_1 hV
    obtain ⟨vl3, vu3⟩ := MdV_3 hV
    refine T_iload_n (am_dec tX12_net_0 23 rfl) rfl ?_
    refine T_aload_n (am_dec tX12_net_0 24 rfl) rfl ?_
    refine T_getfield 11 11 (am_dec tX12_net_0 25 rfl) flX12_23_11 (md_obj hl) rfl ?_
    refine T_iconst 3 (am_dec tX12_net_0 26 rfl) rfl ⟨by decide, by decide⟩ ?_
    refine T_ialoadE (x := c 4 3) (am_dec tX12_net_0 27 rfl) (md_told hl) (by omega) (by omega) rfl ?_
    refine T_icmp_ge 91 (am_dec tX12_net_0 28 rfl) rfl (fun h44 => ?_) (fun h44 => by exfalso; omega)
    refine T_weak (ls' := [none, none, some (aI v), none]) (am_sub_n (am_sub_n (am_sub_s (am_sub_n am_sub_nil)))) ?_
    exact k9 v rfl
  | succ n ih =>
    intro j v hi9 h0i k9
    obtain ⟨vl0, vu0⟩ := MdV_0 hV
    obtain ⟨vl1, vu1⟩ := MdV_1 hV
    obtain ⟨vl3, vu3⟩ := MdV_3 hV
    refine T_iload_n (am_dec tX12_net_0 23 rfl) rfl ?_
    refine T_aload_n (am_dec tX12_net_0 24 rfl) rfl ?_
    refine T_getfield 11 11 (am_dec tX12_net_0 25 rfl) flX12_23_11 (md_obj hl) rfl ?_
    refine T_iconst 3 (am_dec tX12_net_0 26 rfl) rfl ⟨by decide, by decide⟩ ?_
    refine T_ialoadE (x := c 4 3) (am_dec tX12_net_0 27 rfl) (md_told hl) (by omega) (by omega) rfl ?_
    refine T_icmp_ge 91 (am_dec tX12_net_0 28 rfl) rfl (fun h44 => by exfalso; omega) (fun h44 => ?_)
    refine T_iload_n (am_dec tX12_net_0 29 rfl) rfl ?_
    refine T_aload_n (am_dec tX12_net_0 30 rfl) rfl ?_
    refine T_getfield 11 41 (am_dec tX12_net_0 31 rfl) flX12_103_11 (md_obj hl) rfl ?_
    refine T_iload_n (am_dec tX12_net_0 32 rfl) rfl ?_
    refine T_aaloadR (r := b + (259 + j.toNat)) (am_dec tX12_net_0 33 rfl) (by decide) (mh_leak hl) (by omega) (by omega) (if_pos (by omega)) ?_
    refine T_iload_n (am_dec tX12_net_0 34 rfl) rfl ?_
    refine T_ialoadE (x := q (259 + j.toNat) k.toNat) (am_dec tX12_net_0 35 rfl) (mr_leak hl (i := j) (by omega) (by omega)) (by omega) (by omega) rfl ?_
    refine T_aload_n (am_dec tX12_net_0 36 rfl) rfl ?_
    refine T_getfield 11 23 (am_dec tX12_net_0 37 rfl) flX12_61_11 (md_obj hl) rfl ?_
    refine T_iload_n (am_dec tX12_net_0 38 rfl) rfl ?_
    refine T_aaloadR (r := b + (96 + k.toNat)) (am_dec tX12_net_0 39 rfl) (by decide) (mh_lot hl) (by omega) (by omega) (if_pos (by omega)) ?_
    refine T_iconst 5 (am_dec tX12_net_1 0 rfl) rfl ⟨by decide, by decide⟩ ?_
    refine T_ialoadE (x := c (96 + k.toNat) 5) (am_dec tX12_net_1 1 rfl) (mr_lot hl (i := k) (by omega) (by omega)) (by omega) (by omega) rfl ?_
    refine T_imulW (am_w32 ((q (259 + j.toNat) k.toNat) * (c (96 + k.toNat) 5))) (am_dec tX12_net_1 2 rfl) (am_w32e _).symm (am_w32r _) ?_
    refine T_aload_n (am_dec tX12_net_1 3 rfl) rfl ?_
    refine T_getfield 11 41 (am_dec tX12_net_1 4 rfl) flX12_103_11 (md_obj hl) rfl ?_
    refine T_iload_n (am_dec tX12_net_1 5 rfl) rfl ?_
    refine T_aaloadR (r := b + (259 + k.toNat)) (am_dec tX12_net_1 6 rfl) (by decide) (mh_leak hl) (by omega) (by omega) (if_pos (by omega)) ?_
    refine T_iload_n (am_dec tX12_net_1 7 rfl) rfl ?_
    refine T_ialoadE (x := q (259 + k.toNat) j.toNat) (am_dec tX12_net_1 8 rfl) (mr_leak hl (i := k) (by omega) (by omega)) (by omega) (by omega) rfl ?_
    refine T_aload_n (am_dec tX12_net_1 9 rfl) rfl ?_
    refine T_getfield 11 23 (am_dec tX12_net_1 10 rfl) flX12_61_11 (md_obj hl) rfl ?_
    refine T_iload_n (am_dec tX12_net_1 11 rfl) rfl ?_
    refine T_aaloadR (r := b + (96 + j.toNat)) (am_dec tX12_net_1 12 rfl) (by decide) (mh_lot hl) (by omega) (by omega) (if_pos (by omega)) ?_
    refine T_iconst 5 (am_dec tX12_net_1 13 rfl) rfl ⟨by decide, by decide⟩ ?_
    refine T_ialoadE (x := c (96 + j.toNat) 5) (am_dec tX12_net_1 14 rfl) (mr_lot hl (i := j) (by omega) (by omega)) (by omega) (by omega) rfl ?_
    refine T_imulW (am_w32 ((q (259 + k.toNat) j.toNat) * (c (96 + j.toNat) 5))) (am_dec tX12_net_1 15 rfl) (am_w32e _).symm (am_w32r _) ?_
    refine T_isubW (am_w32 ((am_w32 ((q (259 + j.toNat) k.toNat) * (c (96 + k.toNat) 5))) - (am_w32 ((q (259 + k.toNat) j.toNat) * (c (96 + j.toNat) 5))))) (am_dec tX12_net_1 16 rfl) (am_w32e _).symm (am_w32r _) ?_
    refine T_iaddW (am_w32 (v + (am_w32 ((am_w32 ((q (259 + j.toNat) k.toNat) * (c (96 + k.toNat) 5))) - (am_w32 ((q (259 + k.toNat) j.toNat) * (c (96 + j.toNat) 5))))))) (am_dec tX12_net_1 17 rfl) (am_w32e _).symm (am_w32r _) ?_
    refine T_nm (fun v_84 hv_84 => ?_)
    refine T_istore_n (ls' := [some (aR b), some (aI k), some (aI v_84), some (aI j)]) (am_dec tX12_net_1 18 rfl) (by decide) rfl ?_
    refine T_iinc (ls' := [some (aR b), some (aI k), some (aI v_84), some (aI (j + 1))]) (j + 1) (am_dec tX12_net_1 19 rfl) rfl rfl ⟨by omega, by omega⟩ (by decide) rfl ?_
    refine T_goto 37 (am_dec tX12_net_1 20 rfl) rfl ?_
    have e9 : (g_k_net_37 c q k) j v = v_84 := (by have s9 := hv_84.symm; subst s9; exact rfl)
    simp only [am_fold_s, e9] at k9
    exact ih (j + 1) v_84 (by omega) (by omega) k9
def k_net (c : am_F) (q : am_F) (k : Int) : Int × am_F := (let z8 : Int := (k_isLot c k); (let t11 : Int := (if z8 = 0 then 1 else 0); (let q21 : am_F := (k_refuse (am_put q 0 0 0) t11 1 1); (let z21 : Int := (if t11 = 0 then 0 else 1); (if z21 = 0 then (let q30 : am_F := k_goes c q21; (let v_37 : Int := am_fold (g_k_net_37 c q30 k) 0 (c 4 3).toNat 0; (v_37, q30))) else (0, q21))))))
theorem mk_net {S : am_S} {d u : Nat} {w : AH} {b : Nat} (hl : b + 735 ≤ w.length) {c : am_F} {q : am_F} (k : Int) (hV : MdV c) (hWd : MdWd c) (hS9 : MdS c) (hLp : MdLp c) (hDu : MdDu c) (hL : MdL c) (hd : 5 ≤ d) : am_Out S zX12_net d u [aR b, aI k] (mdW w b c q) (.inl (some (aI ((k_net c q k).1)))) (mdW w b c ((k_net c q k).2)) := by
  have key : ∀ Q : AO → AH → Prop, Q (.inl (some (aI ((k_net c q k).1)))) (mdW w b c ((k_net c q k).2)) → am_M S zX12_net d u [aR b, aI k] (mdW w b c q) Q := by
    intro Q hQ
    refine am_body rfl (by decide +kernel) rfl (am_cats_cons rfl ( am_cats_cons rfl (am_cats_nil))) (Nat.le_of_ble_eq_true rfl) (?_ : am_T _ _ _ _ _ 0 [some (aR b), some (aI k), none, none] [] (mdW w b c q))
    obtain ⟨vl0, vu0⟩ := MdV_0 hV
    obtain ⟨vl1, vu1⟩ := MdV_1 hV
    obtain ⟨vl3, vu3⟩ := MdV_3 hV
    refine T_aload_n (am_dec tX12_net_0 0 rfl) rfl ?_
    refine T_iconst 0 (am_dec tX12_net_0 1 rfl) rfl ⟨by decide, by decide⟩ ?_
    refine T_putfield (fs' := mdO b (c 0) (am_up (q 0) 0 0)) 11 0 (am_dec tX12_net_0 2 rfl) flX12_160_11 rfl rfl rfl trivial (md_obj hl) (Nat.le_of_ble_eq_true rfl) rfl ?_
    refine am_wE (w2 := mdW w b c (am_put q 0 0 0)) (md_fq) ?_
    refine T_aload_n (am_dec tX12_net_0 3 rfl) rfl ?_
    refine T_aload_n (am_dec tX12_net_0 4 rfl) rfl ?_
    refine T_iload_n (am_dec tX12_net_0 5 rfl) rfl ?_
    refine T_callV (as := [aI k]) rfl (am_dec tX12_net_0 6 rfl) lkX12_412 (md_obj hl) rfl rfl (Nat.le_of_ble_eq_true rfl) (by omega) (mk_isLot (d := d - 1) hl k  hV (by omega)) (fun _ => ?_)
    refine T_nm (fun z8 hz8 => ?_)
    have hb8 := k_isLot_b c k
    rw [← hz8] at hb8
    have hs8 := k_isLot_s c k
    rw [← hz8] at hs8
    have K11 : ∀ (t11 : Int), t11 = (if z8 = 0 then 1 else 0) →  am_T S zX12_net d u Q 19 [some (aR b), some (aI k), none, none] [aI t11, aR b] (mdW w b c (am_put q 0 0 0)) := by
      intro t11 ht11
      have hbt11 : t11 = 0 ∨ t11 = 1 := by
        rw [ht11]
        try dsimp only
        repeat' split
        all_goals first | exact Or.inl rfl | exact Or.inr rfl | apply k_in_b | apply k_isDigit_b | apply k_isSmall_b | apply k_bad_b | apply k_isIn_b | apply k_isStep_b | apply k_isFirst_b | apply k_isLine_b | apply k_seesBy_b | apply k_isWalker_b | apply k_seesOne_b | apply k_badTwo_b | apply k_sees_b | apply k_isCode_b | apply k_isLot_b | omega
      refine T_iconst 1 (am_dec tX12_net_0 11 rfl) rfl ⟨by decide, by decide⟩ ?_
      refine T_iconst 1 (am_dec tX12_net_0 12 rfl) rfl ⟨by decide, by decide⟩ ?_
      refine T_callV (as := [aI t11, aI 1, aI 1]) rfl (am_dec tX12_net_0 13 rfl) lkX12_275 (md_obj hl) rfl rfl (Nat.le_of_ble_eq_true rfl) (by omega) (mk_bad0 (d := d - 1) hl t11 1 1 (by omega) am_put_s (by omega)) (fun _ => ?_)
      refine T_nmH (W := fun x9 => mdW w b c x9) (v := (k_refuse (am_put q 0 0 0) t11 1 1)) (fun q21 hq21 => ?_)
      refine T_nm (fun z21 hz21 => ?_)
      have hq021 : t11 = 0 → q21 0 0 = 0 := fun h9 => by rw [hq21]; exact k_refuse_0 am_put_s h9
      refine T_if_eq 29 (am_dec tX12_net_0 14 rfl) rfl (fun h24 => ?_) (fun h24 => ?_)
      · refine T_aload_n (am_dec tX12_net_0 17 rfl) rfl ?_
        refine T_callV (as := []) rfl (am_dec tX12_net_0 18 rfl) lkX12_345 (md_obj hl) rfl rfl (Nat.le_of_ble_eq_true rfl) (by omega) (mk_goes (d := d - 1) hl   hV hWd hS9 hLp hDu (by omega)) (fun _ => ?_)
        refine T_nmH (W := fun x9 => mdW w b c x9) (v := k_goes c q21) (fun q30 hq30 => ?_)
        refine T_iconst 0 (am_dec tX12_net_0 19 rfl) rfl ⟨by decide, by decide⟩ ?_
        refine T_istore_n (ls' := [some (aR b), some (aI k), some (aI 0), none]) (am_dec tX12_net_0 20 rfl) (by decide) rfl ?_
        refine T_iconst 0 (am_dec tX12_net_0 21 rfl) rfl ⟨by decide, by decide⟩ ?_
        refine T_istore_n (ls' := [some (aR b), some (aI k), some (aI 0), some (aI 0)]) (am_dec tX12_net_0 22 rfl) (by decide) rfl ?_
        refine L_k_net_37 hl c q30 k hV hWd hS9 hLp hDu hL (by omega) (by omega) _ rfl (c 4 3).toNat 0 0 (by omega) (by omega) (fun v_37 hv_37 => ?_)
        refine T_iload_n (am_dec tX12_net_1 21 rfl) rfl ?_
        exact T_ireturn (am_dec tX12_net_1 22 rfl) rfl (am_tr (fun (x9 : Int × am_F) => Q (.inl (some (aI (x9.1)))) (mdW w b c x9.2)) (y := (v_37, q30)) (show (k_net c q k) = (v_37, q30) from (by have s9 := hz8.symm; subst s9; have s9 := ht11.symm; subst s9; have s9 := hq21.symm; subst s9; have s9 := hz21.symm; subst s9; have s9 := hq30.symm; subst s9; have s9 := hv_37.symm; subst s9; exact (if_pos h24))) hQ)
      · refine T_iconst 0 (am_dec tX12_net_0 15 rfl) rfl ⟨by decide, by decide⟩ ?_
        exact T_ireturn (am_dec tX12_net_0 16 rfl) rfl (am_tr (fun (x9 : Int × am_F) => Q (.inl (some (aI (x9.1)))) (mdW w b c x9.2)) (y := (0, q21)) (show (k_net c q k) = (0, q21) from (by have s9 := hz8.symm; subst s9; have s9 := ht11.symm; subst s9; have s9 := hq21.symm; subst s9; have s9 := hz21.symm; subst s9; exact (if_neg h24))) hQ)
    refine T_if_ne 18 (am_dec tX12_net_0 7 rfl) rfl (fun h11 => ?_) (fun h11 => ?_)
    · refine T_iconst 0 (am_dec tX12_net_0 10 rfl) rfl ⟨by decide, by decide⟩ ?_
      exact K11 _ (if_neg h11).symm
    · refine T_iconst 1 (am_dec tX12_net_0 8 rfl) rfl ⟨by decide, by decide⟩ ?_
      refine T_goto 19 (am_dec tX12_net_0 9 rfl) rfl ?_
      exact K11 _ (if_pos h11).symm
  exact key _ ⟨rfl, rfl⟩
def k_bid (c : am_F) (q : am_F) (k : Int) (yds : Int) (pr : Int) : Int × am_F × am_F := (let z8 : Int := (k_isLot c k); (let t11 : Int := (if z8 = 0 then 1 else 0); (let q21 : am_F := (k_refuse (am_put q 0 0 0) t11 1 1); (let z21 : Int := (if t11 = 0 then 0 else 1); (if z21 = 0 then (let z33 : Int := (k_in yds 1 999); (let t36 : Int := (if z33 = 0 then 1 else (let z43 : Int := (k_in pr 1 99); (if z43 = 0 then 1 else 0))); (let q56 : am_F := (k_refuse q21 t36 2 2); (let z56 : Int := (if t36 = 0 then 0 else 1); (if z56 = 0 then (if c 0 30 = 12 then ((-1), c, q56) else (((c 0 30) + 1), (am_put (am_put (am_put (am_put c (133 + (c 0 30).toNat) 0 k) (133 + (c 0 30).toNat) 1 yds) (133 + (c 0 30).toNat) 2 pr) 0 30 ((c 0 30) + 1)), q56)) else (0, c, q56)))))) else (0, c, q21))))))
theorem mk_bid {S : am_S} {d u : Nat} {w : AH} {b : Nat} (hl : b + 735 ≤ w.length) {c : am_F} {q : am_F} (k : Int) (yds : Int) (pr : Int) (hV : MdV c) (hd : 2 ≤ d) : am_Out S zX12_bid d u [aR b, aI k, aI yds, aI pr] (mdW w b c q) (.inl (some (aI ((k_bid c q k yds pr).1)))) (mdW w b ((k_bid c q k yds pr).2.1) ((k_bid c q k yds pr).2.2)) := by
  have key : ∀ Q : AO → AH → Prop, Q (.inl (some (aI ((k_bid c q k yds pr).1)))) (mdW w b ((k_bid c q k yds pr).2.1) ((k_bid c q k yds pr).2.2)) → am_M S zX12_bid d u [aR b, aI k, aI yds, aI pr] (mdW w b c q) Q := by
    intro Q hQ
    refine am_body rfl (by decide +kernel) rfl (am_cats_cons rfl ( am_cats_cons rfl ( am_cats_cons rfl ( am_cats_cons rfl (am_cats_nil))))) (Nat.le_of_ble_eq_true rfl) (?_ : am_T _ _ _ _ _ 0 [some (aR b), some (aI k), some (aI yds), some (aI pr)] [] (mdW w b c q))
    obtain ⟨vl0, vu0⟩ := MdV_0 hV
    obtain ⟨vl1, vu1⟩ := MdV_1 hV
    obtain ⟨vl3, vu3⟩ := MdV_3 hV
    obtain ⟨vl12, vu12⟩ := MdV_12 hV
    refine T_aload_n (am_dec tX12_bid_0 0 rfl) rfl ?_
    refine T_iconst 0 (am_dec tX12_bid_0 1 rfl) rfl ⟨by decide, by decide⟩ ?_
    refine T_putfield (fs' := mdO b (c 0) (am_up (q 0) 0 0)) 11 0 (am_dec tX12_bid_0 2 rfl) flX12_160_11 rfl rfl rfl trivial (md_obj hl) (Nat.le_of_ble_eq_true rfl) rfl ?_
    refine am_wE (w2 := mdW w b c (am_put q 0 0 0)) (md_fq) ?_
    refine T_aload_n (am_dec tX12_bid_0 3 rfl) rfl ?_
    refine T_aload_n (am_dec tX12_bid_0 4 rfl) rfl ?_
    refine T_iload_n (am_dec tX12_bid_0 5 rfl) rfl ?_
    refine T_callV (as := [aI k]) rfl (am_dec tX12_bid_0 6 rfl) lkX12_412 (md_obj hl) rfl rfl (Nat.le_of_ble_eq_true rfl) (by omega) (mk_isLot (d := d - 1) hl k  hV (by omega)) (fun _ => ?_)
    refine T_nm (fun z8 hz8 => ?_)
    have hb8 := k_isLot_b c k
    rw [← hz8] at hb8
    have hs8 := k_isLot_s c k
    rw [← hz8] at hs8
    have K11 : ∀ (t11 : Int), t11 = (if z8 = 0 then 1 else 0) →  am_T S zX12_bid d u Q 19 [some (aR b), some (aI k), some (aI yds), some (aI pr)] [aI t11, aR b] (mdW w b c (am_put q 0 0 0)) := by
      intro t11 ht11
      have hbt11 : t11 = 0 ∨ t11 = 1 := by
        rw [ht11]
        try dsimp only
        repeat' split
        all_goals first | exact Or.inl rfl | exact Or.inr rfl | apply k_in_b | apply k_isDigit_b | apply k_isSmall_b | apply k_bad_b | apply k_isIn_b | apply k_isStep_b | apply k_isFirst_b | apply k_isLine_b | apply k_seesBy_b | apply k_isWalker_b | apply k_seesOne_b | apply k_badTwo_b | apply k_sees_b | apply k_isCode_b | apply k_isLot_b | omega
      refine T_iconst 1 (am_dec tX12_bid_0 11 rfl) rfl ⟨by decide, by decide⟩ ?_
      refine T_iconst 1 (am_dec tX12_bid_0 12 rfl) rfl ⟨by decide, by decide⟩ ?_
      refine T_callV (as := [aI t11, aI 1, aI 1]) rfl (am_dec tX12_bid_0 13 rfl) lkX12_275 (md_obj hl) rfl rfl (Nat.le_of_ble_eq_true rfl) (by omega) (mk_bad0 (d := d - 1) hl t11 1 1 (by omega) am_put_s (by omega)) (fun _ => ?_)
      refine T_nmH (W := fun x9 => mdW w b c x9) (v := (k_refuse (am_put q 0 0 0) t11 1 1)) (fun q21 hq21 => ?_)
      refine T_nm (fun z21 hz21 => ?_)
      have hq021 : t11 = 0 → q21 0 0 = 0 := fun h9 => by rw [hq21]; exact k_refuse_0 am_put_s h9
      refine T_if_ne 62 (am_dec tX12_bid_0 14 rfl) rfl (fun h24 => ?_) (fun h24 => ?_)
      · refine T_iconst 0 (am_dec tX12_bid_0 33 rfl) rfl ⟨by decide, by decide⟩ ?_
        exact T_ireturn (am_dec tX12_bid_0 34 rfl) rfl (am_tr (fun (x9 : Int × am_F × am_F) => Q (.inl (some (aI (x9.1)))) (mdW w b x9.2.1 x9.2.2)) (y := (0, c, q21)) (show (k_bid c q k yds pr) = (0, c, q21) from (by have s9 := hz8.symm; subst s9; have s9 := ht11.symm; subst s9; have s9 := hq21.symm; subst s9; have s9 := hz21.symm; subst s9; exact (if_neg h24))) hQ)
      · refine T_aload_n (am_dec tX12_bid_0 15 rfl) rfl ?_
        refine T_iload_n (am_dec tX12_bid_0 16 rfl) rfl ?_
        refine T_iconst 1 (am_dec tX12_bid_0 17 rfl) rfl ⟨by decide, by decide⟩ ?_
        refine T_sipush 999 (am_dec tX12_bid_0 18 rfl) rfl ⟨by decide, by decide⟩ ?_
        refine T_callS (as := [aI yds, aI 1, aI 999]) rfl (am_dec tX12_bid_0 19 rfl) lkX12_194 rfl (Nat.le_of_ble_eq_true rfl) (by omega) (mk_in (d := d - 1)  yds 1 999   ) (fun _ => ?_)
        refine T_nm (fun z33 hz33 => ?_)
        have hb33 := k_in_b yds 1 999
        rw [← hz33] at hb33
        have hs33 := k_in_s yds 1 999
        rw [← hz33] at hs33
        have K36 : ∀ (t36 : Int), t36 = (if z33 = 0 then 1 else (let z43 : Int := (k_in pr 1 99); (if z43 = 0 then 1 else 0))) →  am_T S zX12_bid d u Q 54 [some (aR b), some (aI k), some (aI yds), some (aI pr)] [aI t36, aR b] (mdW w b c q21) := by
          intro t36 ht36
          have hxt36 := ht36
          dsimp only at hxt36
          have hy2 := k_in_s pr 1 99
          have hbt36 : t36 = 0 ∨ t36 = 1 := by
            rw [ht36]
            try dsimp only
            repeat' split
            all_goals first | exact Or.inl rfl | exact Or.inr rfl | apply k_in_b | apply k_isDigit_b | apply k_isSmall_b | apply k_bad_b | apply k_isIn_b | apply k_isStep_b | apply k_isFirst_b | apply k_isLine_b | apply k_seesBy_b | apply k_isWalker_b | apply k_seesOne_b | apply k_badTwo_b | apply k_sees_b | apply k_isCode_b | apply k_isLot_b | omega
          refine T_iconst 2 (am_dec tX12_bid_0 29 rfl) rfl ⟨by decide, by decide⟩ ?_
          refine T_iconst 2 (am_dec tX12_bid_0 30 rfl) rfl ⟨by decide, by decide⟩ ?_
          refine T_callV (as := [aI t36, aI 2, aI 2]) rfl (am_dec tX12_bid_0 31 rfl) lkX12_275 (md_obj hl) rfl rfl (Nat.le_of_ble_eq_true rfl) (by omega) (mk_bad0 (d := d - 1) hl t36 2 2 (by omega) (hq021 (by omega)) (by omega)) (fun _ => ?_)
          refine T_nmH (W := fun x9 => mdW w b c x9) (v := (k_refuse q21 t36 2 2)) (fun q56 hq56 => ?_)
          refine T_nm (fun z56 hz56 => ?_)
          have hq056 : t36 = 0 → q56 0 0 = 0 := fun h9 => by rw [hq56]; exact k_refuse_0 (hq021 (by omega)) h9
          refine T_if_eq 64 (am_dec tX12_bid_0 32 rfl) rfl (fun h59 => ?_) (fun h59 => ?_)
          · refine T_aload_n (am_dec tX12_bid_0 35 rfl) rfl ?_
            refine T_getfield 11 30 (am_dec tX12_bid_0 36 rfl) flX12_292_11 (md_obj hl) rfl ?_
            refine T_bipush 12 (am_dec tX12_bid_0 37 rfl) rfl ⟨by decide, by decide⟩ ?_
            refine T_icmp_ne 75 (am_dec tX12_bid_0 38 rfl) rfl (fun h70 => ?_) (fun h70 => ?_)
            · refine T_aload_n (am_dec tX12_bid_1 1 rfl) rfl ?_
              refine T_getfield 11 34 (am_dec tX12_bid_1 2 rfl) flX12_82_11 (md_obj hl) rfl ?_
              refine T_aload_n (am_dec tX12_bid_1 3 rfl) rfl ?_
              refine T_getfield 11 30 (am_dec tX12_bid_1 4 rfl) flX12_292_11 (md_obj hl) rfl ?_
              refine T_aaloadR (r := b + (133 + (c 0 30).toNat)) (am_dec tX12_bid_1 5 rfl) (by decide) (mh_bid hl) (by omega) (by omega) (if_pos (by omega)) ?_
              refine T_iconst 0 (am_dec tX12_bid_1 6 rfl) rfl ⟨by decide, by decide⟩ ?_
              refine T_iload_n (am_dec tX12_bid_1 7 rfl) rfl ?_
              refine T_iastore (am_dec tX12_bid_1 8 rfl) (mr_bid hl (i := (c 0 30)) (by omega) (by omega)) (by omega) (by omega) ?_
              refine am_wE (w2 := mdW w b (am_put c (133 + (c 0 30).toNat) 0 k) q56) (md_pc (by omega) (fun f g => md_t_bid f g (by omega))) ?_
              refine T_aload_n (am_dec tX12_bid_1 9 rfl) rfl ?_
              refine T_getfield 11 34 (am_dec tX12_bid_1 10 rfl) flX12_82_11 (md_obj hl) rfl ?_
              refine T_aload_n (am_dec tX12_bid_1 11 rfl) rfl ?_
              refine T_getfield 11 30 (am_dec tX12_bid_1 12 rfl) flX12_292_11 (md_obj hl) (md_fe rfl (am_put_k (by omega))) ?_
              refine T_aaloadR (r := b + (133 + (c 0 30).toNat)) (am_dec tX12_bid_1 13 rfl) (by decide) (mh_bid hl) (by omega) (by omega) (if_pos (by omega)) ?_
              refine T_iconst 1 (am_dec tX12_bid_1 14 rfl) rfl ⟨by decide, by decide⟩ ?_
              refine T_iload_n (am_dec tX12_bid_1 15 rfl) rfl ?_
              refine T_iastore (am_dec tX12_bid_1 16 rfl) (mr_bid hl (i := (c 0 30)) (by omega) (by omega)) (by omega) (by omega) ?_
              refine am_wE (w2 := mdW w b (am_put (am_put c (133 + (c 0 30).toNat) 0 k) (133 + (c 0 30).toNat) 1 yds) q56) (md_pc (by omega) (fun f g => md_t_bid f g (by omega))) ?_
              refine T_aload_n (am_dec tX12_bid_1 17 rfl) rfl ?_
              refine T_getfield 11 34 (am_dec tX12_bid_1 18 rfl) flX12_82_11 (md_obj hl) rfl ?_
              refine T_aload_n (am_dec tX12_bid_1 19 rfl) rfl ?_
              refine T_getfield 11 30 (am_dec tX12_bid_1 20 rfl) flX12_292_11 (md_obj hl) (md_fe rfl ((am_put_k (by omega)).trans (am_put_k (by omega)))) ?_
              refine T_aaloadR (r := b + (133 + (c 0 30).toNat)) (am_dec tX12_bid_1 21 rfl) (by decide) (mh_bid hl) (by omega) (by omega) (if_pos (by omega)) ?_
              refine T_iconst 2 (am_dec tX12_bid_1 22 rfl) rfl ⟨by decide, by decide⟩ ?_
              refine T_iload_n (am_dec tX12_bid_1 23 rfl) rfl ?_
              refine T_iastore (am_dec tX12_bid_1 24 rfl) (mr_bid hl (i := (c 0 30)) (by omega) (by omega)) (by omega) (by omega) ?_
              refine am_wE (w2 := mdW w b (am_put (am_put (am_put c (133 + (c 0 30).toNat) 0 k) (133 + (c 0 30).toNat) 1 yds) (133 + (c 0 30).toNat) 2 pr) q56) (md_pc (by omega) (fun f g => md_t_bid f g (by omega))) ?_
              refine T_aload_n (am_dec tX12_bid_1 25 rfl) rfl ?_
              refine T_dup (am_dec tX12_bid_1 26 rfl) rfl ?_
              refine T_getfield 11 30 (am_dec tX12_bid_1 27 rfl) flX12_292_11 (md_obj hl) (md_fe rfl ((am_put_k (by omega)).trans ((am_put_k (by omega)).trans (am_put_k (by omega))))) ?_
              refine T_iconst 1 (am_dec tX12_bid_1 28 rfl) rfl ⟨by decide, by decide⟩ ?_
              refine T_iadd ((c 0 30) + 1) (am_dec tX12_bid_1 29 rfl) rfl ⟨by omega, by omega⟩ ?_
              refine T_putfield (fs' := mdO b (am_up ((am_put (am_put (am_put c (133 + (c 0 30).toNat) 0 k) (133 + (c 0 30).toNat) 1 yds) (133 + (c 0 30).toNat) 2 pr) 0) 30 ((c 0 30) + 1)) (q56 0)) 11 30 (am_dec tX12_bid_1 30 rfl) flX12_292_11 rfl rfl rfl trivial (md_obj hl) (Nat.le_of_ble_eq_true rfl) rfl ?_
              refine am_wE (w2 := mdW w b (am_put (am_put (am_put (am_put c (133 + (c 0 30).toNat) 0 k) (133 + (c 0 30).toNat) 1 yds) (133 + (c 0 30).toNat) 2 pr) 0 30 ((c 0 30) + 1)) q56) (md_fc) ?_
              refine T_aload_n (am_dec tX12_bid_1 31 rfl) rfl ?_
              refine T_getfield 11 30 (am_dec tX12_bid_1 32 rfl) flX12_292_11 (md_obj hl) (md_fe rfl (am_put_s)) ?_
              exact T_ireturn (am_dec tX12_bid_1 33 rfl) rfl (am_tr (fun (x9 : Int × am_F × am_F) => Q (.inl (some (aI (x9.1)))) (mdW w b x9.2.1 x9.2.2)) (y := (((c 0 30) + 1), (am_put (am_put (am_put (am_put c (133 + (c 0 30).toNat) 0 k) (133 + (c 0 30).toNat) 1 yds) (133 + (c 0 30).toNat) 2 pr) 0 30 ((c 0 30) + 1)), q56)) (show (k_bid c q k yds pr) = (((c 0 30) + 1), (am_put (am_put (am_put (am_put c (133 + (c 0 30).toNat) 0 k) (133 + (c 0 30).toNat) 1 yds) (133 + (c 0 30).toNat) 2 pr) 0 30 ((c 0 30) + 1)), q56) from (by have s9 := hz8.symm; subst s9; have s9 := ht11.symm; subst s9; have s9 := hq21.symm; subst s9; have s9 := hz21.symm; subst s9; have s9 := hz33.symm; subst s9; have s9 := ht36.symm; subst s9; have s9 := hq56.symm; subst s9; have s9 := hz56.symm; subst s9; exact ((if_pos h24).trans ((if_pos h59).trans (if_neg h70))))) hQ)
            · refine T_iconst (-1) (am_dec tX12_bid_0 39 rfl) rfl ⟨by decide, by decide⟩ ?_
              exact T_ireturn (am_dec tX12_bid_1 0 rfl) rfl (am_tr (fun (x9 : Int × am_F × am_F) => Q (.inl (some (aI (x9.1)))) (mdW w b x9.2.1 x9.2.2)) (y := ((-1), c, q56)) (show (k_bid c q k yds pr) = ((-1), c, q56) from (by have s9 := hz8.symm; subst s9; have s9 := ht11.symm; subst s9; have s9 := hq21.symm; subst s9; have s9 := hz21.symm; subst s9; have s9 := hz33.symm; subst s9; have s9 := ht36.symm; subst s9; have s9 := hq56.symm; subst s9; have s9 := hz56.symm; subst s9; exact ((if_pos h24).trans ((if_pos h59).trans (if_pos h70))))) hQ)
          · refine T_iconst 0 (am_dec tX12_bid_0 33 rfl) rfl ⟨by decide, by decide⟩ ?_
            exact T_ireturn (am_dec tX12_bid_0 34 rfl) rfl (am_tr (fun (x9 : Int × am_F × am_F) => Q (.inl (some (aI (x9.1)))) (mdW w b x9.2.1 x9.2.2)) (y := (0, c, q56)) (show (k_bid c q k yds pr) = (0, c, q56) from (by have s9 := hz8.symm; subst s9; have s9 := ht11.symm; subst s9; have s9 := hq21.symm; subst s9; have s9 := hz21.symm; subst s9; have s9 := hz33.symm; subst s9; have s9 := ht36.symm; subst s9; have s9 := hq56.symm; subst s9; have s9 := hz56.symm; subst s9; exact ((if_pos h24).trans (if_neg h59)))) hQ)
        refine T_if_eq 49 (am_dec tX12_bid_0 20 rfl) rfl (fun h36 => ?_) (fun h36 => ?_)
        · refine T_iconst 1 (am_dec tX12_bid_0 26 rfl) rfl ⟨by decide, by decide⟩ ?_
          refine T_goto 54 (am_dec tX12_bid_0 27 rfl) rfl ?_
          exact K36 _ (if_pos h36).symm
        · refine T_iload_n (am_dec tX12_bid_0 21 rfl) rfl ?_
          refine T_iconst 1 (am_dec tX12_bid_0 22 rfl) rfl ⟨by decide, by decide⟩ ?_
          refine T_bipush 99 (am_dec tX12_bid_0 23 rfl) rfl ⟨by decide, by decide⟩ ?_
          refine T_callS (as := [aI pr, aI 1, aI 99]) rfl (am_dec tX12_bid_0 24 rfl) lkX12_194 rfl (Nat.le_of_ble_eq_true rfl) (by omega) (mk_in (d := d - 1)  pr 1 99   ) (fun _ => ?_)
          refine T_nm (fun z43 hz43 => ?_)
          have hb43 := k_in_b pr 1 99
          rw [← hz43] at hb43
          have hs43 := k_in_s pr 1 99
          rw [← hz43] at hs43
          have K46 : ∀ (t46 : Int), t46 = (if z43 = 0 then 1 else 0) →  am_T S zX12_bid d u Q 54 [some (aR b), some (aI k), some (aI yds), some (aI pr)] [aI t46, aR b] (mdW w b c q21) := by
            intro t46 ht46
            have hbt46 : t46 = 0 ∨ t46 = 1 := by
              rw [ht46]
              try dsimp only
              repeat' split
              all_goals first | exact Or.inl rfl | exact Or.inr rfl | apply k_in_b | apply k_isDigit_b | apply k_isSmall_b | apply k_bad_b | apply k_isIn_b | apply k_isStep_b | apply k_isFirst_b | apply k_isLine_b | apply k_seesBy_b | apply k_isWalker_b | apply k_seesOne_b | apply k_badTwo_b | apply k_sees_b | apply k_isCode_b | apply k_isLot_b | omega
            exact K36 _ (by have s9 := hz43.symm; subst s9; have s9 := ht46.symm; subst s9; exact (if_neg h36).symm)
          refine T_if_ne 53 (am_dec tX12_bid_0 25 rfl) rfl (fun h46 => ?_) (fun h46 => ?_)
          · refine T_iconst 0 (am_dec tX12_bid_0 28 rfl) rfl ⟨by decide, by decide⟩ ?_
            exact K46 _ (if_neg h46).symm
          · refine T_iconst 1 (am_dec tX12_bid_0 26 rfl) rfl ⟨by decide, by decide⟩ ?_
            refine T_goto 54 (am_dec tX12_bid_0 27 rfl) rfl ?_
            exact K46 _ (if_pos h46).symm
    refine T_if_ne 18 (am_dec tX12_bid_0 7 rfl) rfl (fun h11 => ?_) (fun h11 => ?_)
    · refine T_iconst 0 (am_dec tX12_bid_0 10 rfl) rfl ⟨by decide, by decide⟩ ?_
      exact K11 _ (if_neg h11).symm
    · refine T_iconst 1 (am_dec tX12_bid_0 8 rfl) rfl ⟨by decide, by decide⟩ ?_
      refine T_goto 19 (am_dec tX12_bid_0 9 rfl) rfl ?_
      exact K11 _ (if_pos h11).symm
  exact key _ ⟨rfl, rfl⟩
