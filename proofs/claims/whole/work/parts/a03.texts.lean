/-! texts: length, charAt -/
def am_chr (j i : Nat) : Int := ((am_sbyt.getD j []).getD i 0).toInt
def am_ln (j : Nat) : Int := ((am_slen.getD j 0 : Nat) : Int)
theorem am_ln_b {j : Nat} (hj : j < 26) : am_slen.getD j 0 < 100 := by
  have q : ∀ j : Fin 26, am_slen.getD j.val 0 < 100 := by decide
  exact q ⟨j, hj⟩
theorem am_ln_s {j : Nat} (hj : j < 26) : am_ishr (am_ln j) 0 = am_ln j := by
  have q : ∀ j : Fin 26, am_ishr (am_ln j.val) 0 = am_ln j.val := by decide +kernel
  exact q ⟨j, hj⟩
theorem am_chr_b {j i : Nat} (hj : j < 26) (hi : (i : Int) < am_ln j) : 97 ≤ am_chr j i ∧ am_chr j i ≤ 122 := by
  have q : ∀ j : Fin 26, ∀ i : Fin 8, (i.val : Int) < am_ln j.val → 97 ≤ am_chr j.val i.val ∧ am_chr j.val i.val ≤ 122 := by decide +kernel
  have q2 : ∀ j : Fin 26, am_ln j.val ≤ 7 := by decide +kernel
  have q3 := q2 ⟨j, hj⟩
  exact q ⟨j, hj⟩ ⟨i, by have q4 : am_ln j ≤ 7 := q3; omega⟩ hi
theorem am_and255 {x : Int} (h : 97 ≤ x ∧ x ≤ 122) : am_iand x 255 = x := by
  have q : ∀ k : Fin 123, am_iand (k.val : Int) 255 = (k.val : Int) := by decide +kernel
  have q2 := q ⟨x.toNat, by omega⟩
  rw [show ((x.toNat : Nat) : Int) = x by omega] at q2
  exact q2
theorem m_coder {S : am_S} {d u : Nat} {w : AH} {j : Nat} (hj : j < 26) : am_Out S zJ0_coder_7d493 d u [aX (j + 2)] w (.inl (some (aI 0))) w := by
  refine am_body rfl (by decide +kernel) rfl (am_cats_cons rfl (am_cats_nil)) (Nat.le_of_ble_eq_true rfl) (?_ : am_T _ _ _ _ _ 0 [some (aX (j + 2))] [] w)
  refine T_getcompact (am_dec tJ0_coder_7d493_0 0 rfl) (am_m4 101 rfl rfl) ?_
  refine T_if_eq 13 (am_dec tJ0_coder_7d493_0 1 rfl) rfl (fun h3 => by exfalso; omega) (fun h3 => ?_)
  refine T_aloadX_n (am_dec tJ0_coder_7d493_0 2 rfl) rfl ?_
  refine T_strcod (am_dec tJ0_coder_7d493_0 3 rfl) hj (am_m11 150 rfl rfl) ?_
  refine T_goto 14 (am_dec tJ0_coder_7d493_0 4 rfl) rfl ?_
  exact T_breturn0 (am_dec tJ0_coder_7d493_0 6 rfl) rfl ⟨rfl, rfl⟩
theorem m_latin {S : am_S} {d u : Nat} {w : AH} {j : Nat} (hj : j < 26) : am_Out S zJ0_isLatin1_aae02 d u [aX (j + 2)] w (.inl (some (aI 1))) w := by
  refine am_body rfl (by decide +kernel) rfl (am_cats_cons rfl (am_cats_nil)) (Nat.le_of_ble_eq_true rfl) (?_ : am_T _ _ _ _ _ 0 [some (aX (j + 2))] [] w)
  refine T_getcompact (am_dec tJ0_isLatin1_aae02_0 0 rfl) (am_m4 101 rfl rfl) ?_
  refine T_if_eq 17 (am_dec tJ0_isLatin1_aae02_0 1 rfl) rfl (fun h3 => by exfalso; omega) (fun h3 => ?_)
  refine T_aloadX_n (am_dec tJ0_isLatin1_aae02_0 2 rfl) rfl ?_
  refine T_strcod (am_dec tJ0_isLatin1_aae02_0 3 rfl) hj (am_m11 150 rfl rfl) ?_
  refine T_if_ne 17 (am_dec tJ0_isLatin1_aae02_0 4 rfl) rfl (fun h3 => by exfalso; omega) (fun h3 => ?_)
  refine T_iconst 1 (am_dec tJ0_isLatin1_aae02_0 5 rfl) rfl ⟨by decide, by decide⟩ ?_
  refine T_goto 18 (am_dec tJ0_isLatin1_aae02_0 6 rfl) rfl ?_
  exact T_zreturn (am_dec tJ0_isLatin1_aae02_0 8 rfl) rfl (Or.inr rfl) ⟨rfl, rfl⟩
theorem T_callX {S : am_S} {z y : am_Z} {d u : Nat} {Q : AO → AH → Prop} {pc : Nat} {ls : List (Option AV)} {st rest : List AV} {w w1 : AH} {as : List AV} {v : Option AV} {idx j d' : Nat} (h0t : z.2.2.2.2.2 = []) (hj : j < 26) (hd : decode (am_cc z) pc = .ok (.invokevirtual idx, 3)) (hlk : am_lkV (am_own z) idx y as.length) (hci : y.2.1.cls = "java/lang/String") (hst : st = as.reverse ++ aX (j + 2) :: rest) (hcat : (rest.map am_cat).sum ≤ 8) (hd1 : d' + 1 ≤ d)
    (hM : am_Out S y d' 0 (aX (j + 2) :: as) w (.inl v) w1) (kk : w.length ≤ w1.length → am_T S z d u Q (pc + 3) ls (v.toList ++ rest) w1) : am_T S z d u Q pc ls st w :=
  T_invokeX h0t hj hd hlk hci hst hcat hd1 (Nat.zero_le _) hM (fun v' w' hq hl => by
    obtain ⟨h1, h2⟩ := hq
    cases h1
    subst h2
    exact kk hl) (fun k w' hq _ => by cases hq.1)
theorem m_slen {S : am_S} {d u : Nat} {w : AH} {j : Nat} (hj : j < 26) (hd : 1 ≤ d) : am_Out S zJ0_length_8abf5 d u [aX (j + 2)] w (.inl (some (aI (am_ln j)))) w := by
  refine am_body rfl (by decide +kernel) rfl (am_cats_cons rfl (am_cats_nil)) (Nat.le_of_ble_eq_true rfl) (?_ : am_T _ _ _ _ _ 0 [some (aX (j + 2))] [] w)
  refine T_aloadX_n (am_dec tJ0_length_8abf5_0 0 rfl) rfl ?_
  refine T_strval (am_dec tJ0_length_8abf5_0 1 rfl) hj (am_m11 149 rfl rfl) ?_
  refine T_stralen (am_dec tJ0_length_8abf5_0 2 rfl) hj (am_ln_b hj) ?_
  refine T_aloadX_n (am_dec tJ0_length_8abf5_0 3 rfl) rfl ?_
  refine T_callX (as := []) rfl hj (am_dec tJ0_length_8abf5_0 4 rfl) lkJ0_335 rfl rfl (Nat.le_of_ble_eq_true rfl) (by omega) (m_coder (d := d - 1) hj) (fun _ => ?_)
  refine T_ishr (am_ishr (am_ln j) 0) (am_dec tJ0_length_8abf5_0 5 rfl) (am_w32e _).symm (am_w32r _) ?_
  rw [am_ln_s hj]
  exact T_ireturn (am_dec tJ0_length_8abf5_0 6 rfl) rfl ⟨rfl, rfl⟩
theorem m_check3 {S : am_S} {d u : Nat} {w : AH} {v : AV} (hv : v = aN ∨ v = aX 200) (i n : Int) (hi : 0 ≤ i ∧ i < n) : am_Out S zJ3_checkIndex_8e157 d u [aI i, aI n, v] w (.inl (some (aI i))) w := by
  have hv1 : am_cat v = 1 := by rcases hv with e | e <;> rw [e] <;> rfl
  refine am_body rfl (by decide +kernel) rfl (am_cats_cons rfl ( am_cats_cons rfl ( am_cats_cons hv1 (am_cats_nil)))) (Nat.le_of_ble_eq_true rfl) (?_ : am_T _ _ _ _ _ 0 [some (aI i), some (aI n), some (v)] [] w)
  refine T_iload_n (am_dec tJ3_checkIndex_8e157_0 0 rfl) rfl ?_
  refine T_if_lt 9 (am_dec tJ3_checkIndex_8e157_0 1 rfl) rfl (fun h3 => by exfalso; omega) (fun h3 => ?_)
  refine T_iload_n (am_dec tJ3_checkIndex_8e157_0 2 rfl) rfl ?_
  refine T_iload_n (am_dec tJ3_checkIndex_8e157_0 3 rfl) rfl ?_
  refine T_icmp_lt 16 (am_dec tJ3_checkIndex_8e157_0 4 rfl) rfl (fun h3 => ?_) (fun h3 => by exfalso; omega)
  refine T_iload_n (am_dec tJ3_checkIndex_8e157_0 10 rfl) rfl ?_
  exact T_ireturn (am_dec tJ3_checkIndex_8e157_0 11 rfl) rfl ⟨rfl, rfl⟩
theorem m_check0 {S : am_S} {d u : Nat} {w : AH} (i n : Int) (hi : 0 ≤ i ∧ i < n) (hd : 1 ≤ d) : am_Out S zJ0_checkIndex_df160 d u [aI i, aI n] w (.inl none) w := by
  refine am_body rfl (by decide +kernel) rfl (am_cats_cons rfl ( am_cats_cons rfl (am_cats_nil))) (Nat.le_of_ble_eq_true rfl) (?_ : am_T _ _ _ _ _ 0 [some (aI i), some (aI n)] [] w)
  refine T_iload_n (am_dec tJ0_checkIndex_df160_0 0 rfl) rfl ?_
  refine T_iload_n (am_dec tJ0_checkIndex_df160_0 1 rfl) rfl ?_
  refine T_getsioobe (am_dec tJ0_checkIndex_df160_0 2 rfl) (am_m4 117 rfl rfl) (fun v hv => ?_)
  refine T_callS (as := [aI i, aI n, v]) rfl (am_dec tJ0_checkIndex_df160_0 3 rfl) lkJ0_1059 rfl (Nat.le_of_ble_eq_true rfl) (by omega) (m_check3 (d := d - 1) hv i n hi) (fun _ => ?_)
  refine T_pop (am_dec tJ0_checkIndex_df160_0 4 rfl) rfl ?_
  exact T_return (am_dec tJ0_checkIndex_df160_0 5 rfl) rfl ⟨rfl, rfl⟩
theorem m_char1 {S : am_S} {d u : Nat} {w : AH} {j : Nat} (hj : j < 26) (i : Int) (hi : 0 ≤ i ∧ i < am_ln j) (hd : 2 ≤ d) : am_Out S zJ1_charAt_3b067 d u [aX (j + 100), aI i] w (.inl (some (aI (am_chr j i.toNat)))) w := by
  have hb := am_chr_b (j := j) (i := i.toNat) hj (by omega)
  refine am_body rfl (by decide +kernel) rfl (am_cats_cons rfl ( am_cats_cons rfl (am_cats_nil))) (Nat.le_of_ble_eq_true rfl) (?_ : am_T _ _ _ _ _ 0 [some (aX (j + 100)), some (aI i)] [] w)
  refine T_iload_n (am_dec tJ1_charAt_3b067_0 0 rfl) rfl ?_
  refine T_aloadX_n (am_dec tJ1_charAt_3b067_0 1 rfl) rfl ?_
  refine T_stralen (am_dec tJ1_charAt_3b067_0 2 rfl) hj (am_ln_b hj) ?_
  refine T_callS (as := [aI i, aI (am_ln j)]) rfl (am_dec tJ1_charAt_3b067_0 3 rfl) lkJ1_9 rfl (Nat.le_of_ble_eq_true rfl) (by omega) (m_check0 (d := d - 1) i (am_ln j) hi (by omega)) (fun _ => ?_)
  refine T_aloadX_n (am_dec tJ1_charAt_3b067_0 4 rfl) rfl ?_
  refine T_iload_n (am_dec tJ1_charAt_3b067_0 5 rfl) rfl ?_
  refine T_strbyte (am_chr j i.toNat) (am_dec tJ1_charAt_3b067_0 6 rfl) hj hi.1 hi.2 (am_ln_b hj) (by unfold am_chr; rw [Int32.ofInt_toInt]) ⟨by omega, by omega⟩ ?_
  refine T_sipush 255 (am_dec tJ1_charAt_3b067_0 7 rfl) rfl ⟨by decide, by decide⟩ ?_
  refine T_iand (am_iand (am_chr j i.toNat) 255) (am_dec tJ1_charAt_3b067_0 8 rfl) (am_w32e _).symm (am_w32r _) ?_
  rw [am_and255 hb]
  refine T_i2c (am_dec tJ1_charAt_3b067_0 9 rfl) (by omega) (by omega) ?_
  exact T_creturn (am_dec tJ1_charAt_3b067_0 10 rfl) rfl (by omega) (by omega) ⟨rfl, rfl⟩
theorem m_charAt {S : am_S} {d u : Nat} {w : AH} {j : Nat} (hj : j < 26) (i : Int) (hi : 0 ≤ i ∧ i < am_ln j) (hd : 3 ≤ d) : am_Out S zJ0_charAt_5068e d u [aX (j + 2), aI i] w (.inl (some (aI (am_chr j i.toNat)))) w := by
  have hb := am_chr_b (j := j) (i := i.toNat) hj (by omega)
  refine am_body rfl (by decide +kernel) rfl (am_cats_cons rfl ( am_cats_cons rfl (am_cats_nil))) (Nat.le_of_ble_eq_true rfl) (?_ : am_T _ _ _ _ _ 0 [some (aX (j + 2)), some (aI i)] [] w)
  refine T_aloadX_n (am_dec tJ0_charAt_5068e_0 0 rfl) rfl ?_
  refine T_callX (as := []) rfl hj (am_dec tJ0_charAt_5068e_0 1 rfl) lkJ0_492 rfl rfl (Nat.le_of_ble_eq_true rfl) (by omega) (m_latin (d := d - 1) hj) (fun _ => ?_)
  refine T_if_eq 16 (am_dec tJ0_charAt_5068e_0 2 rfl) rfl (fun h3 => by exfalso; omega) (fun h3 => ?_)
  refine T_aloadX_n (am_dec tJ0_charAt_5068e_0 3 rfl) rfl ?_
  refine T_strval (am_dec tJ0_charAt_5068e_0 4 rfl) hj (am_m11 149 rfl rfl) ?_
  refine T_iload_n (am_dec tJ0_charAt_5068e_0 5 rfl) rfl ?_
  refine T_callS (as := [aX (j + 100), aI i]) rfl (am_dec tJ0_charAt_5068e_0 6 rfl) lkJ0_495 rfl (Nat.le_of_ble_eq_true rfl) (by omega) (m_char1 (d := d - 1) hj i hi (by omega)) (fun _ => ?_)
  exact T_creturn (am_dec tJ0_charAt_5068e_0 7 rfl) rfl (by omega) (by omega) ⟨rfl, rfl⟩
