/-! Rule: what a PART of a kind tells, what it lets in -/
theorem f_push_k {q : am_F} {i v : Int} {k : Nat} (hk : k ≠ 4) : f_push q i v k = q k := by
  unfold f_push
  split
  · exact funext fun _ => if_neg hk
  · rfl
theorem f_valueX_k (nf : Nat) (f : Nat → Int) (q : am_F) (p : Int) : ∀ k, k ≠ 4 → (f_valueX nf f q p).2 k = q k := by
  intro k hk
  unfold f_valueX
  exact am_fold_inv (P := fun (_ : Int) (x : Int × am_F) => x.2 k = q k) _ _ (0, q) rfl (fun i x _ _ hx => by
    unfold g_value
    split
    · exact (f_push_k hk).trans hx
    · split
      · exact (f_push_k hk).trans hx
      · exact (f_push_k hk).trans hx)
def c_tells (q : am_F) (k : Int) (wo : Int) (nf : Nat) (f : Nat → Int) : Int × am_F := (let n2 : Int := f_lastOf q k; (let t10 : Int := (if n2 = (-1) then wo else f_value nf f q n2); (let q10 : am_F := (if n2 = (-1) then q else (f_valueX nf f q n2).2); (t10, q10))))
theorem mc_tells {S : am_S} {d u : Nat} {w : AH} {a c : Nat} (hl : a + 5 ≤ w.length) (hx : c < a ∨ a + 5 ≤ c) {q : am_F} (k : Int) (wo : Int) (nf : Nat) (f : Nat → Int) (hf : w[c]? = some (cP 0 nf f)) (hnf : nf < 1000) (hE : RuE q) (hP : 0 ≤ q 0 0) (hd : 2 ≤ d) : am_Out S zX7_tells d u [aR a, aI k, aR c, aI wo] (ruW w a q) (.inl (some (aI ((c_tells q k wo nf f).1)))) (ruW w a ((c_tells q k wo nf f).2)) := by
  have key : ∀ Q : AO → AH → Prop, Q (.inl (some (aI ((c_tells q k wo nf f).1)))) (ruW w a ((c_tells q k wo nf f).2)) → am_M S zX7_tells d u [aR a, aI k, aR c, aI wo] (ruW w a q) Q := by
    intro Q hQ
    refine am_body rfl (by decide +kernel) rfl (am_cats_cons rfl ( am_cats_cons rfl ( am_cats_cons rfl ( am_cats_cons rfl (am_cats_nil))))) (Nat.le_of_ble_eq_true rfl) (?_ : am_T _ _ _ _ _ 0 [some (aR a), some (aI k), some (aR c), some (aI wo), none] [] (ruW w a q))
    refine T_aload_n (am_dec tX7_tells_0 0 rfl) rfl ?_
    refine T_iload_n (am_dec tX7_tells_0 1 rfl) rfl ?_
    refine T_callV (as := [aI k]) rfl (am_dec tX7_tells_0 2 rfl) lkX7_37 (show (ruW w a q)[a]? = some (cO 6 [aI (q 0 0), aI (q 0 1), aR (a + 1), aR (a + 2), aR (a + 3), aR (a + 4)]) from ruW_c hl 0 (by decide)) rfl rfl (Nat.le_of_ble_eq_true rfl) (by omega) (m_lastOf (d := d - 1) hl (q := q) k hP (by omega)) (fun _ => ?_)
    refine T_nm (fun n2 hn2 => ?_)
    refine T_istore (ls' := [some (aR a), some (aI k), some (aR c), some (aI wo), some (aI n2)]) (am_dec tX7_tells_0 3 rfl) (by decide) rfl ?_
    refine T_iload (am_dec tX7_tells_0 4 rfl) rfl ?_
    refine T_iconst (-1) (am_dec tX7_tells_0 5 rfl) rfl ⟨by decide, by decide⟩ ?_
    have K10 : ∀ (t10 : Int), ∀ (q10 : am_F), t10 = (if n2 = (-1) then wo else f_value nf f q n2) → q10 = (if n2 = (-1) then q else (f_valueX nf f q n2).2) →  am_T S zX7_tells d u Q 24 [none, none, none, none, none] [aI t10] (ruW w a q10) := by
      intro t10 q10 ht10 hq10 
      exact T_ireturn (am_dec tX7_tells_0 13 rfl) rfl (am_tr (fun (x9 : Int × am_F) => Q (.inl (some (aI (x9.1)))) (ruW w a x9.2)) (y := (t10, q10)) (show (c_tells q k wo nf f) = (t10, q10) from (by have s9 := hn2.symm; subst s9; have s9 := ht10.symm; subst s9; have s9 := hq10.symm; subst s9; exact rfl)) hQ)
    refine T_icmp_ne 17 (am_dec tX7_tells_0 6 rfl) rfl (fun h10 => ?_) (fun h10 => ?_)
    · refine T_aload_n (am_dec tX7_tells_0 9 rfl) rfl ?_
      refine T_iload (am_dec tX7_tells_0 10 rfl) rfl ?_
      refine T_aload_n (am_dec tX7_tells_0 11 rfl) rfl ?_
      refine T_callV (as := [aI n2, aR c]) rfl (am_dec tX7_tells_0 12 rfl) lkX7_41 (show (ruW w a q)[a]? = some (cO 6 [aI (q 0 0), aI (q 0 1), aR (a + 1), aR (a + 2), aR (a + 3), aR (a + 4)]) from ruW_c hl 0 (by decide)) rfl rfl (Nat.le_of_ble_eq_true rfl) (by omega) (m_value (d := d - 1) hl hx hf hnf (q := q) n2 hE (by omega)) (fun _ => ?_)
      refine T_nmH (W := fun x9 => ruW w a x9) (v := (f_valueX nf f q n2).2) (fun q21 hq21 => ?_)
      refine T_nm (fun v21 hv21 => ?_)
      have hz21 : ∀ k, k ≠ 4 → q21 k = q k := by rw [hq21]; exact f_valueX_k nf f q n2
      refine T_weak (ls' := [none, none, none, none, none]) (am_sub_n (am_sub_n (am_sub_n (am_sub_n (am_sub_n am_sub_nil))))) ?_
      exact K10 _ _ (by have s9 := hq21.symm; subst s9; have s9 := hv21.symm; subst s9; exact (if_neg h10).symm) (by have s9 := hq21.symm; subst s9; have s9 := hv21.symm; subst s9; exact (if_neg h10).symm) 
    · refine T_iload_n (am_dec tX7_tells_0 7 rfl) rfl ?_
      refine T_goto 24 (am_dec tX7_tells_0 8 rfl) rfl ?_
      refine T_weak (ls' := [none, none, none, none, none]) (am_sub_n (am_sub_n (am_sub_n (am_sub_n (am_sub_n am_sub_nil))))) ?_
      exact K10 _ _ (if_pos h10).symm (if_pos h10).symm 
  exact key _ ⟨rfl, rfl⟩
