/-! the model: refusals; lines, walkers -/
def k_refuse (q : am_F) (is what rs : Int) : am_F := if is = 0 then q else am_put (am_put q 0 0 what) 2 rs.toNat (am_w32 (q 2 rs.toNat + 1))
theorem mk_bad0 {S : am_S} {d u : Nat} {w : AH} {b : Nat} (hl : b + 735 ≤ w.length) {c q : am_F} (is what rs : Int) (hr : 0 ≤ rs ∧ rs < 3) (hq : q 0 0 = 0) (hw : what ≠ 0) : am_Out S zX12_bad d u [aR b, aI is, aI what, aI rs] (mdW w b c q) (.inl (some (aI (if is = 0 then 0 else 1)))) (mdW w b c (k_refuse q is what rs)) := by
  have h := mk_bad (S := S) (d := d) (u := u) (w := w) hl (c := c) (q := q) is what rs hr
  have e : k_bad q is what rs = ((if is = 0 then 0 else 1), k_refuse q is what rs) := by
    unfold k_bad k_refuse
    by_cases h0 : is = 0
    · simp only [h0, if_true, hq]
    · simp only [if_neg h0, if_pos hq]
      rw [if_neg (by rw [am_put_k (by decide), am_put_s]; exact hw)]
  rw [e] at h
  exact h
theorem k_refuse_0 {q : am_F} {is what rs : Int} (hq : q 0 0 = 0) (h : is = 0) : k_refuse q is what rs 0 0 = 0 := by
  unfold k_refuse
  rw [if_pos h]
  exact hq
def k_turnTo (fr : Int) (tt : Int) : Int := (if tt ≤ fr then (if fr ≤ tt then 0 else (-1)) else 1)
theorem mk_turnTo {S : am_S} {d u : Nat} {w : AH}  (fr : Int) (tt : Int)   : am_Out S zX12_turnTo d u [aI fr, aI tt] (w) (.inl (some (aI (k_turnTo fr tt)))) (w) := by
  have key : ∀ Q : AO → AH → Prop, Q (.inl (some (aI (k_turnTo fr tt)))) (w) → am_M S zX12_turnTo d u [aI fr, aI tt] (w) Q := by
    intro Q hQ
    refine am_body rfl (by decide +kernel) rfl (am_cats_cons rfl ( am_cats_cons rfl (am_cats_nil))) (Nat.le_of_ble_eq_true rfl) (?_ : am_T _ _ _ _ _ 0 [some (aI fr), some (aI tt)] [] (w))
    refine T_iload_n (am_dec tX12_turnTo_0 0 rfl) rfl ?_
    refine T_iload_n (am_dec tX12_turnTo_0 1 rfl) rfl ?_
    have K2 : ∀ (t2 : Int), t2 = (if tt ≤ fr then (if fr ≤ tt then 0 else (-1)) else 1) →  am_T S zX12_turnTo d u Q 19 [none, none] [aI t2] (w) := by
      intro t2 ht2
      exact T_ireturn (am_dec tX12_turnTo_0 11 rfl) rfl (am_tr (fun x9 => Q (.inl (some (aI (x9)))) (w)) (y := t2) (show (k_turnTo fr tt) = t2 from (by subst ht2; rfl)) hQ)
    refine T_icmp_le 9 (am_dec tX12_turnTo_0 2 rfl) rfl (fun h2 => ?_) (fun h2 => ?_)
    · refine T_iload_n (am_dec tX12_turnTo_0 5 rfl) rfl ?_
      refine T_iload_n (am_dec tX12_turnTo_0 6 rfl) rfl ?_
      have K11 : ∀ (t11 : Int), t11 = (if fr ≤ tt then 0 else (-1)) →  am_T S zX12_turnTo d u Q 19 [none, none] [aI t11] (w) := by
        intro t11 ht11
        exact K2 _ (by subst ht11; exact (if_pos h2).symm)
      refine T_icmp_ge 18 (am_dec tX12_turnTo_0 7 rfl) rfl (fun h11 => ?_) (fun h11 => ?_)
      · refine T_iconst 0 (am_dec tX12_turnTo_0 10 rfl) rfl ⟨by decide, by decide⟩ ?_
        refine T_weak (ls' := [none, none]) (am_sub_n (am_sub_n am_sub_nil)) ?_
        exact K11 _ (if_pos h11).symm
      · refine T_iconst (-1) (am_dec tX12_turnTo_0 8 rfl) rfl ⟨by decide, by decide⟩ ?_
        refine T_goto 19 (am_dec tX12_turnTo_0 9 rfl) rfl ?_
        refine T_weak (ls' := [none, none]) (am_sub_n (am_sub_n am_sub_nil)) ?_
        exact K11 _ (if_neg h11).symm
    · refine T_iconst 1 (am_dec tX12_turnTo_0 3 rfl) rfl ⟨by decide, by decide⟩ ?_
      refine T_goto 19 (am_dec tX12_turnTo_0 4 rfl) rfl ?_
      refine T_weak (ls' := [none, none]) (am_sub_n (am_sub_n am_sub_nil)) ?_
      exact K2 _ (if_neg h2).symm
  exact key _ ⟨rfl, rfl⟩
def k_isLine (x : Int) (y : Int) (xa : Int) (ya : Int) : Int := (let t2 : Int := (if xa ≤ x then (x - xa) else (xa - x)); (let t18 : Int := (if ya ≤ y then (y - ya) else (ya - y)); (if t2 = 0 then 1 else (if t18 = 0 then 1 else (if t2 = t18 then 1 else 0)))))
theorem mk_isLine {S : am_S} {d u : Nat} {w : AH}  (x : Int) (y : Int) (xa : Int) (ya : Int) (hx : (0 ≤ x ∧ x ≤ 8) ∧ (0 ≤ y ∧ y ≤ 8) ∧ (0 ≤ xa ∧ xa ≤ 8) ∧ (0 ≤ ya ∧ ya ≤ 8))  : am_Out S zX12_isLine d u [aI x, aI y, aI xa, aI ya] (w) (.inl (some (aI (k_isLine x y xa ya)))) (w) := by
  have key : ∀ Q : AO → AH → Prop, Q (.inl (some (aI (k_isLine x y xa ya)))) (w) → am_M S zX12_isLine d u [aI x, aI y, aI xa, aI ya] (w) Q := by
    intro Q hQ
    refine am_body rfl (by decide +kernel) rfl (am_cats_cons rfl ( am_cats_cons rfl ( am_cats_cons rfl ( am_cats_cons rfl (am_cats_nil))))) (Nat.le_of_ble_eq_true rfl) (?_ : am_T _ _ _ _ _ 0 [some (aI x), some (aI y), some (aI xa), some (aI ya), none, none] [] (w))
    refine T_iload_n (am_dec tX12_isLine_0 0 rfl) rfl ?_
    refine T_iload_n (am_dec tX12_isLine_0 1 rfl) rfl ?_
    have K2 : ∀ (t2 : Int), t2 = (if xa ≤ x then (x - xa) else (xa - x)) →  am_T S zX12_isLine d u Q 14 [none, some (aI y), none, some (aI ya), none, none] [aI t2] (w) := by
      intro t2 ht2
      refine T_istore (ls' := [none, some (aI y), none, some (aI ya), some (aI t2), none]) (am_dec tX12_isLine_0 10 rfl) (by decide) rfl ?_
      refine T_iload_n (am_dec tX12_isLine_0 11 rfl) rfl ?_
      refine T_iload_n (am_dec tX12_isLine_0 12 rfl) rfl ?_
      have K18 : ∀ (t18 : Int), t18 = (if ya ≤ y then (y - ya) else (ya - y)) →  am_T S zX12_isLine d u Q 30 [none, none, none, none, some (aI t2), none] [aI t18] (w) := by
        intro t18 ht18
        refine T_istore (ls' := [none, none, none, none, some (aI t2), some (aI t18)]) (am_dec tX12_isLine_0 21 rfl) (by decide) rfl ?_
        refine T_iload (am_dec tX12_isLine_0 22 rfl) rfl ?_
        have K34 : ∀ (t34 : Int), t34 = (if t2 = 0 then 1 else (if t18 = 0 then 1 else (if t2 = t18 then 1 else 0))) →  am_T S zX12_isLine d u Q 54 [none, none, none, none, none, none] [aI t34] (w) := by
          intro t34 ht34
          have hbt34 : t34 = 0 ∨ t34 = 1 := by
            rw [ht34]
            try dsimp only
            repeat' split
            all_goals first | exact Or.inl rfl | exact Or.inr rfl | apply k_in_b | apply k_isDigit_b | apply k_isSmall_b | apply k_bad_b | apply k_isIn_b | apply k_isStep_b | apply k_isFirst_b | omega
          exact T_zreturn (am_dec tX12_isLine_0 32 rfl) rfl (by first | exact Or.inl rfl | exact Or.inr rfl | omega) (am_tr (fun x9 => Q (.inl (some (aI (x9)))) (w)) (y := t34) (show (k_isLine x y xa ya) = t34 from (by subst ht2; subst ht18; subst ht34; rfl)) hQ)
        refine T_if_eq 49 (am_dec tX12_isLine_0 23 rfl) rfl (fun h34 => ?_) (fun h34 => ?_)
        · refine T_iconst 1 (am_dec tX12_isLine_0 29 rfl) rfl ⟨by decide, by decide⟩ ?_
          refine T_goto 54 (am_dec tX12_isLine_0 30 rfl) rfl ?_
          refine T_weak (ls' := [none, none, none, none, none, none]) (am_sub_n (am_sub_n (am_sub_n (am_sub_n (am_sub_n (am_sub_n am_sub_nil)))))) ?_
          exact K34 _ (if_pos h34).symm
        · refine T_iload (am_dec tX12_isLine_0 24 rfl) rfl ?_
          have K39 : ∀ (t39 : Int), t39 = (if t18 = 0 then 1 else (if t2 = t18 then 1 else 0)) →  am_T S zX12_isLine d u Q 54 [none, none, none, none, none, none] [aI t39] (w) := by
            intro t39 ht39
            have hbt39 : t39 = 0 ∨ t39 = 1 := by
              rw [ht39]
              try dsimp only
              repeat' split
              all_goals first | exact Or.inl rfl | exact Or.inr rfl | apply k_in_b | apply k_isDigit_b | apply k_isSmall_b | apply k_bad_b | apply k_isIn_b | apply k_isStep_b | apply k_isFirst_b | omega
            exact K34 _ (by subst ht39; exact (if_neg h34).symm)
          refine T_if_eq 49 (am_dec tX12_isLine_0 25 rfl) rfl (fun h39 => ?_) (fun h39 => ?_)
          · refine T_iconst 1 (am_dec tX12_isLine_0 29 rfl) rfl ⟨by decide, by decide⟩ ?_
            refine T_goto 54 (am_dec tX12_isLine_0 30 rfl) rfl ?_
            refine T_weak (ls' := [none, none, none, none, none, none]) (am_sub_n (am_sub_n (am_sub_n (am_sub_n (am_sub_n (am_sub_n am_sub_nil)))))) ?_
            exact K39 _ (if_pos h39).symm
          · refine T_iload (am_dec tX12_isLine_0 26 rfl) rfl ?_
            refine T_iload (am_dec tX12_isLine_0 27 rfl) rfl ?_
            have K46 : ∀ (t46 : Int), t46 = (if t2 = t18 then 1 else 0) →  am_T S zX12_isLine d u Q 54 [none, none, none, none, none, none] [aI t46] (w) := by
              intro t46 ht46
              have hbt46 : t46 = 0 ∨ t46 = 1 := by
                rw [ht46]
                try dsimp only
                repeat' split
                all_goals first | exact Or.inl rfl | exact Or.inr rfl | apply k_in_b | apply k_isDigit_b | apply k_isSmall_b | apply k_bad_b | apply k_isIn_b | apply k_isStep_b | apply k_isFirst_b | omega
              exact K39 _ (by subst ht46; exact (if_neg h39).symm)
            refine T_icmp_ne 53 (am_dec tX12_isLine_0 28 rfl) rfl (fun h46 => ?_) (fun h46 => ?_)
            · refine T_iconst 0 (am_dec tX12_isLine_0 31 rfl) rfl ⟨by decide, by decide⟩ ?_
              refine T_weak (ls' := [none, none, none, none, none, none]) (am_sub_n (am_sub_n (am_sub_n (am_sub_n (am_sub_n (am_sub_n am_sub_nil)))))) ?_
              exact K46 _ (if_neg h46).symm
            · refine T_iconst 1 (am_dec tX12_isLine_0 29 rfl) rfl ⟨by decide, by decide⟩ ?_
              refine T_goto 54 (am_dec tX12_isLine_0 30 rfl) rfl ?_
              refine T_weak (ls' := [none, none, none, none, none, none]) (am_sub_n (am_sub_n (am_sub_n (am_sub_n (am_sub_n (am_sub_n am_sub_nil)))))) ?_
              exact K46 _ (if_pos h46).symm
      refine T_icmp_le 27 (am_dec tX12_isLine_0 13 rfl) rfl (fun h18 => ?_) (fun h18 => ?_)
      · refine T_iload_n (am_dec tX12_isLine_0 18 rfl) rfl ?_
        refine T_iload_n (am_dec tX12_isLine_0 19 rfl) rfl ?_
        refine T_isub (y - ya) (am_dec tX12_isLine_0 20 rfl) rfl ⟨by omega, by omega⟩ ?_
        refine T_weak (ls' := [none, none, none, none, some (aI t2), none]) (am_sub_n (am_sub_n (am_sub_n (am_sub_n (am_sub_s (am_sub_n am_sub_nil)))))) ?_
        exact K18 _ (if_pos h18).symm
      · refine T_iload_n (am_dec tX12_isLine_0 14 rfl) rfl ?_
        refine T_iload_n (am_dec tX12_isLine_0 15 rfl) rfl ?_
        refine T_isub (ya - y) (am_dec tX12_isLine_0 16 rfl) rfl ⟨by omega, by omega⟩ ?_
        refine T_goto 30 (am_dec tX12_isLine_0 17 rfl) rfl ?_
        refine T_weak (ls' := [none, none, none, none, some (aI t2), none]) (am_sub_n (am_sub_n (am_sub_n (am_sub_n (am_sub_s (am_sub_n am_sub_nil)))))) ?_
        exact K18 _ (if_neg h18).symm
    refine T_icmp_le 11 (am_dec tX12_isLine_0 2 rfl) rfl (fun h2 => ?_) (fun h2 => ?_)
    · refine T_iload_n (am_dec tX12_isLine_0 7 rfl) rfl ?_
      refine T_iload_n (am_dec tX12_isLine_0 8 rfl) rfl ?_
      refine T_isub (x - xa) (am_dec tX12_isLine_0 9 rfl) rfl ⟨by omega, by omega⟩ ?_
      refine T_weak (ls' := [none, some (aI y), none, some (aI ya), none, none]) (am_sub_n (am_sub_s (am_sub_n (am_sub_s (am_sub_n (am_sub_n am_sub_nil)))))) ?_
      exact K2 _ (if_pos h2).symm
    · refine T_iload_n (am_dec tX12_isLine_0 3 rfl) rfl ?_
      refine T_iload_n (am_dec tX12_isLine_0 4 rfl) rfl ?_
      refine T_isub (xa - x) (am_dec tX12_isLine_0 5 rfl) rfl ⟨by omega, by omega⟩ ?_
      refine T_goto 14 (am_dec tX12_isLine_0 6 rfl) rfl ?_
      refine T_weak (ls' := [none, some (aI y), none, some (aI ya), none, none]) (am_sub_n (am_sub_s (am_sub_n (am_sub_s (am_sub_n (am_sub_n am_sub_nil)))))) ?_
      exact K2 _ (if_neg h2).symm
  exact key _ ⟨rfl, rfl⟩
theorem k_isLine_b (x : Int) (y : Int) (xa : Int) (ya : Int) : (k_isLine x y xa ya) = 0 ∨ (k_isLine x y xa ya) = 1 := by
  unfold k_isLine
  try dsimp only
  repeat' split
  all_goals first | exact Or.inl rfl | exact Or.inr rfl | apply k_in_b | apply k_isDigit_b | apply k_isSmall_b | apply k_bad_b | apply k_isIn_b | apply k_isStep_b | apply k_isFirst_b
def w_k_lineOf_36 (q : am_F) (xa : Int) (ya : Int) (t : Int) (x9 : Int × Int × Int) : (Int × Int × Int) ⊕ (Int × Int × Int) := let v : Int := x9.1; let i : Int := x9.2.1; let j : Int := x9.2.2; (if i = xa then (if j = ya then .inr (v, i, j) else (let n52 : Int := (k_turnTo i xa); (let n61 : Int := (k_turnTo j ya); (let v_100 : Int := am_w32 (v + (q (159 + (t + 1).toNat) (((i + n52) + (9 * (j + n61))).toNat))); .inl (v_100, (i + n52), (j + n61)))))) else (let n52 : Int := (k_turnTo i xa); (let n61 : Int := (k_turnTo j ya); (let v_100 : Int := am_w32 (v + (q (159 + (t + 1).toNat) (((i + n52) + (9 * (j + n61))).toNat))); .inl (v_100, (i + n52), (j + n61))))))
theorem L_k_lineOf_36 {S : am_S} {d u : Nat} {Q : AO → AH → Prop} {w : AH} {b : Nat} (hl : b + 735 ≤ w.length) (c : am_F) (q : am_F) (x : Int) (y : Int) (xa : Int) (ya : Int) (t : Int) (hx : (0 ≤ x ∧ x ≤ 8) ∧ (0 ≤ y ∧ y ≤ 8) ∧ (0 ≤ xa ∧ xa ≤ 8) ∧ (0 ≤ ya ∧ ya ≤ 8)) (ht : -1 ≤ t ∧ t < 40)  (hd : 1 ≤ d) : ∀ (n : Nat) (v : Int) (i : Int) (j : Int), (if i < xa then xa - i else i - xa) + (if j < ya then ya - j else j - ya) < n → (0 ≤ i ∧ i ≤ 8) ∧ (0 ≤ j ∧ j ≤ 8) → (∀ (v' : Int) (i' : Int) (j' : Int), v' = (am_wh (w_k_lineOf_36 q xa ya t) n (v, i, j)).1 → i' = (am_wh (w_k_lineOf_36 q xa ya t) n (v, i, j)).2.1 → j' = (am_wh (w_k_lineOf_36 q xa ya t) n (v, i, j)).2.2 → (0 ≤ i' ∧ i' ≤ 8) ∧ (0 ≤ j' ∧ j' ≤ 8) → am_T S zX12_lineOf d u Q 105 [none, none, none, none, none, none, some (aI v'), none, none, none, none] [] (mdW w b c q)) → am_T S zX12_lineOf d u Q 36 [some (aR b), none, none, some (aI xa), some (aI ya), some (aI t), some (aI v), some (aI i), some (aI j), none, none] [] (mdW w b c q) := by
  intro n
  induction n with
  | zero =>
    intro v i j hm9 hinv k9
    exfalso; omega
  | succ n ih =>
    intro v i j hm9 hinv k9
    refine T_iload (am_dec tX12_lineOf_0 23 rfl) rfl ?_
    refine T_iload_n (am_dec tX12_lineOf_0 24 rfl) rfl ?_
    refine T_icmp_ne 49 (am_dec tX12_lineOf_0 25 rfl) rfl (fun h39 => ?_) (fun h39 => ?_)
    · refine T_iload (am_dec tX12_lineOf_0 29 rfl) rfl ?_
      refine T_iload_n (am_dec tX12_lineOf_0 30 rfl) rfl ?_
      refine T_callS (as := [aI i, aI xa]) rfl (am_dec tX12_lineOf_0 31 rfl) lkX12_358 rfl (Nat.le_of_ble_eq_true rfl) (by omega) (mk_turnTo (d := d - 1)  i xa   ) (fun _ => ?_)
      refine T_nm (fun n52 hn52 => ?_)
      have hm52 := hn52
      unfold k_turnTo at hm52
      refine T_istore (ls' := [some (aR b), none, none, some (aI xa), some (aI ya), some (aI t), some (aI v), some (aI i), some (aI j), some (aI n52), none]) (am_dec tX12_lineOf_0 32 rfl) (by decide) rfl ?_
      refine T_iload (am_dec tX12_lineOf_0 33 rfl) rfl ?_
      refine T_iload (am_dec tX12_lineOf_0 34 rfl) rfl ?_
      refine T_callS (as := [aI j, aI ya]) rfl (am_dec tX12_lineOf_0 35 rfl) lkX12_358 rfl (Nat.le_of_ble_eq_true rfl) (by omega) (mk_turnTo (d := d - 1)  j ya   ) (fun _ => ?_)
      refine T_nm (fun n61 hn61 => ?_)
      have hm61 := hn61
      unfold k_turnTo at hm61
      refine T_istore (ls' := [some (aR b), none, none, some (aI xa), some (aI ya), some (aI t), some (aI v), some (aI i), some (aI j), some (aI n52), some (aI n61)]) (am_dec tX12_lineOf_0 36 rfl) (by decide) rfl ?_
      refine T_iload (am_dec tX12_lineOf_0 37 rfl) rfl ?_
      refine T_iload (am_dec tX12_lineOf_0 38 rfl) rfl ?_
      refine T_iadd (i + n52) (am_dec tX12_lineOf_0 39 rfl) rfl ⟨by omega, by omega⟩ ?_
      refine T_istore (ls' := [some (aR b), none, none, some (aI xa), some (aI ya), some (aI t), some (aI v), some (aI (i + n52)), some (aI j), some (aI n52), some (aI n61)]) (am_dec tX12_lineOf_1 0 rfl) (by decide) rfl ?_
      refine T_iload (am_dec tX12_lineOf_1 1 rfl) rfl ?_
      refine T_iload (am_dec tX12_lineOf_1 2 rfl) rfl ?_
      refine T_iadd (j + n61) (am_dec tX12_lineOf_1 3 rfl) rfl ⟨by omega, by omega⟩ ?_
      refine T_istore (ls' := [some (aR b), none, none, some (aI xa), some (aI ya), some (aI t), some (aI v), some (aI (i + n52)), some (aI (j + n61)), some (aI n52), some (aI n61)]) (am_dec tX12_lineOf_1 4 rfl) (by decide) rfl ?_
      refine T_iload (am_dec tX12_lineOf_1 5 rfl) rfl ?_
      refine T_aload_n (am_dec tX12_lineOf_1 6 rfl) rfl ?_
      refine T_getfield 11 37 (am_dec tX12_lineOf_1 7 rfl) flX12_91_11 (md_obj hl) rfl ?_
      refine T_iload (am_dec tX12_lineOf_1 8 rfl) rfl ?_
      refine T_iconst 1 (am_dec tX12_lineOf_1 9 rfl) rfl ⟨by decide, by decide⟩ ?_
      refine T_iadd (t + 1) (am_dec tX12_lineOf_1 10 rfl) rfl ⟨by omega, by omega⟩ ?_
      refine T_aaloadR (r := b + (159 + (t + 1).toNat)) (am_dec tX12_lineOf_1 11 rfl) (by decide) (mh_fog hl) (by omega) (by omega) (if_pos (by omega)) ?_
      refine T_iload (am_dec tX12_lineOf_1 12 rfl) rfl ?_
      refine T_iload (am_dec tX12_lineOf_1 13 rfl) rfl ?_
      refine T_callS (as := [aI (i + n52), aI (j + n61)]) rfl (am_dec tX12_lineOf_1 14 rfl) lkX12_317 rfl (Nat.le_of_ble_eq_true rfl) (by omega) (mk_cell' (d := d - 1) (i + n52) (j + n61) (by omega)) (fun _ => ?_)
      refine T_ialoadE (x := q (159 + (t + 1).toNat) (((i + n52) + (9 * (j + n61))).toNat)) (am_dec tX12_lineOf_1 15 rfl) (mr_fog hl (i := (t + 1)) (by omega) (by omega)) (by omega) (by omega) rfl ?_
      refine T_iaddW (am_w32 (v + (q (159 + (t + 1).toNat) (((i + n52) + (9 * (j + n61))).toNat)))) (am_dec tX12_lineOf_1 16 rfl) (am_w32e _).symm (am_w32r _) ?_
      refine T_nm (fun v_100 hv_100 => ?_)
      refine T_istore (ls' := [some (aR b), none, none, some (aI xa), some (aI ya), some (aI t), some (aI v_100), some (aI (i + n52)), some (aI (j + n61)), some (aI n52), some (aI n61)]) (am_dec tX12_lineOf_1 17 rfl) (by decide) rfl ?_
      refine T_goto 36 (am_dec tX12_lineOf_1 18 rfl) rfl ?_
      refine T_weak (ls' := [some (aR b), none, none, some (aI xa), some (aI ya), some (aI t), some (aI v_100), some (aI (i + n52)), some (aI (j + n61)), none, none]) (am_sub_s (am_sub_n (am_sub_n (am_sub_s (am_sub_s (am_sub_s (am_sub_s (am_sub_s (am_sub_s (am_sub_n (am_sub_n am_sub_nil))))))))))) ?_
      have e9 : (w_k_lineOf_36 q xa ya t) (v, i, j) = .inl (v_100, i + n52, j + n61) := (by subst hn52; subst hn61; subst hv_100; exact (if_neg h39))
      simp only [am_wh_l e9] at k9
      exact ih v_100 (i + n52) (j + n61) (by omega) (by omega) k9
    · refine T_iload (am_dec tX12_lineOf_0 26 rfl) rfl ?_
      refine T_iload (am_dec tX12_lineOf_0 27 rfl) rfl ?_
      refine T_icmp_eq 105 (am_dec tX12_lineOf_0 28 rfl) rfl (fun h46 => ?_) (fun h46 => ?_)
      · refine T_weak (ls' := [none, none, none, none, none, none, some (aI v), none, none, none, none]) (am_sub_n (am_sub_n (am_sub_n (am_sub_n (am_sub_n (am_sub_n (am_sub_s (am_sub_n (am_sub_n (am_sub_n (am_sub_n am_sub_nil))))))))))) ?_
        have e9 : (w_k_lineOf_36 q xa ya t) (v, i, j) = .inr (v, i, j) := ((if_pos h39).trans (if_pos h46))
        simp only [am_wh_r e9] at k9
        exact k9 _ _ _ rfl rfl rfl (by omega)
      · refine T_iload (am_dec tX12_lineOf_0 29 rfl) rfl ?_
        refine T_iload_n (am_dec tX12_lineOf_0 30 rfl) rfl ?_
        refine T_callS (as := [aI i, aI xa]) rfl (am_dec tX12_lineOf_0 31 rfl) lkX12_358 rfl (Nat.le_of_ble_eq_true rfl) (by omega) (mk_turnTo (d := d - 1)  i xa   ) (fun _ => ?_)
        refine T_nm (fun n52 hn52 => ?_)
        have hm52 := hn52
        unfold k_turnTo at hm52
        refine T_istore (ls' := [some (aR b), none, none, some (aI xa), some (aI ya), some (aI t), some (aI v), some (aI i), some (aI j), some (aI n52), none]) (am_dec tX12_lineOf_0 32 rfl) (by decide) rfl ?_
        refine T_iload (am_dec tX12_lineOf_0 33 rfl) rfl ?_
        refine T_iload (am_dec tX12_lineOf_0 34 rfl) rfl ?_
        refine T_callS (as := [aI j, aI ya]) rfl (am_dec tX12_lineOf_0 35 rfl) lkX12_358 rfl (Nat.le_of_ble_eq_true rfl) (by omega) (mk_turnTo (d := d - 1)  j ya   ) (fun _ => ?_)
        refine T_nm (fun n61 hn61 => ?_)
        have hm61 := hn61
        unfold k_turnTo at hm61
        refine T_istore (ls' := [some (aR b), none, none, some (aI xa), some (aI ya), some (aI t), some (aI v), some (aI i), some (aI j), some (aI n52), some (aI n61)]) (am_dec tX12_lineOf_0 36 rfl) (by decide) rfl ?_
        refine T_iload (am_dec tX12_lineOf_0 37 rfl) rfl ?_
        refine T_iload (am_dec tX12_lineOf_0 38 rfl) rfl ?_
        refine T_iadd (i + n52) (am_dec tX12_lineOf_0 39 rfl) rfl ⟨by omega, by omega⟩ ?_
        refine T_istore (ls' := [some (aR b), none, none, some (aI xa), some (aI ya), some (aI t), some (aI v), some (aI (i + n52)), some (aI j), some (aI n52), some (aI n61)]) (am_dec tX12_lineOf_1 0 rfl) (by decide) rfl ?_
        refine T_iload (am_dec tX12_lineOf_1 1 rfl) rfl ?_
        refine T_iload (am_dec tX12_lineOf_1 2 rfl) rfl ?_
        refine T_iadd (j + n61) (am_dec tX12_lineOf_1 3 rfl) rfl ⟨by omega, by omega⟩ ?_
        refine T_istore (ls' := [some (aR b), none, none, some (aI xa), some (aI ya), some (aI t), some (aI v), some (aI (i + n52)), some (aI (j + n61)), some (aI n52), some (aI n61)]) (am_dec tX12_lineOf_1 4 rfl) (by decide) rfl ?_
        refine T_iload (am_dec tX12_lineOf_1 5 rfl) rfl ?_
        refine T_aload_n (am_dec tX12_lineOf_1 6 rfl) rfl ?_
        refine T_getfield 11 37 (am_dec tX12_lineOf_1 7 rfl) flX12_91_11 (md_obj hl) rfl ?_
        refine T_iload (am_dec tX12_lineOf_1 8 rfl) rfl ?_
        refine T_iconst 1 (am_dec tX12_lineOf_1 9 rfl) rfl ⟨by decide, by decide⟩ ?_
        refine T_iadd (t + 1) (am_dec tX12_lineOf_1 10 rfl) rfl ⟨by omega, by omega⟩ ?_
        refine T_aaloadR (r := b + (159 + (t + 1).toNat)) (am_dec tX12_lineOf_1 11 rfl) (by decide) (mh_fog hl) (by omega) (by omega) (if_pos (by omega)) ?_
        refine T_iload (am_dec tX12_lineOf_1 12 rfl) rfl ?_
        refine T_iload (am_dec tX12_lineOf_1 13 rfl) rfl ?_
        refine T_callS (as := [aI (i + n52), aI (j + n61)]) rfl (am_dec tX12_lineOf_1 14 rfl) lkX12_317 rfl (Nat.le_of_ble_eq_true rfl) (by omega) (mk_cell' (d := d - 1) (i + n52) (j + n61) (by omega)) (fun _ => ?_)
        refine T_ialoadE (x := q (159 + (t + 1).toNat) (((i + n52) + (9 * (j + n61))).toNat)) (am_dec tX12_lineOf_1 15 rfl) (mr_fog hl (i := (t + 1)) (by omega) (by omega)) (by omega) (by omega) rfl ?_
        refine T_iaddW (am_w32 (v + (q (159 + (t + 1).toNat) (((i + n52) + (9 * (j + n61))).toNat)))) (am_dec tX12_lineOf_1 16 rfl) (am_w32e _).symm (am_w32r _) ?_
        refine T_nm (fun v_100 hv_100 => ?_)
        refine T_istore (ls' := [some (aR b), none, none, some (aI xa), some (aI ya), some (aI t), some (aI v_100), some (aI (i + n52)), some (aI (j + n61)), some (aI n52), some (aI n61)]) (am_dec tX12_lineOf_1 17 rfl) (by decide) rfl ?_
        refine T_goto 36 (am_dec tX12_lineOf_1 18 rfl) rfl ?_
        refine T_weak (ls' := [some (aR b), none, none, some (aI xa), some (aI ya), some (aI t), some (aI v_100), some (aI (i + n52)), some (aI (j + n61)), none, none]) (am_sub_s (am_sub_n (am_sub_n (am_sub_s (am_sub_s (am_sub_s (am_sub_s (am_sub_s (am_sub_s (am_sub_n (am_sub_n am_sub_nil))))))))))) ?_
        have e9 : (w_k_lineOf_36 q xa ya t) (v, i, j) = .inl (v_100, i + n52, j + n61) := (by subst hn52; subst hn61; subst hv_100; exact ((if_pos h39).trans (if_neg h46)))
        simp only [am_wh_l e9] at k9
        exact ih v_100 (i + n52) (j + n61) (by omega) (by omega) k9
def k_lineOf (q : am_F) (x : Int) (y : Int) (xa : Int) (ya : Int) (t : Int) : Int := (let z5 : Int := (k_isLine x y xa ya); (if z5 = 0 then (-1) else (let v_28 : Int := q (159 + (t + 1).toNat) ((x + (9 * y)).toNat); (am_wh (w_k_lineOf_36 q xa ya t) 17 (v_28, x, y)).1)))
theorem mk_lineOf {S : am_S} {d u : Nat} {w : AH} {b : Nat} (hl : b + 735 ≤ w.length) {c : am_F} {q : am_F} (x : Int) (y : Int) (xa : Int) (ya : Int) (t : Int) (hx : (0 ≤ x ∧ x ≤ 8) ∧ (0 ≤ y ∧ y ≤ 8) ∧ (0 ≤ xa ∧ xa ≤ 8) ∧ (0 ≤ ya ∧ ya ≤ 8)) (ht : -1 ≤ t ∧ t < 40) (hd : 1 ≤ d) : am_Out S zX12_lineOf d u [aR b, aI x, aI y, aI xa, aI ya, aI t] (mdW w b c q) (.inl (some (aI (k_lineOf q x y xa ya t)))) (mdW w b c q) := by
  have key : ∀ Q : AO → AH → Prop, Q (.inl (some (aI (k_lineOf q x y xa ya t)))) (mdW w b c q) → am_M S zX12_lineOf d u [aR b, aI x, aI y, aI xa, aI ya, aI t] (mdW w b c q) Q := by
    intro Q hQ
    refine am_body rfl (by decide +kernel) rfl (am_cats_cons rfl ( am_cats_cons rfl ( am_cats_cons rfl ( am_cats_cons rfl ( am_cats_cons rfl ( am_cats_cons rfl (am_cats_nil))))))) (Nat.le_of_ble_eq_true rfl) (?_ : am_T _ _ _ _ _ 0 [some (aR b), some (aI x), some (aI y), some (aI xa), some (aI ya), some (aI t), none, none, none, none, none] [] (mdW w b c q))
    refine T_iload_n (am_dec tX12_lineOf_0 0 rfl) rfl ?_
    refine T_iload_n (am_dec tX12_lineOf_0 1 rfl) rfl ?_
    refine T_iload_n (am_dec tX12_lineOf_0 2 rfl) rfl ?_
    refine T_iload (am_dec tX12_lineOf_0 3 rfl) rfl ?_
    refine T_callS (as := [aI x, aI y, aI xa, aI ya]) rfl (am_dec tX12_lineOf_0 4 rfl) lkX12_354 rfl (Nat.le_of_ble_eq_true rfl) (by omega) (mk_isLine (d := d - 1)  x y xa ya  (by omega) ) (fun _ => ?_)
    refine T_nm (fun z5 hz5 => ?_)
    have hb5 := k_isLine_b x y xa ya
    rw [← hz5] at hb5
    refine T_if_ne 13 (am_dec tX12_lineOf_0 5 rfl) rfl (fun h8 => ?_) (fun h8 => ?_)
    · refine T_aload_n (am_dec tX12_lineOf_0 8 rfl) rfl ?_
      refine T_getfield 11 37 (am_dec tX12_lineOf_0 9 rfl) flX12_91_11 (md_obj hl) rfl ?_
      refine T_iload (am_dec tX12_lineOf_0 10 rfl) rfl ?_
      refine T_iconst 1 (am_dec tX12_lineOf_0 11 rfl) rfl ⟨by decide, by decide⟩ ?_
      refine T_iadd (t + 1) (am_dec tX12_lineOf_0 12 rfl) rfl ⟨by omega, by omega⟩ ?_
      refine T_aaloadR (r := b + (159 + (t + 1).toNat)) (am_dec tX12_lineOf_0 13 rfl) (by decide) (mh_fog hl) (by omega) (by omega) (if_pos (by omega)) ?_
      refine T_iload_n (am_dec tX12_lineOf_0 14 rfl) rfl ?_
      refine T_iload_n (am_dec tX12_lineOf_0 15 rfl) rfl ?_
      refine T_callS (as := [aI x, aI y]) rfl (am_dec tX12_lineOf_0 16 rfl) lkX12_317 rfl (Nat.le_of_ble_eq_true rfl) (by omega) (mk_cell' (d := d - 1) x y (by omega)) (fun _ => ?_)
      refine T_ialoadE (x := q (159 + (t + 1).toNat) ((x + (9 * y)).toNat)) (am_dec tX12_lineOf_0 17 rfl) (mr_fog hl (i := (t + 1)) (by omega) (by omega)) (by omega) (by omega) rfl ?_
      refine T_nm (fun v_28 hv_28 => ?_)
      refine T_istore (ls' := [some (aR b), some (aI x), some (aI y), some (aI xa), some (aI ya), some (aI t), some (aI v_28), none, none, none, none]) (am_dec tX12_lineOf_0 18 rfl) (by decide) rfl ?_
      refine T_iload_n (am_dec tX12_lineOf_0 19 rfl) rfl ?_
      refine T_istore (ls' := [some (aR b), some (aI x), some (aI y), some (aI xa), some (aI ya), some (aI t), some (aI v_28), some (aI x), none, none, none]) (am_dec tX12_lineOf_0 20 rfl) (by decide) rfl ?_
      refine T_iload_n (am_dec tX12_lineOf_0 21 rfl) rfl ?_
      refine T_istore (ls' := [some (aR b), some (aI x), some (aI y), some (aI xa), some (aI ya), some (aI t), some (aI v_28), some (aI x), some (aI y), none, none]) (am_dec tX12_lineOf_0 22 rfl) (by decide) rfl ?_
      refine T_weak (ls' := [some (aR b), none, none, some (aI xa), some (aI ya), some (aI t), some (aI v_28), some (aI x), some (aI y), none, none]) (am_sub_s (am_sub_n (am_sub_n (am_sub_s (am_sub_s (am_sub_s (am_sub_s (am_sub_s (am_sub_s (am_sub_n (am_sub_n am_sub_nil))))))))))) ?_
      refine L_k_lineOf_36 hl c q x y xa ya t (by omega) (by omega)  (by omega) 17 v_28 x y (by omega) (by omega) (fun v_36 i_36 j_36 hv_36 hi_36 hj_36 hv36 => ?_)
      refine T_iload (am_dec tX12_lineOf_1 19 rfl) rfl ?_
      exact T_ireturn (am_dec tX12_lineOf_1 20 rfl) rfl (am_tr (fun x9 => Q (.inl (some (aI (x9)))) (mdW w b c q)) (y := v_36) (show (k_lineOf q x y xa ya t) = v_36 from (by subst hz5; subst hv_28; subst hv_36; subst hi_36; subst hj_36; exact (if_neg h8))) hQ)
    · refine T_iconst (-1) (am_dec tX12_lineOf_0 6 rfl) rfl ⟨by decide, by decide⟩ ?_
      exact T_ireturn (am_dec tX12_lineOf_0 7 rfl) rfl (am_tr (fun x9 => Q (.inl (some (aI (x9)))) (mdW w b c q)) (y := (-1)) (show (k_lineOf q x y xa ya t) = (-1) from (by subst hz5; exact (if_pos h8))) hQ)
  exact key _ ⟨rfl, rfl⟩
def k_seesBy (c : am_F) (q : am_F) (x : Int) (y : Int) (xa : Int) (ya : Int) (t : Int) : Int := (let n8 : Int := (k_lineOf q x y xa ya t); (if n8 = (-1) then 0 else (if c 4 7 ≤ n8 then 0 else 1)))
theorem mk_seesBy {S : am_S} {d u : Nat} {w : AH} {b : Nat} (hl : b + 735 ≤ w.length) {c : am_F} {q : am_F} (x : Int) (y : Int) (xa : Int) (ya : Int) (t : Int) (hx : (0 ≤ x ∧ x ≤ 8) ∧ (0 ≤ y ∧ y ≤ 8) ∧ (0 ≤ xa ∧ xa ≤ 8) ∧ (0 ≤ ya ∧ ya ≤ 8)) (ht : -1 ≤ t ∧ t < 40) (hd : 2 ≤ d) : am_Out S zX12_seesBy d u [aR b, aI x, aI y, aI xa, aI ya, aI t] (mdW w b c q) (.inl (some (aI (k_seesBy c q x y xa ya t)))) (mdW w b c q) := by
  have key : ∀ Q : AO → AH → Prop, Q (.inl (some (aI (k_seesBy c q x y xa ya t)))) (mdW w b c q) → am_M S zX12_seesBy d u [aR b, aI x, aI y, aI xa, aI ya, aI t] (mdW w b c q) Q := by
    intro Q hQ
    refine am_body rfl (by decide +kernel) rfl (am_cats_cons rfl ( am_cats_cons rfl ( am_cats_cons rfl ( am_cats_cons rfl ( am_cats_cons rfl ( am_cats_cons rfl (am_cats_nil))))))) (Nat.le_of_ble_eq_true rfl) (?_ : am_T _ _ _ _ _ 0 [some (aR b), some (aI x), some (aI y), some (aI xa), some (aI ya), some (aI t), none] [] (mdW w b c q))
    refine T_aload_n (am_dec tX12_seesBy_0 0 rfl) rfl ?_
    refine T_iload_n (am_dec tX12_seesBy_0 1 rfl) rfl ?_
    refine T_iload_n (am_dec tX12_seesBy_0 2 rfl) rfl ?_
    refine T_iload_n (am_dec tX12_seesBy_0 3 rfl) rfl ?_
    refine T_iload (am_dec tX12_seesBy_0 4 rfl) rfl ?_
    refine T_iload (am_dec tX12_seesBy_0 5 rfl) rfl ?_
    refine T_callV (as := [aI x, aI y, aI xa, aI ya, aI t]) rfl (am_dec tX12_seesBy_0 6 rfl) lkX12_361 (md_obj hl) rfl rfl (Nat.le_of_ble_eq_true rfl) (by omega) (mk_lineOf (d := d - 1) hl x y xa ya t  (by omega) (by omega) (by omega)) (fun _ => ?_)
    refine T_nm (fun n8 hn8 => ?_)
    refine T_istore (ls' := [some (aR b), some (aI x), some (aI y), some (aI xa), some (aI ya), some (aI t), some (aI n8)]) (am_dec tX12_seesBy_0 7 rfl) (by decide) rfl ?_
    refine T_iload (am_dec tX12_seesBy_0 8 rfl) rfl ?_
    refine T_iconst (-1) (am_dec tX12_seesBy_0 9 rfl) rfl ⟨by decide, by decide⟩ ?_
    have K16 : ∀ (t16 : Int), t16 = (if n8 = (-1) then 0 else (if c 4 7 ≤ n8 then 0 else 1)) →  am_T S zX12_seesBy d u Q 36 [none, none, none, none, none, none, none] [aI t16] (mdW w b c q) := by
      intro t16 ht16
      have hbt16 : t16 = 0 ∨ t16 = 1 := by
        rw [ht16]
        try dsimp only
        repeat' split
        all_goals first | exact Or.inl rfl | exact Or.inr rfl | apply k_in_b | apply k_isDigit_b | apply k_isSmall_b | apply k_bad_b | apply k_isIn_b | apply k_isStep_b | apply k_isFirst_b | apply k_isLine_b | omega
      exact T_zreturn (am_dec tX12_seesBy_0 20 rfl) rfl (by first | exact Or.inl rfl | exact Or.inr rfl | omega) (am_tr (fun x9 => Q (.inl (some (aI (x9)))) (mdW w b c q)) (y := t16) (show (k_seesBy c q x y xa ya t) = t16 from (by subst hn8; subst ht16; rfl)) hQ)
    refine T_icmp_eq 35 (am_dec tX12_seesBy_0 10 rfl) rfl (fun h16 => ?_) (fun h16 => ?_)
    · refine T_iconst 0 (am_dec tX12_seesBy_0 19 rfl) rfl ⟨by decide, by decide⟩ ?_
      refine T_weak (ls' := [none, none, none, none, none, none, none]) (am_sub_n (am_sub_n (am_sub_n (am_sub_n (am_sub_n (am_sub_n (am_sub_n am_sub_nil))))))) ?_
      exact K16 _ (if_pos h16).symm
    · refine T_iload (am_dec tX12_seesBy_0 11 rfl) rfl ?_
      refine T_aload_n (am_dec tX12_seesBy_0 12 rfl) rfl ?_
      refine T_getfield 11 11 (am_dec tX12_seesBy_0 13 rfl) flX12_23_11 (md_obj hl) rfl ?_
      refine T_bipush 7 (am_dec tX12_seesBy_0 14 rfl) rfl ⟨by decide, by decide⟩ ?_
      refine T_ialoadE (x := c 4 7) (am_dec tX12_seesBy_0 15 rfl) (md_told hl) (by omega) (by omega) rfl ?_
      have K28 : ∀ (t28 : Int), t28 = (if c 4 7 ≤ n8 then 0 else 1) →  am_T S zX12_seesBy d u Q 36 [none, none, none, none, none, none, none] [aI t28] (mdW w b c q) := by
        intro t28 ht28
        have hbt28 : t28 = 0 ∨ t28 = 1 := by
          rw [ht28]
          try dsimp only
          repeat' split
          all_goals first | exact Or.inl rfl | exact Or.inr rfl | apply k_in_b | apply k_isDigit_b | apply k_isSmall_b | apply k_bad_b | apply k_isIn_b | apply k_isStep_b | apply k_isFirst_b | apply k_isLine_b | omega
        exact K16 _ (by subst ht28; exact (if_neg h16).symm)
      refine T_icmp_ge 35 (am_dec tX12_seesBy_0 16 rfl) rfl (fun h28 => ?_) (fun h28 => ?_)
      · refine T_iconst 0 (am_dec tX12_seesBy_0 19 rfl) rfl ⟨by decide, by decide⟩ ?_
        refine T_weak (ls' := [none, none, none, none, none, none, none]) (am_sub_n (am_sub_n (am_sub_n (am_sub_n (am_sub_n (am_sub_n (am_sub_n am_sub_nil))))))) ?_
        exact K28 _ (if_pos h28).symm
      · refine T_iconst 1 (am_dec tX12_seesBy_0 17 rfl) rfl ⟨by decide, by decide⟩ ?_
        refine T_goto 36 (am_dec tX12_seesBy_0 18 rfl) rfl ?_
        refine T_weak (ls' := [none, none, none, none, none, none, none]) (am_sub_n (am_sub_n (am_sub_n (am_sub_n (am_sub_n (am_sub_n (am_sub_n am_sub_nil))))))) ?_
        exact K28 _ (if_neg h28).symm
  exact key _ ⟨rfl, rfl⟩
theorem k_seesBy_b (c : am_F) (q : am_F) (x : Int) (y : Int) (xa : Int) (ya : Int) (t : Int) : (k_seesBy c q x y xa ya t) = 0 ∨ (k_seesBy c q x y xa ya t) = 1 := by
  unfold k_seesBy
  try dsimp only
  repeat' split
  all_goals first | exact Or.inl rfl | exact Or.inr rfl | apply k_in_b | apply k_isDigit_b | apply k_isSmall_b | apply k_bad_b | apply k_isIn_b | apply k_isStep_b | apply k_isFirst_b | apply k_isLine_b
def k_isWalker (c : am_F) (wk : Int) : Int := (k_in wk 0 ((c 4 4) - 1))
theorem mk_isWalker {S : am_S} {d u : Nat} {w : AH} {b : Nat} (hl : b + 735 ≤ w.length) {c : am_F} {q : am_F} (wk : Int) (hV : MdV c) (hd : 1 ≤ d) : am_Out S zX12_isWalker d u [aR b, aI wk] (mdW w b c q) (.inl (some (aI (k_isWalker c wk)))) (mdW w b c q) := by
  have key : ∀ Q : AO → AH → Prop, Q (.inl (some (aI (k_isWalker c wk)))) (mdW w b c q) → am_M S zX12_isWalker d u [aR b, aI wk] (mdW w b c q) Q := by
    intro Q hQ
    refine am_body rfl (by decide +kernel) rfl (am_cats_cons rfl ( am_cats_cons rfl (am_cats_nil))) (Nat.le_of_ble_eq_true rfl) (?_ : am_T _ _ _ _ _ 0 [some (aR b), some (aI wk)] [] (mdW w b c q))
    obtain ⟨vl4, vu4⟩ := MdV_4 hV
    refine T_iload_n (am_dec tX12_isWalker_0 0 rfl) rfl ?_
    refine T_iconst 0 (am_dec tX12_isWalker_0 1 rfl) rfl ⟨by decide, by decide⟩ ?_
    refine T_aload_n (am_dec tX12_isWalker_0 2 rfl) rfl ?_
    refine T_getfield 11 11 (am_dec tX12_isWalker_0 3 rfl) flX12_23_11 (md_obj hl) rfl ?_
    refine T_iconst 4 (am_dec tX12_isWalker_0 4 rfl) rfl ⟨by decide, by decide⟩ ?_
    refine T_ialoadE (x := c 4 4) (am_dec tX12_isWalker_0 5 rfl) (md_told hl) (by omega) (by omega) rfl ?_
    refine T_iconst 1 (am_dec tX12_isWalker_0 6 rfl) rfl ⟨by decide, by decide⟩ ?_
    refine T_isub ((c 4 4) - 1) (am_dec tX12_isWalker_0 7 rfl) rfl ⟨by omega, by omega⟩ ?_
    refine T_callS (as := [aI wk, aI 0, aI ((c 4 4) - 1)]) rfl (am_dec tX12_isWalker_0 8 rfl) lkX12_194 rfl (Nat.le_of_ble_eq_true rfl) (by omega) (mk_in (d := d - 1)  wk 0 ((c 4 4) - 1)   ) (fun _ => ?_)
    refine T_nm (fun z10 hz10 => ?_)
    have hb10 := k_in_b wk 0 ((c 4 4) - 1)
    rw [← hz10] at hb10
    have hs10 := k_in_s wk 0 ((c 4 4) - 1)
    rw [← hz10] at hs10
    exact T_zreturn (am_dec tX12_isWalker_0 9 rfl) rfl (by first | exact Or.inl rfl | exact Or.inr rfl | omega) (am_tr (fun x9 => Q (.inl (some (aI (x9)))) (mdW w b c q)) (y := z10) (show (k_isWalker c wk) = z10 from (by subst hz10; rfl)) hQ)
  exact key _ ⟨rfl, rfl⟩
theorem k_isWalker_b (c : am_F) (wk : Int) : (k_isWalker c wk) = 0 ∨ (k_isWalker c wk) = 1 := by
  unfold k_isWalker
  try dsimp only
  repeat' split
  all_goals first | exact Or.inl rfl | exact Or.inr rfl | apply k_in_b | apply k_isDigit_b | apply k_isSmall_b | apply k_bad_b | apply k_isIn_b | apply k_isStep_b | apply k_isFirst_b | apply k_isLine_b | apply k_seesBy_b
theorem k_isWalker_s (c : am_F) (x : Int) : (k_isWalker c x = 1 ∧ 0 ≤ x ∧ x < c 4 4) ∨ (k_isWalker c x = 0 ∧ ¬ (0 ≤ x ∧ x < c 4 4)) := by
  have h := k_in_s x 0 (c 4 4 - 1)
  unfold k_isWalker
  omega
theorem k_isStep_s (t : Int) : (k_isStep t = 1 ∧ 0 ≤ t ∧ t ≤ 39) ∨ (k_isStep t = 0 ∧ ¬ (0 ≤ t ∧ t ≤ 39)) := k_in_s t 0 39
theorem k_isFirst_s (t : Int) : (k_isFirst t = 1 ∧ -1 ≤ t ∧ t ≤ 39) ∨ (k_isFirst t = 0 ∧ ¬ (-1 ≤ t ∧ t ≤ 39)) := k_in_s t (-1) 39
def k_goesBy (lc : Int) (ac : Int) : Int := (if ac = 0 then (if lc = 110 then (-1) else (if lc = 115 then 1 else 0)) else (if lc = 119 then (-1) else (if lc = 101 then 1 else 0)))
theorem mk_goesBy {S : am_S} {d u : Nat} {w : AH}  (lc : Int) (ac : Int)   : am_Out S zX12_goesBy d u [aI lc, aI ac] (w) (.inl (some (aI (k_goesBy lc ac)))) (w) := by
  have key : ∀ Q : AO → AH → Prop, Q (.inl (some (aI (k_goesBy lc ac)))) (w) → am_M S zX12_goesBy d u [aI lc, aI ac] (w) Q := by
    intro Q hQ
    refine am_body rfl (by decide +kernel) rfl (am_cats_cons rfl ( am_cats_cons rfl (am_cats_nil))) (Nat.le_of_ble_eq_true rfl) (?_ : am_T _ _ _ _ _ 0 [some (aI lc), some (aI ac)] [] (w))
    refine T_iload_n (am_dec tX12_goesBy_0 0 rfl) rfl ?_
    have K1 : ∀ (t1 : Int), t1 = (if ac = 0 then (if lc = 110 then (-1) else (if lc = 115 then 1 else 0)) else (if lc = 119 then (-1) else (if lc = 101 then 1 else 0))) →  am_T S zX12_goesBy d u Q 49 [none, none] [aI t1] (w) := by
      intro t1 ht1
      exact T_ireturn (am_dec tX12_goesBy_0 25 rfl) rfl (am_tr (fun x9 => Q (.inl (some (aI (x9)))) (w)) (y := t1) (show (k_goesBy lc ac) = t1 from (by subst ht1; rfl)) hQ)
    refine T_if_eq 28 (am_dec tX12_goesBy_0 1 rfl) rfl (fun h1 => ?_) (fun h1 => ?_)
    · refine T_iload_n (am_dec tX12_goesBy_0 14 rfl) rfl ?_
      refine T_bipush 110 (am_dec tX12_goesBy_0 15 rfl) rfl ⟨by decide, by decide⟩ ?_
      have K31 : ∀ (t31 : Int), t31 = (if lc = 110 then (-1) else (if lc = 115 then 1 else 0)) →  am_T S zX12_goesBy d u Q 49 [none, none] [aI t31] (w) := by
        intro t31 ht31
        exact K1 _ (by subst ht31; exact (if_pos h1).symm)
      refine T_icmp_ne 38 (am_dec tX12_goesBy_0 16 rfl) rfl (fun h31 => ?_) (fun h31 => ?_)
      · refine T_iload_n (am_dec tX12_goesBy_0 19 rfl) rfl ?_
        refine T_bipush 115 (am_dec tX12_goesBy_0 20 rfl) rfl ⟨by decide, by decide⟩ ?_
        have K41 : ∀ (t41 : Int), t41 = (if lc = 115 then 1 else 0) →  am_T S zX12_goesBy d u Q 49 [none, none] [aI t41] (w) := by
          intro t41 ht41
          have hbt41 : t41 = 0 ∨ t41 = 1 := by
            rw [ht41]
            try dsimp only
            repeat' split
            all_goals first | exact Or.inl rfl | exact Or.inr rfl | apply k_in_b | apply k_isDigit_b | apply k_isSmall_b | apply k_bad_b | apply k_isIn_b | apply k_isStep_b | apply k_isFirst_b | apply k_isLine_b | apply k_seesBy_b | apply k_isWalker_b | omega
          exact K31 _ (by subst ht41; exact (if_neg h31).symm)
        refine T_icmp_ne 48 (am_dec tX12_goesBy_0 21 rfl) rfl (fun h41 => ?_) (fun h41 => ?_)
        · refine T_iconst 0 (am_dec tX12_goesBy_0 24 rfl) rfl ⟨by decide, by decide⟩ ?_
          refine T_weak (ls' := [none, none]) (am_sub_n (am_sub_n am_sub_nil)) ?_
          exact K41 _ (if_neg h41).symm
        · refine T_iconst 1 (am_dec tX12_goesBy_0 22 rfl) rfl ⟨by decide, by decide⟩ ?_
          refine T_goto 49 (am_dec tX12_goesBy_0 23 rfl) rfl ?_
          refine T_weak (ls' := [none, none]) (am_sub_n (am_sub_n am_sub_nil)) ?_
          exact K41 _ (if_pos h41).symm
      · refine T_iconst (-1) (am_dec tX12_goesBy_0 17 rfl) rfl ⟨by decide, by decide⟩ ?_
        refine T_goto 49 (am_dec tX12_goesBy_0 18 rfl) rfl ?_
        refine T_weak (ls' := [none, none]) (am_sub_n (am_sub_n am_sub_nil)) ?_
        exact K31 _ (if_pos h31).symm
    · refine T_iload_n (am_dec tX12_goesBy_0 2 rfl) rfl ?_
      refine T_bipush 119 (am_dec tX12_goesBy_0 3 rfl) rfl ⟨by decide, by decide⟩ ?_
      have K7 : ∀ (t7 : Int), t7 = (if lc = 119 then (-1) else (if lc = 101 then 1 else 0)) →  am_T S zX12_goesBy d u Q 49 [none, none] [aI t7] (w) := by
        intro t7 ht7
        exact K1 _ (by subst ht7; exact (if_neg h1).symm)
      refine T_icmp_ne 14 (am_dec tX12_goesBy_0 4 rfl) rfl (fun h7 => ?_) (fun h7 => ?_)
      · refine T_iload_n (am_dec tX12_goesBy_0 7 rfl) rfl ?_
        refine T_bipush 101 (am_dec tX12_goesBy_0 8 rfl) rfl ⟨by decide, by decide⟩ ?_
        have K17 : ∀ (t17 : Int), t17 = (if lc = 101 then 1 else 0) →  am_T S zX12_goesBy d u Q 49 [none, none] [aI t17] (w) := by
          intro t17 ht17
          have hbt17 : t17 = 0 ∨ t17 = 1 := by
            rw [ht17]
            try dsimp only
            repeat' split
            all_goals first | exact Or.inl rfl | exact Or.inr rfl | apply k_in_b | apply k_isDigit_b | apply k_isSmall_b | apply k_bad_b | apply k_isIn_b | apply k_isStep_b | apply k_isFirst_b | apply k_isLine_b | apply k_seesBy_b | apply k_isWalker_b | omega
          exact K7 _ (by subst ht17; exact (if_neg h7).symm)
        refine T_icmp_ne 24 (am_dec tX12_goesBy_0 9 rfl) rfl (fun h17 => ?_) (fun h17 => ?_)
        · refine T_iconst 0 (am_dec tX12_goesBy_0 12 rfl) rfl ⟨by decide, by decide⟩ ?_
          refine T_goto 49 (am_dec tX12_goesBy_0 13 rfl) rfl ?_
          refine T_weak (ls' := [none, none]) (am_sub_n (am_sub_n am_sub_nil)) ?_
          exact K17 _ (if_neg h17).symm
        · refine T_iconst 1 (am_dec tX12_goesBy_0 10 rfl) rfl ⟨by decide, by decide⟩ ?_
          refine T_goto 49 (am_dec tX12_goesBy_0 11 rfl) rfl ?_
          refine T_weak (ls' := [none, none]) (am_sub_n (am_sub_n am_sub_nil)) ?_
          exact K17 _ (if_pos h17).symm
      · refine T_iconst (-1) (am_dec tX12_goesBy_0 5 rfl) rfl ⟨by decide, by decide⟩ ?_
        refine T_goto 49 (am_dec tX12_goesBy_0 6 rfl) rfl ?_
        refine T_weak (ls' := [none, none]) (am_sub_n (am_sub_n am_sub_nil)) ?_
        exact K7 _ (if_pos h7).symm
  exact key _ ⟨rfl, rfl⟩
theorem k_goesBy_b (x y : Int) : -1 ≤ k_goesBy x y ∧ k_goesBy x y ≤ 1 := by
  unfold k_goesBy
  repeat' split
  all_goals omega
def MdK (c : am_F) : Prop := ∀ wk : Int, 0 ≤ wk → wk < c 4 4 → (0 ≤ c (108 + wk.toNat) 0 ∧ c (108 + wk.toNat) 0 ≤ 8) ∧ (0 ≤ c (108 + wk.toNat) 1 ∧ c (108 + wk.toNat) 1 ≤ 8) ∧ (0 ≤ c (108 + wk.toNat) 2 ∧ c (108 + wk.toNat) 2 ≤ 39) ∧ 0 ≤ c (108 + wk.toNat) 3 ∧ c (108 + wk.toNat) 3 ≤ 12
def g_k_placeOf_52 (c : am_F) (wk : Int) (i : Int) (x9 : Int × Int) : Int × Int := let x := x9.1; let y := x9.2; (let n72 : Int := (k_goesBy (c (108 + wk.toNat) ((4 + i).toNat)) 1); (let n92 : Int := (k_goesBy (c (108 + wk.toNat) ((4 + i).toNat)) 0); ((x + n72), (y + n92))))
theorem L_k_placeOf_52 {S : am_S} {d u : Nat} {Q : AO → AH → Prop} {w : AH} {b : Nat} (hl : b + 735 ≤ w.length) (c : am_F) (q : am_F) (wk : Int) (t : Int) (nn : Int) (hV : MdV c) (hK9 : MdK c) (hwk : 0 ≤ wk ∧ wk < c 4 4) (ht : -1 ≤ t ∧ t < 40) (hn : 0 ≤ nn ∧ nn ≤ 12) (hd : 1 ≤ d) (B9 : Int) (hB : B9 = nn) : ∀ (n : Nat) (i : Int) (x : Int) (y : Int), i + n = B9 → 0 ≤ i → (0 - i ≤ x ∧ x ≤ 8 + i) ∧ 0 - i ≤ y ∧ y ≤ 8 + i → (∀ (x' : Int) (y' : Int), x' = (am_fold (g_k_placeOf_52 c wk) i n (x, y)).1 → y' = (am_fold (g_k_placeOf_52 c wk) i n (x, y)).2 → (0 - B9 ≤ x' ∧ x' ≤ 8 + B9) ∧ 0 - B9 ≤ y' ∧ y' ≤ 8 + B9 → am_T S zX12_placeOf d u Q 104 [none, none, none, none, some (aI x'), some (aI y'), none] [] (mdW w b c q)) → am_T S zX12_placeOf d u Q 52 [some (aR b), some (aI wk), none, some (aI nn), some (aI x), some (aI y), some (aI i)] [] (mdW w b c q) := by
  intro n
  induction n with
  | zero =>
    intro i x y hi9 h0i hinv k9
    have e9 : i = B9 := by omega
    subst e9
    obtain ⟨vl4, vu4⟩ := MdV_4 hV
    have kw := hK9 wk (by omega) (by omega)
    refine T_iload (am_dec tX12_placeOf_0 37 rfl) rfl ?_
    refine T_iload_n (am_dec tX12_placeOf_0 38 rfl) rfl ?_
    refine T_icmp_ge 104 (am_dec tX12_placeOf_0 39 rfl) rfl (fun h55 => ?_) (fun h55 => by exfalso; omega)
    refine T_weak (ls' := [none, none, none, none, some (aI x), some (aI y), none]) (am_sub_n (am_sub_n (am_sub_n (am_sub_n (am_sub_s (am_sub_s (am_sub_n am_sub_nil))))))) ?_
    exact k9 x y rfl rfl hinv
  | succ n ih =>
    intro i x y hi9 h0i hinv k9
    obtain ⟨vl4, vu4⟩ := MdV_4 hV
    have kw := hK9 wk (by omega) (by omega)
    refine T_iload (am_dec tX12_placeOf_0 37 rfl) rfl ?_
    refine T_iload_n (am_dec tX12_placeOf_0 38 rfl) rfl ?_
    refine T_icmp_ge 104 (am_dec tX12_placeOf_0 39 rfl) rfl (fun h55 => by exfalso; omega) (fun h55 => ?_)
    refine T_iload (am_dec tX12_placeOf_1 0 rfl) rfl ?_
    refine T_aload_n (am_dec tX12_placeOf_1 1 rfl) rfl ?_
    refine T_getfield 11 25 (am_dec tX12_placeOf_1 2 rfl) flX12_67_11 (md_obj hl) rfl ?_
    refine T_iload_n (am_dec tX12_placeOf_1 3 rfl) rfl ?_
    refine T_aaloadR (r := b + (108 + wk.toNat)) (am_dec tX12_placeOf_1 4 rfl) (by decide) (mh_walker hl) (by omega) (by omega) (if_pos (by omega)) ?_
    refine T_iconst 4 (am_dec tX12_placeOf_1 5 rfl) rfl ⟨by decide, by decide⟩ ?_
    refine T_iload (am_dec tX12_placeOf_1 6 rfl) rfl ?_
    refine T_iadd (4 + i) (am_dec tX12_placeOf_1 7 rfl) rfl ⟨by omega, by omega⟩ ?_
    refine T_ialoadE (x := c (108 + wk.toNat) ((4 + i).toNat)) (am_dec tX12_placeOf_1 8 rfl) (mr_walker hl (i := wk) (by omega) (by omega)) (by omega) (by omega) rfl ?_
    refine T_iconst 1 (am_dec tX12_placeOf_1 9 rfl) rfl ⟨by decide, by decide⟩ ?_
    refine T_callS (as := [aI (c (108 + wk.toNat) ((4 + i).toNat)), aI 1]) rfl (am_dec tX12_placeOf_1 10 rfl) lkX12_271 rfl (Nat.le_of_ble_eq_true rfl) (by omega) (mk_goesBy (d := d - 1)  (c (108 + wk.toNat) ((4 + i).toNat)) 1   ) (fun _ => ?_)
    refine T_nm (fun n72 hn72 => ?_)
    have hs72 := k_goesBy_b (c (108 + wk.toNat) ((4 + i).toNat)) 1
    rw [← hn72] at hs72
    refine T_iadd (x + n72) (am_dec tX12_placeOf_1 11 rfl) rfl ⟨by omega, by omega⟩ ?_
    refine T_istore (ls' := [some (aR b), some (aI wk), none, some (aI nn), some (aI (x + n72)), some (aI y), some (aI i)]) (am_dec tX12_placeOf_1 12 rfl) (by decide) rfl ?_
    refine T_iload (am_dec tX12_placeOf_1 13 rfl) rfl ?_
    refine T_aload_n (am_dec tX12_placeOf_1 14 rfl) rfl ?_
    refine T_getfield 11 25 (am_dec tX12_placeOf_1 15 rfl) flX12_67_11 (md_obj hl) rfl ?_
    refine T_iload_n (am_dec tX12_placeOf_1 16 rfl) rfl ?_
    refine T_aaloadR (r := b + (108 + wk.toNat)) (am_dec tX12_placeOf_1 17 rfl) (by decide) (mh_walker hl) (by omega) (by omega) (if_pos (by omega)) ?_
    refine T_iconst 4 (am_dec tX12_placeOf_1 18 rfl) rfl ⟨by decide, by decide⟩ ?_
    refine T_iload (am_dec tX12_placeOf_1 19 rfl) rfl ?_
    refine T_iadd (4 + i) (am_dec tX12_placeOf_1 20 rfl) rfl ⟨by omega, by omega⟩ ?_
    refine T_ialoadE (x := c (108 + wk.toNat) ((4 + i).toNat)) (am_dec tX12_placeOf_1 21 rfl) (mr_walker hl (i := wk) (by omega) (by omega)) (by omega) (by omega) rfl ?_
    refine T_iconst 0 (am_dec tX12_placeOf_1 22 rfl) rfl ⟨by decide, by decide⟩ ?_
    refine T_callS (as := [aI (c (108 + wk.toNat) ((4 + i).toNat)), aI 0]) rfl (am_dec tX12_placeOf_1 23 rfl) lkX12_271 rfl (Nat.le_of_ble_eq_true rfl) (by omega) (mk_goesBy (d := d - 1)  (c (108 + wk.toNat) ((4 + i).toNat)) 0   ) (fun _ => ?_)
    refine T_nm (fun n92 hn92 => ?_)
    have hs92 := k_goesBy_b (c (108 + wk.toNat) ((4 + i).toNat)) 0
    rw [← hn92] at hs92
    refine T_iadd (y + n92) (am_dec tX12_placeOf_1 24 rfl) rfl ⟨by omega, by omega⟩ ?_
    refine T_istore (ls' := [some (aR b), some (aI wk), none, some (aI nn), some (aI (x + n72)), some (aI (y + n92)), some (aI i)]) (am_dec tX12_placeOf_1 25 rfl) (by decide) rfl ?_
    refine T_iinc (ls' := [some (aR b), some (aI wk), none, some (aI nn), some (aI (x + n72)), some (aI (y + n92)), some (aI (i + 1))]) (i + 1) (am_dec tX12_placeOf_1 26 rfl) rfl rfl ⟨by omega, by omega⟩ (by decide) rfl ?_
    refine T_goto 52 (am_dec tX12_placeOf_1 27 rfl) rfl ?_
    have e9 : (g_k_placeOf_52 c wk) i (x, y) = (x + n72, y + n92) := (by subst hn72; subst hn92; rfl)
    simp only [am_fold_s, e9] at k9
    exact ih (i + 1) (x + n72) (y + n92) (by omega) (by omega) (by omega) k9
def k_placeOf (c : am_F) (wk : Int) (t : Int) : Int := (let nn_10 : Int := t - (c (108 + wk.toNat) 2); (if nn_10 < 0 then (-1) else (if nn_10 ≤ c (108 + wk.toNat) 3 then (let x_37 : Int := c (108 + wk.toNat) 0; (let y_47 : Int := c (108 + wk.toNat) 1; (let x_52 : Int := (am_fold (g_k_placeOf_52 c wk) 0 (nn_10).toNat (x_37, y_47)).1; (let y_52 : Int := (am_fold (g_k_placeOf_52 c wk) 0 (nn_10).toNat (x_37, y_47)).2; (x_52 + (9 * y_52)))))) else (-1))))
theorem mk_placeOf {S : am_S} {d u : Nat} {w : AH} {b : Nat} (hl : b + 735 ≤ w.length) {c : am_F} {q : am_F} (wk : Int) (t : Int) (hV : MdV c) (hK9 : MdK c) (hwk : 0 ≤ wk ∧ wk < c 4 4) (ht : -1 ≤ t ∧ t < 40) (hd : 1 ≤ d) : am_Out S zX12_placeOf d u [aR b, aI wk, aI t] (mdW w b c q) (.inl (some (aI (k_placeOf c wk t)))) (mdW w b c q) := by
  have key : ∀ Q : AO → AH → Prop, Q (.inl (some (aI (k_placeOf c wk t)))) (mdW w b c q) → am_M S zX12_placeOf d u [aR b, aI wk, aI t] (mdW w b c q) Q := by
    intro Q hQ
    refine am_body rfl (by decide +kernel) rfl (am_cats_cons rfl ( am_cats_cons rfl ( am_cats_cons rfl (am_cats_nil)))) (Nat.le_of_ble_eq_true rfl) (?_ : am_T _ _ _ _ _ 0 [some (aR b), some (aI wk), some (aI t), none, none, none, none] [] (mdW w b c q))
    obtain ⟨vl4, vu4⟩ := MdV_4 hV
    have kw := hK9 wk (by omega) (by omega)
    refine T_iload_n (am_dec tX12_placeOf_0 0 rfl) rfl ?_
    refine T_aload_n (am_dec tX12_placeOf_0 1 rfl) rfl ?_
    refine T_getfield 11 25 (am_dec tX12_placeOf_0 2 rfl) flX12_67_11 (md_obj hl) rfl ?_
    refine T_iload_n (am_dec tX12_placeOf_0 3 rfl) rfl ?_
    refine T_aaloadR (r := b + (108 + wk.toNat)) (am_dec tX12_placeOf_0 4 rfl) (by decide) (mh_walker hl) (by omega) (by omega) (if_pos (by omega)) ?_
    refine T_iconst 2 (am_dec tX12_placeOf_0 5 rfl) rfl ⟨by decide, by decide⟩ ?_
    refine T_ialoadE (x := c (108 + wk.toNat) 2) (am_dec tX12_placeOf_0 6 rfl) (mr_walker hl (i := wk) (by omega) (by omega)) (by omega) (by omega) rfl ?_
    refine T_isub (t - (c (108 + wk.toNat) 2)) (am_dec tX12_placeOf_0 7 rfl) rfl ⟨by omega, by omega⟩ ?_
    refine T_nm (fun nn_10 hnn_10 => ?_)
    refine T_istore_n (ls' := [some (aR b), some (aI wk), some (aI t), some (aI nn_10), none, none, none]) (am_dec tX12_placeOf_0 8 rfl) (by decide) rfl ?_
    refine T_iload_n (am_dec tX12_placeOf_0 9 rfl) rfl ?_
    refine T_if_lt 27 (am_dec tX12_placeOf_0 10 rfl) rfl (fun h12 => ?_) (fun h12 => ?_)
    · refine T_iconst (-1) (am_dec tX12_placeOf_0 19 rfl) rfl ⟨by decide, by decide⟩ ?_
      exact T_ireturn (am_dec tX12_placeOf_0 20 rfl) rfl (am_tr (fun x9 => Q (.inl (some (aI (x9)))) (mdW w b c q)) (y := (-1)) (show (k_placeOf c wk t) = (-1) from (by subst hnn_10; exact (if_pos h12))) hQ)
    · refine T_iload_n (am_dec tX12_placeOf_0 11 rfl) rfl ?_
      refine T_aload_n (am_dec tX12_placeOf_0 12 rfl) rfl ?_
      refine T_getfield 11 25 (am_dec tX12_placeOf_0 13 rfl) flX12_67_11 (md_obj hl) rfl ?_
      refine T_iload_n (am_dec tX12_placeOf_0 14 rfl) rfl ?_
      refine T_aaloadR (r := b + (108 + wk.toNat)) (am_dec tX12_placeOf_0 15 rfl) (by decide) (mh_walker hl) (by omega) (by omega) (if_pos (by omega)) ?_
      refine T_iconst 3 (am_dec tX12_placeOf_0 16 rfl) rfl ⟨by decide, by decide⟩ ?_
      refine T_ialoadE (x := c (108 + wk.toNat) 3) (am_dec tX12_placeOf_0 17 rfl) (mr_walker hl (i := wk) (by omega) (by omega)) (by omega) (by omega) rfl ?_
      refine T_icmp_le 29 (am_dec tX12_placeOf_0 18 rfl) rfl (fun h24 => ?_) (fun h24 => ?_)
      · refine T_aload_n (am_dec tX12_placeOf_0 21 rfl) rfl ?_
        refine T_getfield 11 25 (am_dec tX12_placeOf_0 22 rfl) flX12_67_11 (md_obj hl) rfl ?_
        refine T_iload_n (am_dec tX12_placeOf_0 23 rfl) rfl ?_
        refine T_aaloadR (r := b + (108 + wk.toNat)) (am_dec tX12_placeOf_0 24 rfl) (by decide) (mh_walker hl) (by omega) (by omega) (if_pos (by omega)) ?_
        refine T_iconst 0 (am_dec tX12_placeOf_0 25 rfl) rfl ⟨by decide, by decide⟩ ?_
        refine T_ialoadE (x := c (108 + wk.toNat) 0) (am_dec tX12_placeOf_0 26 rfl) (mr_walker hl (i := wk) (by omega) (by omega)) (by omega) (by omega) rfl ?_
        refine T_nm (fun x_37 hx_37 => ?_)
        refine T_istore (ls' := [some (aR b), some (aI wk), some (aI t), some (aI nn_10), some (aI x_37), none, none]) (am_dec tX12_placeOf_0 27 rfl) (by decide) rfl ?_
        refine T_aload_n (am_dec tX12_placeOf_0 28 rfl) rfl ?_
        refine T_getfield 11 25 (am_dec tX12_placeOf_0 29 rfl) flX12_67_11 (md_obj hl) rfl ?_
        refine T_iload_n (am_dec tX12_placeOf_0 30 rfl) rfl ?_
        refine T_aaloadR (r := b + (108 + wk.toNat)) (am_dec tX12_placeOf_0 31 rfl) (by decide) (mh_walker hl) (by omega) (by omega) (if_pos (by omega)) ?_
        refine T_iconst 1 (am_dec tX12_placeOf_0 32 rfl) rfl ⟨by decide, by decide⟩ ?_
        refine T_ialoadE (x := c (108 + wk.toNat) 1) (am_dec tX12_placeOf_0 33 rfl) (mr_walker hl (i := wk) (by omega) (by omega)) (by omega) (by omega) rfl ?_
        refine T_nm (fun y_47 hy_47 => ?_)
        refine T_istore (ls' := [some (aR b), some (aI wk), some (aI t), some (aI nn_10), some (aI x_37), some (aI y_47), none]) (am_dec tX12_placeOf_0 34 rfl) (by decide) rfl ?_
        refine T_iconst 0 (am_dec tX12_placeOf_0 35 rfl) rfl ⟨by decide, by decide⟩ ?_
        refine T_istore (ls' := [some (aR b), some (aI wk), some (aI t), some (aI nn_10), some (aI x_37), some (aI y_47), some (aI 0)]) (am_dec tX12_placeOf_0 36 rfl) (by decide) rfl ?_
        refine T_weak (ls' := [some (aR b), some (aI wk), none, some (aI nn_10), some (aI x_37), some (aI y_47), some (aI 0)]) (am_sub_s (am_sub_s (am_sub_n (am_sub_s (am_sub_s (am_sub_s (am_sub_s am_sub_nil))))))) ?_
        refine L_k_placeOf_52 hl c q wk t nn_10 hV hK9 hwk ht (by omega) (by omega) _ rfl (nn_10).toNat 0 x_37 y_47 (by omega) (by omega) (by omega) (fun x_52 y_52 hx_52 hy_52 hv52 => ?_)
        refine T_iload (am_dec tX12_placeOf_1 28 rfl) rfl ?_
        refine T_iload (am_dec tX12_placeOf_1 29 rfl) rfl ?_
        refine T_callS (as := [aI x_52, aI y_52]) rfl (am_dec tX12_placeOf_1 30 rfl) lkX12_317 rfl (Nat.le_of_ble_eq_true rfl) (by omega) (mk_cell' (d := d - 1) x_52 y_52 (by omega)) (fun _ => ?_)
        exact T_ireturn (am_dec tX12_placeOf_1 31 rfl) rfl (am_tr (fun x9 => Q (.inl (some (aI (x9)))) (mdW w b c q)) (y := (x_52 + (9 * y_52))) (show (k_placeOf c wk t) = (x_52 + (9 * y_52)) from (by subst hnn_10; subst hx_37; subst hy_47; subst hx_52; subst hy_52; exact ((if_neg h12).trans (if_pos h24)))) hQ)
      · refine T_iconst (-1) (am_dec tX12_placeOf_0 19 rfl) rfl ⟨by decide, by decide⟩ ?_
        exact T_ireturn (am_dec tX12_placeOf_0 20 rfl) rfl (am_tr (fun x9 => Q (.inl (some (aI (x9)))) (mdW w b c q)) (y := (-1)) (show (k_placeOf c wk t) = (-1) from (by subst hnn_10; exact ((if_neg h12).trans (if_neg h24)))) hQ)
  exact key _ ⟨rfl, rfl⟩
def MdPl (c : am_F) : Prop := ∀ wk t : Int, 0 ≤ wk → wk < c 4 4 → k_placeOf c wk t = -1 ∨ (0 ≤ k_placeOf c wk t ∧ k_placeOf c wk t ≤ 80)
def k_told10 (x : Int) : Int := (if x = (-1) then (-1) else ((x % 9) + (10 * (x / 9))))
theorem mk_told10 {S : am_S} {d u : Nat} {w : AH}  (x : Int) (hx : -1 ≤ x ∧ x ≤ 80)  : am_Out S zX12_told10 d u [aI x] (w) (.inl (some (aI (k_told10 x)))) (w) := by
  have key : ∀ Q : AO → AH → Prop, Q (.inl (some (aI (k_told10 x)))) (w) → am_M S zX12_told10 d u [aI x] (w) Q := by
    intro Q hQ
    refine am_body rfl (by decide +kernel) rfl (am_cats_cons rfl (am_cats_nil)) (Nat.le_of_ble_eq_true rfl) (?_ : am_T _ _ _ _ _ 0 [some (aI x)] [] (w))
    refine T_iload_n (am_dec tX12_told10_0 0 rfl) rfl ?_
    refine T_iconst (-1) (am_dec tX12_told10_0 1 rfl) rfl ⟨by decide, by decide⟩ ?_
    have K2 : ∀ (t2 : Int), t2 = (if x = (-1) then (-1) else ((x % 9) + (10 * (x / 9)))) →  am_T S zX12_told10 d u Q 21 [none] [aI t2] (w) := by
      intro t2 ht2
      exact T_ireturn (am_dec tX12_told10_0 14 rfl) rfl (am_tr (fun x9 => Q (.inl (some (aI (x9)))) (w)) (y := t2) (show (k_told10 x) = t2 from (by subst ht2; rfl)) hQ)
    refine T_icmp_ne 9 (am_dec tX12_told10_0 2 rfl) rfl (fun h2 => ?_) (fun h2 => ?_)
    · refine T_iload_n (am_dec tX12_told10_0 5 rfl) rfl ?_
      refine T_bipush 9 (am_dec tX12_told10_0 6 rfl) rfl ⟨by decide, by decide⟩ ?_
      refine T_irem (x % 9) (am_dec tX12_told10_0 7 rfl) (by omega) (am_tm (by omega)) ⟨by omega, by omega⟩ ?_
      refine T_bipush 10 (am_dec tX12_told10_0 8 rfl) rfl ⟨by decide, by decide⟩ ?_
      refine T_iload_n (am_dec tX12_told10_0 9 rfl) rfl ?_
      refine T_bipush 9 (am_dec tX12_told10_0 10 rfl) rfl ⟨by decide, by decide⟩ ?_
      refine T_idiv (x / 9) (am_dec tX12_told10_0 11 rfl) (by omega) (am_td (by omega)) ⟨by omega, by omega⟩ ?_
      refine T_imul (10 * (x / 9)) (am_dec tX12_told10_0 12 rfl) rfl ⟨by omega, by omega⟩ ?_
      refine T_iadd ((x % 9) + (10 * (x / 9))) (am_dec tX12_told10_0 13 rfl) rfl ⟨by omega, by omega⟩ ?_
      refine T_weak (ls' := [none]) (am_sub_n am_sub_nil) ?_
      exact K2 _ (if_neg h2).symm
    · refine T_iconst (-1) (am_dec tX12_told10_0 3 rfl) rfl ⟨by decide, by decide⟩ ?_
      refine T_goto 21 (am_dec tX12_told10_0 4 rfl) rfl ?_
      refine T_weak (ls' := [none]) (am_sub_n am_sub_nil) ?_
      exact K2 _ (if_pos h2).symm
  exact key _ ⟨rfl, rfl⟩
