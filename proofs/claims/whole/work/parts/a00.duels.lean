/-! gauges, duels -/
def f_duelT (hb : Nat) (r r2 : am_F) (st c : Int) : am_F := am_put (f_duel r r2 st c) 0 0 (hb : Int)
theorem f_duel_I {hb : Nat} {r r2 : am_F} {st c : Int} (q : RnI r) (hF : RnF r2) (hs : 0 ≤ st ∧ st < 40) : RnI (f_duelT hb r r2 st c) := by
  have h0 : RnI (f_duel r r2 st c) := by
    unfold f_duel
    split
    · refine ⟨⟨?_, ?_⟩, f_duel1_f q.2.1 hF, ⟨by show (-1 : Int) ≤ -1; omega, by show (-1 : Int) ≤ 88; omega⟩, Or.inl rfl⟩
      · show 0 ≤ st + 1; omega
      · show st + 1 ≤ 40; omega
    · exact ⟨q.1, q.2.1, ⟨by show (-1 : Int) ≤ -1; omega, by show (-1 : Int) ≤ 88; omega⟩, Or.inl rfl⟩
  exact h0
theorem f_stands_b (r r2 h : am_F) (s : Int) : f_stands r r2 h s = 0 ∨ f_stands r r2 h s = 1 := by
  unfold f_stands
  cases e : am_find (p_stand r r2 h s) 0 (h 0 1).toNat with
  | none => exact Or.inr rfl
  | some v =>
    have q := am_find_P (P := fun v => v = 0) (fun i v hv => by
      unfold p_stand at hv
      exact am_find_P (P := fun v => v = 0) (fun i v hv => by
        unfold p_standx at hv
        split at hv
        · cases hv
        · exact (Option.some.inj hv).symm) _ _ hv) _ _ e
    exact Or.inl q
def c_isRight54 (rr : am_F) (ga : am_F) (i : Int) : Int := (let v4 : Int := f_at (ga 0 2) (ga 1) i 1; (let v10 : Int := f_at (ga 0 2) (ga 1) i 0; (let f13 : Int := f_fogOn rr v4 v10; (let v19 : Int := f_at (ga 0 2) (ga 1) i 2; (if f13 = v19 then 1 else 0)))))
theorem mc_isRight54 {S : am_S} {d u : Nat} {w : AH} {hb sp rb rs : Nat} {po ro : AV} (hl : 109 ≤ w.length) (hp : hb = 1 ∧ sp = 21 ∨ hb = 21 ∧ sp = 1) (hr : rb = 41 ∧ rs = 46 ∨ rb = 46 ∧ rs = 41) {ee : am_F} {hh : am_F} {ss : am_F} {uu : am_F} {vv : am_F} {pp : am_F} {kk : am_F} {rr : am_F} {tt : am_F} {gg : am_F} {aa : am_F} {dd : am_F} {bd : am_F} {ga : am_F} {im : am_F} (i : Int) (hI : HbI hh) (hRI : RnI rr) (hG : GaI ga)  (hd : 2 ≤ d) : am_Out S zX1_isRight d u [aR 54, aR 86, aI i] (hfW w hb sp rb rs hb po ro ee hh ss uu vv pp kk rr tt gg aa dd bd ga im) (.inl (some (aI (c_isRight54 rr ga i)))) (hfW w hb sp rb rs hb po ro ee hh ss uu vv pp kk rr tt gg aa dd bd ga im) := by
  have key : ∀ Q : AO → AH → Prop, Q (.inl (some (aI (c_isRight54 rr ga i)))) (hfW w hb sp rb rs hb po ro ee hh ss uu vv pp kk rr tt gg aa dd bd ga im) → am_M S zX1_isRight d u [aR 54, aR 86, aI i] (hfW w hb sp rb rs hb po ro ee hh ss uu vv pp kk rr tt gg aa dd bd ga im) Q := by
    intro Q hQ
    refine am_body rfl (by decide +kernel) rfl (am_cats_cons rfl ( am_cats_cons rfl ( am_cats_cons rfl (am_cats_nil)))) (Nat.le_of_ble_eq_true rfl) (?_ : am_T _ _ _ _ _ 0 [some (aR 54), some (aR 86), some (aI i)] [] (hfW w hb sp rb rs hb po ro ee hh ss uu vv pp kk rr tt gg aa dd bd ga im))
    obtain ⟨vh1, vh2, vh3, vh4, vh5, vh6, vh7, vh8, vh9, vh10, vh11, vh12, vh13, vh14, vh15, vh16, vh17, vh18, vh19, vh20, vh21, vh22⟩ := (HbI_A hI).1
    have hG9 := hG
    obtain ⟨vg0, ⟨vg1, vg2⟩, vg3⟩ := hG9
    refine T_aload_n (am_dec tX1_isRight_0 0 rfl) rfl ?_
    refine T_aload_n (am_dec tX1_isRight_0 1 rfl) rfl ?_
    refine T_iload_n (am_dec tX1_isRight_0 2 rfl) rfl ?_
    refine T_iconst 1 (am_dec tX1_isRight_0 3 rfl) rfl ⟨by decide, by decide⟩ ?_
    refine T_callV (as := [aI i, aI 1]) rfl (am_dec tX1_isRight_0 4 rfl) lkX1_9 (show (hfW w hb sp rb rs hb po ro ee hh ss uu vv pp kk rr tt gg aa dd bd ga im)[86]? = some (cO 9 [aI (ga 0 0), aR 87, aI (ga 0 2)]) from (hfW_c hl 86 (by decide))) rfl rfl (Nat.le_of_ble_eq_true rfl) (by omega) (m_at (d := d - 1) (show (hfW w hb sp rb rs hb po ro ee hh ss uu vv pp kk rr tt gg aa dd bd ga im)[86]? = some (cO 9 [aI (ga 0 0), aR 87, aI (ga 0 2)]) from (hfW_c hl 86 (by decide))) (show (hfW w hb sp rb rs hb po ro ee hh ss uu vv pp kk rr tt gg aa dd bd ga im)[87]? = some (cP 0 48 (ga 1)) from (hfW_c hl 87 (by decide))) (by omega) i 1) (fun _ => ?_)
    refine T_nm (fun v4 hv4 => ?_)
    refine T_aload_n (am_dec tX1_isRight_0 5 rfl) rfl ?_
    refine T_iload_n (am_dec tX1_isRight_0 6 rfl) rfl ?_
    refine T_iconst 0 (am_dec tX1_isRight_0 7 rfl) rfl ⟨by decide, by decide⟩ ?_
    refine T_callV (as := [aI i, aI 0]) rfl (am_dec tX1_isRight_0 8 rfl) lkX1_9 (show (hfW w hb sp rb rs hb po ro ee hh ss uu vv pp kk rr tt gg aa dd bd ga im)[86]? = some (cO 9 [aI (ga 0 0), aR 87, aI (ga 0 2)]) from (hfW_c hl 86 (by decide))) rfl rfl (Nat.le_of_ble_eq_true rfl) (by omega) (m_at (d := d - 1) (show (hfW w hb sp rb rs hb po ro ee hh ss uu vv pp kk rr tt gg aa dd bd ga im)[86]? = some (cO 9 [aI (ga 0 0), aR 87, aI (ga 0 2)]) from (hfW_c hl 86 (by decide))) (show (hfW w hb sp rb rs hb po ro ee hh ss uu vv pp kk rr tt gg aa dd bd ga im)[87]? = some (cP 0 48 (ga 1)) from (hfW_c hl 87 (by decide))) (by omega) i 0) (fun _ => ?_)
    refine T_nm (fun v10 hv10 => ?_)
    refine T_callV (as := [aI v4, aI v10]) rfl (am_dec tX1_isRight_0 9 rfl) lkX1_15 (show (hfW w hb sp rb rs hb po ro ee hh ss uu vv pp kk rr tt gg aa dd bd ga im)[54]? = some (cO 8 [aR hb, aI (rr 0 1), aI (rr 0 2), aI (rr 0 3), aI (rr 0 4), aI (rr 0 5), aR 55, aR 56, aR 57, aR 58, aR 59, aR 60, aR 61, aR 62, aR 63]) from (hfW_c hl 54 (by decide))) rfl rfl (Nat.le_of_ble_eq_true rfl) (by omega) (m_fogOn (d := d - 1) (hf_R hl) (by omega) v4 v10) (fun _ => ?_)
    refine T_nm (fun f13 hf13 => ?_)
    obtain ⟨p13, q13⟩ := f_fogOn_b hRI.2.1 v4 v10
    rw [← hf13] at p13 q13
    refine T_aload_n (am_dec tX1_isRight_0 10 rfl) rfl ?_
    refine T_iload_n (am_dec tX1_isRight_0 11 rfl) rfl ?_
    refine T_iconst 2 (am_dec tX1_isRight_0 12 rfl) rfl ⟨by decide, by decide⟩ ?_
    refine T_callV (as := [aI i, aI 2]) rfl (am_dec tX1_isRight_0 13 rfl) lkX1_9 (show (hfW w hb sp rb rs hb po ro ee hh ss uu vv pp kk rr tt gg aa dd bd ga im)[86]? = some (cO 9 [aI (ga 0 0), aR 87, aI (ga 0 2)]) from (hfW_c hl 86 (by decide))) rfl rfl (Nat.le_of_ble_eq_true rfl) (by omega) (m_at (d := d - 1) (show (hfW w hb sp rb rs hb po ro ee hh ss uu vv pp kk rr tt gg aa dd bd ga im)[86]? = some (cO 9 [aI (ga 0 0), aR 87, aI (ga 0 2)]) from (hfW_c hl 86 (by decide))) (show (hfW w hb sp rb rs hb po ro ee hh ss uu vv pp kk rr tt gg aa dd bd ga im)[87]? = some (cP 0 48 (ga 1)) from (hfW_c hl 87 (by decide))) (by omega) i 2) (fun _ => ?_)
    refine T_nm (fun v19 hv19 => ?_)
    have K22 : ∀ (t22 : Int), t22 = (if f13 = v19 then 1 else 0) →  am_T S zX1_isRight d u Q 30 [none, none, none] [aI t22] (hfW w hb sp rb rs hb po ro ee hh ss uu vv pp kk rr tt gg aa dd bd ga im) := by
      intro t22 ht22 
      have hbt22 : t22 = 0 ∨ t22 = 1 := by
        rw [ht22]
        try dsimp only
        repeat' split
        all_goals first | exact Or.inl rfl | exact Or.inr rfl | apply c_guardsAll_b | omega
      exact T_zreturn (am_dec tX1_isRight_0 18 rfl) rfl (by first | exact Or.inl rfl | exact Or.inr rfl | omega) (am_tr (fun (x9 : Int) => Q (.inl (some (aI (x9)))) (hfW w hb sp rb rs hb po ro ee hh ss uu vv pp kk rr tt gg aa dd bd ga im)) (y := t22) (show (c_isRight54 rr ga i) = t22 from (by have s9 := hv4.symm; subst s9; have s9 := hv10.symm; subst s9; have s9 := hf13.symm; subst s9; have s9 := hv19.symm; subst s9; have s9 := ht22.symm; subst s9; exact rfl)) hQ)
    refine T_icmp_ne 29 (am_dec tX1_isRight_0 14 rfl) rfl (fun h22 => ?_) (fun h22 => ?_)
    · refine T_iconst 0 (am_dec tX1_isRight_0 17 rfl) rfl ⟨by decide, by decide⟩ ?_
      refine T_weak (ls' := [none, none, none]) (am_sub_n (am_sub_n (am_sub_n am_sub_nil))) ?_
      exact K22 _ (if_neg h22).symm 
    · refine T_iconst 1 (am_dec tX1_isRight_0 15 rfl) rfl ⟨by decide, by decide⟩ ?_
      refine T_goto 30 (am_dec tX1_isRight_0 16 rfl) rfl ?_
      refine T_weak (ls' := [none, none, none]) (am_sub_n (am_sub_n (am_sub_n am_sub_nil))) ?_
      exact K22 _ (if_pos h22).symm 
  exact key _ ⟨rfl, rfl⟩
theorem c_isRight54_b (rr : am_F) (ga : am_F) (i : Int) : (c_isRight54 rr ga i) = 0 ∨ (c_isRight54 rr ga i) = 1 := by
  unfold c_isRight54
  try dsimp only
  repeat' split
  all_goals first | exact Or.inl rfl | exact Or.inr rfl | apply c_guardsAll_b
def c_isRight64 (tt : am_F) (ga : am_F) (i : Int) : Int := (let v4 : Int := f_at (ga 0 2) (ga 1) i 1; (let v10 : Int := f_at (ga 0 2) (ga 1) i 0; (let f13 : Int := f_fogOn tt v4 v10; (let v19 : Int := f_at (ga 0 2) (ga 1) i 2; (if f13 = v19 then 1 else 0)))))
theorem mc_isRight64 {S : am_S} {d u : Nat} {w : AH} {hb sp rb rs : Nat} {po ro : AV} (hl : 109 ≤ w.length) (hp : hb = 1 ∧ sp = 21 ∨ hb = 21 ∧ sp = 1) (hr : rb = 41 ∧ rs = 46 ∨ rb = 46 ∧ rs = 41) {ee : am_F} {hh : am_F} {ss : am_F} {uu : am_F} {vv : am_F} {pp : am_F} {kk : am_F} {rr : am_F} {tt : am_F} {gg : am_F} {aa : am_F} {dd : am_F} {bd : am_F} {ga : am_F} {im : am_F} (i : Int) (hI : HbI hh) (hTI : RnI tt) (htb : (tt 0 0).toNat = hb) (hG : GaI ga)  (hd : 2 ≤ d) : am_Out S zX1_isRight d u [aR 64, aR 86, aI i] (hfW w hb sp rb rs hb po ro ee hh ss uu vv pp kk rr tt gg aa dd bd ga im) (.inl (some (aI (c_isRight64 tt ga i)))) (hfW w hb sp rb rs hb po ro ee hh ss uu vv pp kk rr tt gg aa dd bd ga im) := by
  have key : ∀ Q : AO → AH → Prop, Q (.inl (some (aI (c_isRight64 tt ga i)))) (hfW w hb sp rb rs hb po ro ee hh ss uu vv pp kk rr tt gg aa dd bd ga im) → am_M S zX1_isRight d u [aR 64, aR 86, aI i] (hfW w hb sp rb rs hb po ro ee hh ss uu vv pp kk rr tt gg aa dd bd ga im) Q := by
    intro Q hQ
    refine am_body rfl (by decide +kernel) rfl (am_cats_cons rfl ( am_cats_cons rfl ( am_cats_cons rfl (am_cats_nil)))) (Nat.le_of_ble_eq_true rfl) (?_ : am_T _ _ _ _ _ 0 [some (aR 64), some (aR 86), some (aI i)] [] (hfW w hb sp rb rs hb po ro ee hh ss uu vv pp kk rr tt gg aa dd bd ga im))
    obtain ⟨vh1, vh2, vh3, vh4, vh5, vh6, vh7, vh8, vh9, vh10, vh11, vh12, vh13, vh14, vh15, vh16, vh17, vh18, vh19, vh20, vh21, vh22⟩ := (HbI_A hI).1
    have hG9 := hG
    obtain ⟨vg0, ⟨vg1, vg2⟩, vg3⟩ := hG9
    refine T_aload_n (am_dec tX1_isRight_0 0 rfl) rfl ?_
    refine T_aload_n (am_dec tX1_isRight_0 1 rfl) rfl ?_
    refine T_iload_n (am_dec tX1_isRight_0 2 rfl) rfl ?_
    refine T_iconst 1 (am_dec tX1_isRight_0 3 rfl) rfl ⟨by decide, by decide⟩ ?_
    refine T_callV (as := [aI i, aI 1]) rfl (am_dec tX1_isRight_0 4 rfl) lkX1_9 (show (hfW w hb sp rb rs hb po ro ee hh ss uu vv pp kk rr tt gg aa dd bd ga im)[86]? = some (cO 9 [aI (ga 0 0), aR 87, aI (ga 0 2)]) from (hfW_c hl 86 (by decide))) rfl rfl (Nat.le_of_ble_eq_true rfl) (by omega) (m_at (d := d - 1) (show (hfW w hb sp rb rs hb po ro ee hh ss uu vv pp kk rr tt gg aa dd bd ga im)[86]? = some (cO 9 [aI (ga 0 0), aR 87, aI (ga 0 2)]) from (hfW_c hl 86 (by decide))) (show (hfW w hb sp rb rs hb po ro ee hh ss uu vv pp kk rr tt gg aa dd bd ga im)[87]? = some (cP 0 48 (ga 1)) from (hfW_c hl 87 (by decide))) (by omega) i 1) (fun _ => ?_)
    refine T_nm (fun v4 hv4 => ?_)
    refine T_aload_n (am_dec tX1_isRight_0 5 rfl) rfl ?_
    refine T_iload_n (am_dec tX1_isRight_0 6 rfl) rfl ?_
    refine T_iconst 0 (am_dec tX1_isRight_0 7 rfl) rfl ⟨by decide, by decide⟩ ?_
    refine T_callV (as := [aI i, aI 0]) rfl (am_dec tX1_isRight_0 8 rfl) lkX1_9 (show (hfW w hb sp rb rs hb po ro ee hh ss uu vv pp kk rr tt gg aa dd bd ga im)[86]? = some (cO 9 [aI (ga 0 0), aR 87, aI (ga 0 2)]) from (hfW_c hl 86 (by decide))) rfl rfl (Nat.le_of_ble_eq_true rfl) (by omega) (m_at (d := d - 1) (show (hfW w hb sp rb rs hb po ro ee hh ss uu vv pp kk rr tt gg aa dd bd ga im)[86]? = some (cO 9 [aI (ga 0 0), aR 87, aI (ga 0 2)]) from (hfW_c hl 86 (by decide))) (show (hfW w hb sp rb rs hb po ro ee hh ss uu vv pp kk rr tt gg aa dd bd ga im)[87]? = some (cP 0 48 (ga 1)) from (hfW_c hl 87 (by decide))) (by omega) i 0) (fun _ => ?_)
    refine T_nm (fun v10 hv10 => ?_)
    refine T_callV (as := [aI v4, aI v10]) rfl (am_dec tX1_isRight_0 9 rfl) lkX1_15 (show (hfW w hb sp rb rs hb po ro ee hh ss uu vv pp kk rr tt gg aa dd bd ga im)[64]? = some (cO 8 [aR ((tt 0 0).toNat), aI (tt 0 1), aI (tt 0 2), aI (tt 0 3), aI (tt 0 4), aI (tt 0 5), aR 65, aR 66, aR 67, aR 68, aR 69, aR 70, aR 71, aR 72, aR 73]) from (hfW_c hl 64 (by decide))) rfl rfl (Nat.le_of_ble_eq_true rfl) (by omega) (m_fogOn (d := d - 1) (hf_TH hl htb) (by omega) v4 v10) (fun _ => ?_)
    refine T_nm (fun f13 hf13 => ?_)
    obtain ⟨p13, q13⟩ := f_fogOn_b hTI.2.1 v4 v10
    rw [← hf13] at p13 q13
    refine T_aload_n (am_dec tX1_isRight_0 10 rfl) rfl ?_
    refine T_iload_n (am_dec tX1_isRight_0 11 rfl) rfl ?_
    refine T_iconst 2 (am_dec tX1_isRight_0 12 rfl) rfl ⟨by decide, by decide⟩ ?_
    refine T_callV (as := [aI i, aI 2]) rfl (am_dec tX1_isRight_0 13 rfl) lkX1_9 (show (hfW w hb sp rb rs hb po ro ee hh ss uu vv pp kk rr tt gg aa dd bd ga im)[86]? = some (cO 9 [aI (ga 0 0), aR 87, aI (ga 0 2)]) from (hfW_c hl 86 (by decide))) rfl rfl (Nat.le_of_ble_eq_true rfl) (by omega) (m_at (d := d - 1) (show (hfW w hb sp rb rs hb po ro ee hh ss uu vv pp kk rr tt gg aa dd bd ga im)[86]? = some (cO 9 [aI (ga 0 0), aR 87, aI (ga 0 2)]) from (hfW_c hl 86 (by decide))) (show (hfW w hb sp rb rs hb po ro ee hh ss uu vv pp kk rr tt gg aa dd bd ga im)[87]? = some (cP 0 48 (ga 1)) from (hfW_c hl 87 (by decide))) (by omega) i 2) (fun _ => ?_)
    refine T_nm (fun v19 hv19 => ?_)
    have K22 : ∀ (t22 : Int), t22 = (if f13 = v19 then 1 else 0) →  am_T S zX1_isRight d u Q 30 [none, none, none] [aI t22] (hfW w hb sp rb rs hb po ro ee hh ss uu vv pp kk rr tt gg aa dd bd ga im) := by
      intro t22 ht22 
      have hbt22 : t22 = 0 ∨ t22 = 1 := by
        rw [ht22]
        try dsimp only
        repeat' split
        all_goals first | exact Or.inl rfl | exact Or.inr rfl | apply c_guardsAll_b | apply c_isRight54_b | omega
      exact T_zreturn (am_dec tX1_isRight_0 18 rfl) rfl (by first | exact Or.inl rfl | exact Or.inr rfl | omega) (am_tr (fun (x9 : Int) => Q (.inl (some (aI (x9)))) (hfW w hb sp rb rs hb po ro ee hh ss uu vv pp kk rr tt gg aa dd bd ga im)) (y := t22) (show (c_isRight64 tt ga i) = t22 from (by have s9 := hv4.symm; subst s9; have s9 := hv10.symm; subst s9; have s9 := hf13.symm; subst s9; have s9 := hv19.symm; subst s9; have s9 := ht22.symm; subst s9; exact rfl)) hQ)
    refine T_icmp_ne 29 (am_dec tX1_isRight_0 14 rfl) rfl (fun h22 => ?_) (fun h22 => ?_)
    · refine T_iconst 0 (am_dec tX1_isRight_0 17 rfl) rfl ⟨by decide, by decide⟩ ?_
      refine T_weak (ls' := [none, none, none]) (am_sub_n (am_sub_n (am_sub_n am_sub_nil))) ?_
      exact K22 _ (if_neg h22).symm 
    · refine T_iconst 1 (am_dec tX1_isRight_0 15 rfl) rfl ⟨by decide, by decide⟩ ?_
      refine T_goto 30 (am_dec tX1_isRight_0 16 rfl) rfl ?_
      refine T_weak (ls' := [none, none, none]) (am_sub_n (am_sub_n (am_sub_n am_sub_nil))) ?_
      exact K22 _ (if_pos h22).symm 
  exact key _ ⟨rfl, rfl⟩
theorem c_isRight64_b (tt : am_F) (ga : am_F) (i : Int) : (c_isRight64 tt ga i) = 0 ∨ (c_isRight64 tt ga i) = 1 := by
  unfold c_isRight64
  try dsimp only
  repeat' split
  all_goals first | exact Or.inl rfl | exact Or.inr rfl | apply c_guardsAll_b | apply c_isRight54_b
def g_c_lastStep_4 (ga : am_F) (i : Int) (lst : Int) : Int := (let v16 : Int := f_at (ga 0 2) (ga 1) i 0; (if lst < v16 then v16 else lst))
theorem L_c_lastStep_4 {S : am_S} {d u : Nat} {Q : AO → AH → Prop} {w : AH} {hb sp rb rs : Nat} {po ro : AV} (hl : 109 ≤ w.length) (hp : hb = 1 ∧ sp = 21 ∨ hb = 21 ∧ sp = 1) (hr : rb = 41 ∧ rs = 46 ∨ rb = 46 ∧ rs = 41) (ee : am_F) (hh : am_F) (ss : am_F) (uu : am_F) (vv : am_F) (pp : am_F) (kk : am_F) (rr : am_F) (tt : am_F) (gg : am_F) (aa : am_F) (dd : am_F) (bd : am_F) (ga : am_F) (im : am_F) (hG : GaI ga)  (hd : 1 ≤ d) (B9 : Int) (hB : B9 = ga 0 2) : ∀ (n : Nat) (i : Int) (lst : Int), i + n = B9 → 0 ≤ i → (∀ (lst' : Int), lst' = am_fold (g_c_lastStep_4 ga) i n lst → am_T S zX1_lastStep d u Q 29 [none, some (aI lst'), none] [] (hfW w hb sp rb rs hb po ro ee hh ss uu vv pp kk rr tt gg aa dd bd ga im)) → am_T S zX1_lastStep d u Q 4 [some (aR 86), some (aI lst), some (aI i)] [] (hfW w hb sp rb rs hb po ro ee hh ss uu vv pp kk rr tt gg aa dd bd ga im) := by
  intro n
  induction n with
  | zero =>
    intro i lst hi9 h0i k9
    have e9 : i = B9 := by omega
    subst e9
    have hG9 := hG
    obtain ⟨vg0, ⟨vg1, vg2⟩, vg3⟩ := hG9
    refine T_iload_n (am_dec tX1_lastStep_0 4 rfl) rfl ?_
    refine T_aload_n (am_dec tX1_lastStep_0 5 rfl) rfl ?_
    refine T_getfield 9 2 (am_dec tX1_lastStep_0 6 rfl) flX1_20_9 (show (hfW w hb sp rb rs hb po ro ee hh ss uu vv pp kk rr tt gg aa dd bd ga im)[86]? = some (cO 9 [aI (ga 0 0), aR 87, aI (ga 0 2)]) from (hfW_c hl 86 (by decide))) rfl ?_
    refine T_icmp_ge 29 (am_dec tX1_lastStep_0 7 rfl) rfl (fun h9 => ?_) (fun h9 => by exfalso; omega)
    refine T_weak (ls' := [none, some (aI lst), none]) (am_sub_n (am_sub_s (am_sub_n am_sub_nil))) ?_
    exact k9 lst rfl
  | succ n ih =>
    intro i lst hi9 h0i k9
    have hG9 := hG
    obtain ⟨vg0, ⟨vg1, vg2⟩, vg3⟩ := hG9
    refine T_iload_n (am_dec tX1_lastStep_0 4 rfl) rfl ?_
    refine T_aload_n (am_dec tX1_lastStep_0 5 rfl) rfl ?_
    refine T_getfield 9 2 (am_dec tX1_lastStep_0 6 rfl) flX1_20_9 (show (hfW w hb sp rb rs hb po ro ee hh ss uu vv pp kk rr tt gg aa dd bd ga im)[86]? = some (cO 9 [aI (ga 0 0), aR 87, aI (ga 0 2)]) from (hfW_c hl 86 (by decide))) rfl ?_
    refine T_icmp_ge 29 (am_dec tX1_lastStep_0 7 rfl) rfl (fun h9 => by exfalso; omega) (fun h9 => ?_)
    refine T_iload_n (am_dec tX1_lastStep_0 8 rfl) rfl ?_
    refine T_aload_n (am_dec tX1_lastStep_0 9 rfl) rfl ?_
    refine T_iload_n (am_dec tX1_lastStep_0 10 rfl) rfl ?_
    refine T_iconst 0 (am_dec tX1_lastStep_0 11 rfl) rfl ⟨by decide, by decide⟩ ?_
    refine T_callV (as := [aI i, aI 0]) rfl (am_dec tX1_lastStep_0 12 rfl) lkX1_9 (show (hfW w hb sp rb rs hb po ro ee hh ss uu vv pp kk rr tt gg aa dd bd ga im)[86]? = some (cO 9 [aI (ga 0 0), aR 87, aI (ga 0 2)]) from (hfW_c hl 86 (by decide))) rfl rfl (Nat.le_of_ble_eq_true rfl) (by omega) (m_at (d := d - 1) (show (hfW w hb sp rb rs hb po ro ee hh ss uu vv pp kk rr tt gg aa dd bd ga im)[86]? = some (cO 9 [aI (ga 0 0), aR 87, aI (ga 0 2)]) from (hfW_c hl 86 (by decide))) (show (hfW w hb sp rb rs hb po ro ee hh ss uu vv pp kk rr tt gg aa dd bd ga im)[87]? = some (cP 0 48 (ga 1)) from (hfW_c hl 87 (by decide))) (by omega) i 0) (fun _ => ?_)
    refine T_nm (fun v16 hv16 => ?_)
    refine T_mmax (am_dec tX1_lastStep_0 13 rfl) lkX1_24 (Nat.le_of_ble_eq_true rfl) (by omega) ?_
    obtain ⟨m19, hm19⟩ : ∃ x9 : Int, x9 = (if lst < v16 then v16 else lst) := ⟨_, rfl⟩
    rw [← hm19]
    refine T_istore_n (ls' := [some (aR 86), some (aI m19), some (aI i)]) (am_dec tX1_lastStep_0 14 rfl) (by decide) rfl ?_
    refine T_iinc (ls' := [some (aR 86), some (aI m19), some (aI (i + 1))]) (i + 1) (am_dec tX1_lastStep_0 15 rfl) rfl rfl ⟨by omega, by omega⟩ (by decide) rfl ?_
    refine T_goto 4 (am_dec tX1_lastStep_0 16 rfl) rfl ?_
    have e9 : (g_c_lastStep_4 ga) i lst = m19 := (by have s9 := hv16.symm; subst s9; have s9 := hm19.symm; subst s9; exact rfl)
    simp only [am_fold_s, e9] at k9
    exact ih (i + 1) m19 (by omega) (by omega) k9
def c_lastStep (ga : am_F) : Int := am_fold (g_c_lastStep_4 ga) 0 (ga 0 2).toNat (-1)
theorem mc_lastStep {S : am_S} {d u : Nat} {w : AH} {hb sp rb rs : Nat} {po ro : AV} (hl : 109 ≤ w.length) (hp : hb = 1 ∧ sp = 21 ∨ hb = 21 ∧ sp = 1) (hr : rb = 41 ∧ rs = 46 ∨ rb = 46 ∧ rs = 41) {ee : am_F} {hh : am_F} {ss : am_F} {uu : am_F} {vv : am_F} {pp : am_F} {kk : am_F} {rr : am_F} {tt : am_F} {gg : am_F} {aa : am_F} {dd : am_F} {bd : am_F} {ga : am_F} {im : am_F}  (hG : GaI ga)  (hd : 1 ≤ d) : am_Out S zX1_lastStep d u [aR 86] (hfW w hb sp rb rs hb po ro ee hh ss uu vv pp kk rr tt gg aa dd bd ga im) (.inl (some (aI (c_lastStep ga)))) (hfW w hb sp rb rs hb po ro ee hh ss uu vv pp kk rr tt gg aa dd bd ga im) := by
  have key : ∀ Q : AO → AH → Prop, Q (.inl (some (aI (c_lastStep ga)))) (hfW w hb sp rb rs hb po ro ee hh ss uu vv pp kk rr tt gg aa dd bd ga im) → am_M S zX1_lastStep d u [aR 86] (hfW w hb sp rb rs hb po ro ee hh ss uu vv pp kk rr tt gg aa dd bd ga im) Q := by
    intro Q hQ
    refine am_body rfl (by decide +kernel) rfl (am_cats_cons rfl (am_cats_nil)) (Nat.le_of_ble_eq_true rfl) (?_ : am_T _ _ _ _ _ 0 [some (aR 86), none, none] [] (hfW w hb sp rb rs hb po ro ee hh ss uu vv pp kk rr tt gg aa dd bd ga im))
    have hG9 := hG
    obtain ⟨vg0, ⟨vg1, vg2⟩, vg3⟩ := hG9
    refine T_iconst (-1) (am_dec tX1_lastStep_0 0 rfl) rfl ⟨by decide, by decide⟩ ?_
    refine T_istore_n (ls' := [some (aR 86), some (aI (-1)), none]) (am_dec tX1_lastStep_0 1 rfl) (by decide) rfl ?_
    refine T_iconst 0 (am_dec tX1_lastStep_0 2 rfl) rfl ⟨by decide, by decide⟩ ?_
    refine T_istore_n (ls' := [some (aR 86), some (aI (-1)), some (aI 0)]) (am_dec tX1_lastStep_0 3 rfl) (by decide) rfl ?_
    refine L_c_lastStep_4 hl hp hr ee hh ss uu vv pp kk rr tt gg aa dd bd ga im hG  (by omega) _ rfl (ga 0 2).toNat 0 (-1) (by omega) (by omega) (fun lst_4 hlst_4 => ?_)
    refine T_iload_n (am_dec tX1_lastStep_0 17 rfl) rfl ?_
    exact T_ireturn (am_dec tX1_lastStep_0 18 rfl) rfl (am_tr (fun (x9 : Int) => Q (.inl (some (aI (x9)))) (hfW w hb sp rb rs hb po ro ee hh ss uu vv pp kk rr tt gg aa dd bd ga im)) (y := lst_4) (show (c_lastStep ga) = lst_4 from (by have s9 := hlst_4.symm; subst s9; exact rfl)) hQ)
  exact key _ ⟨rfl, rfl⟩
theorem c_lastStep_b {ga : am_F} (hG : GaI ga) : -1 ≤ c_lastStep ga ∧ c_lastStep ga ≤ 39 := by
  unfold c_lastStep
  exact am_fold_inv (P := fun (_ : Int) (x : Int) => -1 ≤ x ∧ x ≤ 39) _ _ (-1) ⟨by omega, by omega⟩ (fun i x _ _ hx => by
    unfold g_c_lastStep_4
    dsimp only
    have q := (hG.2.2 i).1
    split <;> omega)
def p_c_areRight_10 (rr : am_F) (ga : am_F) : Int → Option Int := fun v2 => (let z21 : Int := (c_isRight54 rr ga v2); (if z21 = 0 then some 0 else none))
theorem L_c_areRight_10 {S : am_S} {d u : Nat} {Q : AO → AH → Prop} {w : AH} {hb sp rb rs : Nat} {po ro : AV} (hl : 109 ≤ w.length) (hp : hb = 1 ∧ sp = 21 ∨ hb = 21 ∧ sp = 1) (hr : rb = 41 ∧ rs = 46 ∨ rb = 46 ∧ rs = 41) (ee : am_F) (hh : am_F) (ss : am_F) (uu : am_F) (vv : am_F) (pp : am_F) (kk : am_F) (rr : am_F) (tt : am_F) (gg : am_F) (aa : am_F) (dd : am_F) (bd : am_F) (ga : am_F) (im : am_F) (hI : HbI hh) (hRI : RnI rr) (hG : GaI ga)  (hd : 6 ≤ d) (B9 : Int) (hB : B9 = ga 0 2) : ∀ (n : Nat) (v2 : Int), v2 + n = B9 → 0 ≤ v2 → (am_find (p_c_areRight_10 rr ga) v2 n = none → am_T S zX1_areRight d u Q 35 [none, none, none] [] (hfW w hb sp rb rs hb po ro ee hh ss uu vv pp kk rr tt gg aa dd bd ga im)) → (∀ r9, am_find (p_c_areRight_10 rr ga) v2 n = some r9 → Q (.inl (some (aI r9))) (hfW w hb sp rb rs hb po ro ee hh ss uu vv pp kk rr tt gg aa dd bd ga im)) → am_T S zX1_areRight d u Q 10 [some (aR 54), some (aR 86), some (aI v2)] [] (hfW w hb sp rb rs hb po ro ee hh ss uu vv pp kk rr tt gg aa dd bd ga im) := by
  intro n
  induction n with
  | zero =>
    intro v2 hi9 h0i k9 kr9
    have e9 : v2 = B9 := by omega
    subst e9
    obtain ⟨vh1, vh2, vh3, vh4, vh5, vh6, vh7, vh8, vh9, vh10, vh11, vh12, vh13, vh14, vh15, vh16, vh17, vh18, vh19, vh20, vh21, vh22⟩ := (HbI_A hI).1
    have hG9 := hG
    obtain ⟨vg0, ⟨vg1, vg2⟩, vg3⟩ := hG9
    refine T_iload_n (am_dec tX1_areRight_0 6 rfl) rfl ?_
    refine T_aload_n (am_dec tX1_areRight_0 7 rfl) rfl ?_
    refine T_getfield 9 2 (am_dec tX1_areRight_0 8 rfl) flX1_20_9 (show (hfW w hb sp rb rs hb po ro ee hh ss uu vv pp kk rr tt gg aa dd bd ga im)[86]? = some (cO 9 [aI (ga 0 0), aR 87, aI (ga 0 2)]) from (hfW_c hl 86 (by decide))) rfl ?_
    refine T_icmp_ge 35 (am_dec tX1_areRight_0 9 rfl) rfl (fun h15 => ?_) (fun h15 => by exfalso; omega)
    refine T_weak (ls' := [none, none, none]) (am_sub_n (am_sub_n (am_sub_n am_sub_nil))) ?_
    exact k9 rfl
  | succ n ih =>
    intro v2 hi9 h0i k9 kr9
    obtain ⟨vh1, vh2, vh3, vh4, vh5, vh6, vh7, vh8, vh9, vh10, vh11, vh12, vh13, vh14, vh15, vh16, vh17, vh18, vh19, vh20, vh21, vh22⟩ := (HbI_A hI).1
    have hG9 := hG
    obtain ⟨vg0, ⟨vg1, vg2⟩, vg3⟩ := hG9
    refine T_iload_n (am_dec tX1_areRight_0 6 rfl) rfl ?_
    refine T_aload_n (am_dec tX1_areRight_0 7 rfl) rfl ?_
    refine T_getfield 9 2 (am_dec tX1_areRight_0 8 rfl) flX1_20_9 (show (hfW w hb sp rb rs hb po ro ee hh ss uu vv pp kk rr tt gg aa dd bd ga im)[86]? = some (cO 9 [aI (ga 0 0), aR 87, aI (ga 0 2)]) from (hfW_c hl 86 (by decide))) rfl ?_
    refine T_icmp_ge 35 (am_dec tX1_areRight_0 9 rfl) rfl (fun h15 => by exfalso; omega) (fun h15 => ?_)
    refine T_aload_n (am_dec tX1_areRight_0 10 rfl) rfl ?_
    refine T_aload_n (am_dec tX1_areRight_0 11 rfl) rfl ?_
    refine T_iload_n (am_dec tX1_areRight_0 12 rfl) rfl ?_
    refine T_callS (as := [aR 54, aR 86, aI v2]) rfl (am_dec tX1_areRight_0 13 rfl) lkX1_39 rfl (Nat.le_of_ble_eq_true rfl) (by omega) (mc_isRight54 (d := d - 1) hl hp hr v2  hI hRI hG (by omega)) (fun _ => ?_)
    refine T_nm (fun z21 hz21 => ?_)
    have hb21 := c_isRight54_b rr ga v2
    rw [← hz21] at hb21
    refine T_if_ne 29 (am_dec tX1_areRight_0 14 rfl) rfl (fun h24 => ?_) (fun h24 => ?_)
    · refine T_iinc (ls' := [some (aR 54), some (aR 86), some (aI (v2 + 1))]) (v2 + 1) (am_dec tX1_areRight_0 17 rfl) rfl rfl ⟨by omega, by omega⟩ (by decide) rfl ?_
      refine T_goto 10 (am_dec tX1_areRight_0 18 rfl) rfl ?_
      have e9 : (p_c_areRight_10 rr ga) v2 = none := (by have s9 := hz21.symm; subst s9; exact (if_neg h24))
      rw [am_find_n e9] at k9 kr9
      exact ih (v2 + 1) (by omega) (by omega) k9 kr9
    · refine T_iconst 0 (am_dec tX1_areRight_0 15 rfl) rfl ⟨by decide, by decide⟩ ?_
      exact T_zreturn (am_dec tX1_areRight_0 16 rfl) rfl (by first | exact Or.inl rfl | exact Or.inr rfl | omega) (kr9 _ (am_find_y (show (p_c_areRight_10 rr ga) v2 = some 0 from (by have s9 := hz21.symm; subst s9; exact (if_pos h24)))))
def c_areRight (hh : am_F) (rr : am_F) (ga : am_F) : Int × am_F := (let rr5 : am_F := f_upTo hh rr (c_lastStep ga); (Option.elim (am_find (p_c_areRight_10 rr5 ga) 0 (ga 0 2).toNat) (1, rr5) (fun r9 => (r9, rr5))))
theorem mc_areRight {S : am_S} {d u : Nat} {w : AH} {hb sp rb rs : Nat} {po ro : AV} (hl : 109 ≤ w.length) (hp : hb = 1 ∧ sp = 21 ∨ hb = 21 ∧ sp = 1) (hr : rb = 41 ∧ rs = 46 ∨ rb = 46 ∧ rs = 41) {ee : am_F} {hh : am_F} {ss : am_F} {uu : am_F} {vv : am_F} {pp : am_F} {kk : am_F} {rr : am_F} {tt : am_F} {gg : am_F} {aa : am_F} {dd : am_F} {bd : am_F} {ga : am_F} {im : am_F}  (hI : HbI hh) (hRI : RnI rr) (hG : GaI ga)  (hd : 6 ≤ d) : am_Out S zX1_areRight d u [aR 54, aR 86] (hfW w hb sp rb rs hb po ro ee hh ss uu vv pp kk rr tt gg aa dd bd ga im) (.inl (some (aI ((c_areRight hh rr ga).1)))) (hfW w hb sp rb rs hb po ro ee hh ss uu vv pp kk ((c_areRight hh rr ga).2) tt gg aa dd bd ga im) := by
  have key : ∀ Q : AO → AH → Prop, Q (.inl (some (aI ((c_areRight hh rr ga).1)))) (hfW w hb sp rb rs hb po ro ee hh ss uu vv pp kk ((c_areRight hh rr ga).2) tt gg aa dd bd ga im) → am_M S zX1_areRight d u [aR 54, aR 86] (hfW w hb sp rb rs hb po ro ee hh ss uu vv pp kk rr tt gg aa dd bd ga im) Q := by
    intro Q hQ
    refine am_body rfl (by decide +kernel) rfl (am_cats_cons rfl ( am_cats_cons rfl (am_cats_nil))) (Nat.le_of_ble_eq_true rfl) (?_ : am_T _ _ _ _ _ 0 [some (aR 54), some (aR 86), none] [] (hfW w hb sp rb rs hb po ro ee hh ss uu vv pp kk rr tt gg aa dd bd ga im))
    obtain ⟨vh1, vh2, vh3, vh4, vh5, vh6, vh7, vh8, vh9, vh10, vh11, vh12, vh13, vh14, vh15, vh16, vh17, vh18, vh19, vh20, vh21, vh22⟩ := (HbI_A hI).1
    have hG9 := hG
    obtain ⟨vg0, ⟨vg1, vg2⟩, vg3⟩ := hG9
    refine T_aload_n (am_dec tX1_areRight_0 0 rfl) rfl ?_
    refine T_aload_n (am_dec tX1_areRight_0 1 rfl) rfl ?_
    refine T_callS (as := [aR 86]) rfl (am_dec tX1_areRight_0 2 rfl) lkX1_29 rfl (Nat.le_of_ble_eq_true rfl) (by omega) (mc_lastStep (d := d - 1) hl hp hr   hG (by omega)) (fun _ => ?_)
    refine T_callV (as := [aI (c_lastStep ga)]) rfl (am_dec tX1_areRight_0 3 rfl) lkX1_35 (show (hfW w hb sp rb rs hb po ro ee hh ss uu vv pp kk rr tt gg aa dd bd ga im)[54]? = some (cO 8 [aR hb, aI (rr 0 1), aI (rr 0 2), aI (rr 0 3), aI (rr 0 4), aI (rr 0 5), aR 55, aR 56, aR 57, aR 58, aR 59, aR 60, aR 61, aR 62, aR 63]) from (hfW_c hl 54 (by decide))) rfl rfl (Nat.le_of_ble_eq_true rfl) (by omega) (am_OutE (m_upTo (d := d - 1) (w := hfW w hb sp rb rs hb po ro ee hh ss uu vv pp kk rr tt gg aa dd bd ga im) (hf_le hl (by omega)) (by omega) (hf_H hl hp) (HbI_A hI) (c_lastStep ga) hRI.1 hRI.2.1 hRI.2.2 (by omega)) hf_uR hf_uR) (fun _ => ?_)
    refine T_nmH (W := fun x9 => hfW w hb sp rb rs hb po ro ee hh ss uu vv pp kk x9 tt gg aa dd bd ga im) (v := f_upTo hh rr (c_lastStep ga)) (fun rr5 hrr5 => ?_)
    have hIrr5 : RnI rr5 := by rw [hrr5]; exact f_upTo_I (HbI_A hI) hRI
    refine T_iconst 0 (am_dec tX1_areRight_0 4 rfl) rfl ⟨by decide, by decide⟩ ?_
    refine T_istore_n (ls' := [some (aR 54), some (aR 86), some (aI 0)]) (am_dec tX1_areRight_0 5 rfl) (by decide) rfl ?_
    refine L_c_areRight_10 hl hp hr ee hh ss uu vv pp kk rr5 tt gg aa dd bd ga im hI hIrr5 hG  (by omega) _ rfl (ga 0 2).toNat 0  (by omega) (by omega) (fun hn10 => ?_) (fun r10 hr10 => (am_tr (fun (x9 : Int × am_F) => Q (.inl (some (aI (x9.1)))) (hfW w hb sp rb rs hb po ro ee hh ss uu vv pp kk x9.2 tt gg aa dd bd ga im)) (y := (r10, rr5)) (show (c_areRight hh rr ga) = (r10, rr5) from (by have s9 := hrr5.symm; subst s9; exact (am_el_s hr10))) hQ))
    refine T_iconst 1 (am_dec tX1_areRight_0 19 rfl) rfl ⟨by decide, by decide⟩ ?_
    exact T_zreturn (am_dec tX1_areRight_0 20 rfl) rfl (by first | exact Or.inl rfl | exact Or.inr rfl | omega) (am_tr (fun (x9 : Int × am_F) => Q (.inl (some (aI (x9.1)))) (hfW w hb sp rb rs hb po ro ee hh ss uu vv pp kk x9.2 tt gg aa dd bd ga im)) (y := (1, rr5)) (show (c_areRight hh rr ga) = (1, rr5) from (by have s9 := hrr5.symm; subst s9; exact (am_el_n hn10))) hQ)
  exact key _ ⟨rfl, rfl⟩
theorem c_areRight_b (hh : am_F) (rr : am_F) (ga : am_F) : (c_areRight hh rr ga).1 = 0 ∨ (c_areRight hh rr ga).1 = 1 := by
  unfold c_areRight
  dsimp only
  cases e : am_find (p_c_areRight_10 (f_upTo hh rr (c_lastStep ga)) ga) 0 (ga 0 2).toNat with
  | none => exact Or.inr rfl
  | some v =>
    have q := am_find_P (P := fun v => v = 0) (fun i v hv => by
      unfold p_c_areRight_10 at hv
      dsimp only at hv
      repeat' split at hv
      all_goals first | cases hv; done | exact (Option.some.inj hv).symm) _ _ e
    exact Or.inl q
def p_c_areRightIn_2 (tt : am_F) (ga : am_F) (st : Int) : Int → Option Int := fun v3 => (let v13 : Int := f_at (ga 0 2) (ga 1) v3 0; (if v13 = st then (let z23 : Int := (c_isRight64 tt ga v3); (if z23 = 0 then some 0 else none)) else none))
theorem L_c_areRightIn_2 {S : am_S} {d u : Nat} {Q : AO → AH → Prop} {w : AH} {hb sp rb rs : Nat} {po ro : AV} (hl : 109 ≤ w.length) (hp : hb = 1 ∧ sp = 21 ∨ hb = 21 ∧ sp = 1) (hr : rb = 41 ∧ rs = 46 ∨ rb = 46 ∧ rs = 41) (ee : am_F) (hh : am_F) (ss : am_F) (uu : am_F) (vv : am_F) (pp : am_F) (kk : am_F) (rr : am_F) (tt : am_F) (gg : am_F) (aa : am_F) (dd : am_F) (bd : am_F) (ga : am_F) (im : am_F) (st : Int) (hI : HbI hh) (hTI : RnI tt) (htb : (tt 0 0).toNat = hb) (hG : GaI ga)  (hd : 3 ≤ d) (B9 : Int) (hB : B9 = ga 0 2) : ∀ (n : Nat) (v3 : Int), v3 + n = B9 → 0 ≤ v3 → (am_find (p_c_areRightIn_2 tt ga st) v3 n = none → am_T S zX1_areRightIn d u Q 37 [none, none, none, none] [] (hfW w hb sp rb rs hb po ro ee hh ss uu vv pp kk rr tt gg aa dd bd ga im)) → (∀ r9, am_find (p_c_areRightIn_2 tt ga st) v3 n = some r9 → Q (.inl (some (aI r9))) (hfW w hb sp rb rs hb po ro ee hh ss uu vv pp kk rr tt gg aa dd bd ga im)) → am_T S zX1_areRightIn d u Q 2 [some (aR 64), some (aR 86), some (aI st), some (aI v3)] [] (hfW w hb sp rb rs hb po ro ee hh ss uu vv pp kk rr tt gg aa dd bd ga im) := by
  intro n
  induction n with
  | zero =>
    intro v3 hi9 h0i k9 kr9
    have e9 : v3 = B9 := by omega
    subst e9
    obtain ⟨vh1, vh2, vh3, vh4, vh5, vh6, vh7, vh8, vh9, vh10, vh11, vh12, vh13, vh14, vh15, vh16, vh17, vh18, vh19, vh20, vh21, vh22⟩ := (HbI_A hI).1
    have hG9 := hG
    obtain ⟨vg0, ⟨vg1, vg2⟩, vg3⟩ := hG9
    refine T_iload_n (am_dec tX1_areRightIn_0 2 rfl) rfl ?_
    refine T_aload_n (am_dec tX1_areRightIn_0 3 rfl) rfl ?_
    refine T_getfield 9 2 (am_dec tX1_areRightIn_0 4 rfl) flX1_20_9 (show (hfW w hb sp rb rs hb po ro ee hh ss uu vv pp kk rr tt gg aa dd bd ga im)[86]? = some (cO 9 [aI (ga 0 0), aR 87, aI (ga 0 2)]) from (hfW_c hl 86 (by decide))) rfl ?_
    refine T_icmp_ge 37 (am_dec tX1_areRightIn_0 5 rfl) rfl (fun h7 => ?_) (fun h7 => by exfalso; omega)
    refine T_weak (ls' := [none, none, none, none]) (am_sub_n (am_sub_n (am_sub_n (am_sub_n am_sub_nil)))) ?_
    exact k9 rfl
  | succ n ih =>
    intro v3 hi9 h0i k9 kr9
    obtain ⟨vh1, vh2, vh3, vh4, vh5, vh6, vh7, vh8, vh9, vh10, vh11, vh12, vh13, vh14, vh15, vh16, vh17, vh18, vh19, vh20, vh21, vh22⟩ := (HbI_A hI).1
    have hG9 := hG
    obtain ⟨vg0, ⟨vg1, vg2⟩, vg3⟩ := hG9
    refine T_iload_n (am_dec tX1_areRightIn_0 2 rfl) rfl ?_
    refine T_aload_n (am_dec tX1_areRightIn_0 3 rfl) rfl ?_
    refine T_getfield 9 2 (am_dec tX1_areRightIn_0 4 rfl) flX1_20_9 (show (hfW w hb sp rb rs hb po ro ee hh ss uu vv pp kk rr tt gg aa dd bd ga im)[86]? = some (cO 9 [aI (ga 0 0), aR 87, aI (ga 0 2)]) from (hfW_c hl 86 (by decide))) rfl ?_
    refine T_icmp_ge 37 (am_dec tX1_areRightIn_0 5 rfl) rfl (fun h7 => by exfalso; omega) (fun h7 => ?_)
    refine T_aload_n (am_dec tX1_areRightIn_0 6 rfl) rfl ?_
    refine T_iload_n (am_dec tX1_areRightIn_0 7 rfl) rfl ?_
    refine T_iconst 0 (am_dec tX1_areRightIn_0 8 rfl) rfl ⟨by decide, by decide⟩ ?_
    refine T_callV (as := [aI v3, aI 0]) rfl (am_dec tX1_areRightIn_0 9 rfl) lkX1_9 (show (hfW w hb sp rb rs hb po ro ee hh ss uu vv pp kk rr tt gg aa dd bd ga im)[86]? = some (cO 9 [aI (ga 0 0), aR 87, aI (ga 0 2)]) from (hfW_c hl 86 (by decide))) rfl rfl (Nat.le_of_ble_eq_true rfl) (by omega) (m_at (d := d - 1) (show (hfW w hb sp rb rs hb po ro ee hh ss uu vv pp kk rr tt gg aa dd bd ga im)[86]? = some (cO 9 [aI (ga 0 0), aR 87, aI (ga 0 2)]) from (hfW_c hl 86 (by decide))) (show (hfW w hb sp rb rs hb po ro ee hh ss uu vv pp kk rr tt gg aa dd bd ga im)[87]? = some (cP 0 48 (ga 1)) from (hfW_c hl 87 (by decide))) (by omega) v3 0) (fun _ => ?_)
    refine T_nm (fun v13 hv13 => ?_)
    refine T_iload_n (am_dec tX1_areRightIn_0 10 rfl) rfl ?_
    refine T_icmp_ne 31 (am_dec tX1_areRightIn_0 11 rfl) rfl (fun h17 => ?_) (fun h17 => ?_)
    · refine T_iinc (ls' := [some (aR 64), some (aR 86), some (aI st), some (aI (v3 + 1))]) (v3 + 1) (am_dec tX1_areRightIn_0 19 rfl) rfl rfl ⟨by omega, by omega⟩ (by decide) rfl ?_
      refine T_goto 2 (am_dec tX1_areRightIn_0 20 rfl) rfl ?_
      have e9 : (p_c_areRightIn_2 tt ga st) v3 = none := (by have s9 := hv13.symm; subst s9; exact (if_neg h17))
      rw [am_find_n e9] at k9 kr9
      exact ih (v3 + 1) (by omega) (by omega) k9 kr9
    · refine T_aload_n (am_dec tX1_areRightIn_0 12 rfl) rfl ?_
      refine T_aload_n (am_dec tX1_areRightIn_0 13 rfl) rfl ?_
      refine T_iload_n (am_dec tX1_areRightIn_0 14 rfl) rfl ?_
      refine T_callS (as := [aR 64, aR 86, aI v3]) rfl (am_dec tX1_areRightIn_0 15 rfl) lkX1_39 rfl (Nat.le_of_ble_eq_true rfl) (by omega) (mc_isRight64 (d := d - 1) hl hp hr v3  hI hTI htb hG (by omega)) (fun _ => ?_)
      refine T_nm (fun z23 hz23 => ?_)
      have hb23 := c_isRight64_b tt ga v3
      rw [← hz23] at hb23
      refine T_if_ne 31 (am_dec tX1_areRightIn_0 16 rfl) rfl (fun h26 => ?_) (fun h26 => ?_)
      · refine T_iinc (ls' := [some (aR 64), some (aR 86), some (aI st), some (aI (v3 + 1))]) (v3 + 1) (am_dec tX1_areRightIn_0 19 rfl) rfl rfl ⟨by omega, by omega⟩ (by decide) rfl ?_
        refine T_goto 2 (am_dec tX1_areRightIn_0 20 rfl) rfl ?_
        have e9 : (p_c_areRightIn_2 tt ga st) v3 = none := (by have s9 := hv13.symm; subst s9; have s9 := hz23.symm; subst s9; exact ((if_pos h17).trans (if_neg h26)))
        rw [am_find_n e9] at k9 kr9
        exact ih (v3 + 1) (by omega) (by omega) k9 kr9
      · refine T_iconst 0 (am_dec tX1_areRightIn_0 17 rfl) rfl ⟨by decide, by decide⟩ ?_
        exact T_zreturn (am_dec tX1_areRightIn_0 18 rfl) rfl (by first | exact Or.inl rfl | exact Or.inr rfl | omega) (kr9 _ (am_find_y (show (p_c_areRightIn_2 tt ga st) v3 = some 0 from (by have s9 := hv13.symm; subst s9; have s9 := hz23.symm; subst s9; exact ((if_pos h17).trans (if_pos h26))))))
def c_areRightIn (tt : am_F) (ga : am_F) (st : Int) : Int := (Option.elim (am_find (p_c_areRightIn_2 tt ga st) 0 (ga 0 2).toNat) 1 (fun r9 => r9))
theorem mc_areRightIn {S : am_S} {d u : Nat} {w : AH} {hb sp rb rs : Nat} {po ro : AV} (hl : 109 ≤ w.length) (hp : hb = 1 ∧ sp = 21 ∨ hb = 21 ∧ sp = 1) (hr : rb = 41 ∧ rs = 46 ∨ rb = 46 ∧ rs = 41) {ee : am_F} {hh : am_F} {ss : am_F} {uu : am_F} {vv : am_F} {pp : am_F} {kk : am_F} {rr : am_F} {tt : am_F} {gg : am_F} {aa : am_F} {dd : am_F} {bd : am_F} {ga : am_F} {im : am_F} (st : Int) (hI : HbI hh) (hTI : RnI tt) (htb : (tt 0 0).toNat = hb) (hG : GaI ga)  (hd : 3 ≤ d) : am_Out S zX1_areRightIn d u [aR 64, aR 86, aI st] (hfW w hb sp rb rs hb po ro ee hh ss uu vv pp kk rr tt gg aa dd bd ga im) (.inl (some (aI (c_areRightIn tt ga st)))) (hfW w hb sp rb rs hb po ro ee hh ss uu vv pp kk rr tt gg aa dd bd ga im) := by
  have key : ∀ Q : AO → AH → Prop, Q (.inl (some (aI (c_areRightIn tt ga st)))) (hfW w hb sp rb rs hb po ro ee hh ss uu vv pp kk rr tt gg aa dd bd ga im) → am_M S zX1_areRightIn d u [aR 64, aR 86, aI st] (hfW w hb sp rb rs hb po ro ee hh ss uu vv pp kk rr tt gg aa dd bd ga im) Q := by
    intro Q hQ
    refine am_body rfl (by decide +kernel) rfl (am_cats_cons rfl ( am_cats_cons rfl ( am_cats_cons rfl (am_cats_nil)))) (Nat.le_of_ble_eq_true rfl) (?_ : am_T _ _ _ _ _ 0 [some (aR 64), some (aR 86), some (aI st), none] [] (hfW w hb sp rb rs hb po ro ee hh ss uu vv pp kk rr tt gg aa dd bd ga im))
    obtain ⟨vh1, vh2, vh3, vh4, vh5, vh6, vh7, vh8, vh9, vh10, vh11, vh12, vh13, vh14, vh15, vh16, vh17, vh18, vh19, vh20, vh21, vh22⟩ := (HbI_A hI).1
    have hG9 := hG
    obtain ⟨vg0, ⟨vg1, vg2⟩, vg3⟩ := hG9
    refine T_iconst 0 (am_dec tX1_areRightIn_0 0 rfl) rfl ⟨by decide, by decide⟩ ?_
    refine T_istore_n (ls' := [some (aR 64), some (aR 86), some (aI st), some (aI 0)]) (am_dec tX1_areRightIn_0 1 rfl) (by decide) rfl ?_
    refine L_c_areRightIn_2 hl hp hr ee hh ss uu vv pp kk rr tt gg aa dd bd ga im st hI hTI htb hG  (by omega) _ rfl (ga 0 2).toNat 0  (by omega) (by omega) (fun hn2 => ?_) (fun r2 hr2 => (am_tr (fun (x9 : Int) => Q (.inl (some (aI (x9)))) (hfW w hb sp rb rs hb po ro ee hh ss uu vv pp kk rr tt gg aa dd bd ga im)) (y := r2) (show (c_areRightIn tt ga st) = r2 from (am_el_s hr2)) hQ))
    refine T_iconst 1 (am_dec tX1_areRightIn_0 21 rfl) rfl ⟨by decide, by decide⟩ ?_
    exact T_zreturn (am_dec tX1_areRightIn_0 22 rfl) rfl (by first | exact Or.inl rfl | exact Or.inr rfl | omega) (am_tr (fun (x9 : Int) => Q (.inl (some (aI (x9)))) (hfW w hb sp rb rs hb po ro ee hh ss uu vv pp kk rr tt gg aa dd bd ga im)) (y := 1) (show (c_areRightIn tt ga st) = 1 from (am_el_n hn2)) hQ)
  exact key _ ⟨rfl, rfl⟩
theorem c_areRightIn_b (tt : am_F) (ga : am_F) (st : Int) : (c_areRightIn tt ga st) = 0 ∨ (c_areRightIn tt ga st) = 1 := by
  unfold c_areRightIn
  cases e : am_find (p_c_areRightIn_2 tt ga st) 0 (ga 0 2).toNat with
  | none => exact Or.inr rfl
  | some v =>
    have q := am_find_P (P := fun v => v = 0) (fun i v hv => by
      unfold p_c_areRightIn_2 at hv
      dsimp only at hv
      repeat' split at hv
      all_goals first | cases hv; done | exact (Option.some.inj hv).symm) _ _ e
    exact Or.inl q
def g_c_lookWithout_29 (rr : am_F) (ga : am_F) (i : Int) (dd : am_F) : am_F := (let z40 : Int := (c_isRight54 rr ga i); (if z40 = 0 then (let v54 : Int := f_at (ga 0 2) (ga 1) i 0; (let m57 : Int := (if v54 < dd 0 4 then v54 else dd 0 4); (let v71 : Int := f_at (ga 0 2) (ga 1) i 0; (let m74 : Int := (if dd 0 5 < v71 then v71 else dd 0 5); (am_put (am_put dd 0 4 m57) 0 5 m74))))) else dd))
theorem L_c_lookWithout_29 {S : am_S} {d u : Nat} {Q : AO → AH → Prop} {w : AH} {hb sp rb rs : Nat} {po ro : AV} (hl : 109 ≤ w.length) (hp : hb = 1 ∧ sp = 21 ∨ hb = 21 ∧ sp = 1) (hr : rb = 41 ∧ rs = 46 ∨ rb = 46 ∧ rs = 41) (ee : am_F) (hh : am_F) (ss : am_F) (uu : am_F) (vv : am_F) (pp : am_F) (kk : am_F) (rr : am_F) (tt : am_F) (gg : am_F) (aa : am_F) (bd : am_F) (ga : am_F) (im : am_F) (hI : HbI hh) (hRI : RnI rr) (hG : GaI ga)  (hd : 6 ≤ d) (B9 : Int) (hB : B9 = ga 0 2) : ∀ (n : Nat) (i : Int) (dd : am_F), i + n = B9 → 0 ≤ i → (∀ (dd' : am_F), dd' = am_fold (g_c_lookWithout_29 rr ga) i n dd → am_T S zX1_lookWithout d u Q 86 [none, none, none, none] [] (hfW w hb sp rb rs hb po ro ee hh ss uu vv pp kk rr tt gg aa dd' bd ga im)) → am_T S zX1_lookWithout d u Q 29 [some (aR 83), some (aR 54), some (aR 86), some (aI i)] [] (hfW w hb sp rb rs hb po ro ee hh ss uu vv pp kk rr tt gg aa dd bd ga im) := by
  intro n
  induction n with
  | zero =>
    intro i dd hi9 h0i k9
    have e9 : i = B9 := by omega
    subst e9
    obtain ⟨vh1, vh2, vh3, vh4, vh5, vh6, vh7, vh8, vh9, vh10, vh11, vh12, vh13, vh14, vh15, vh16, vh17, vh18, vh19, vh20, vh21, vh22⟩ := (HbI_A hI).1
    have hG9 := hG
    obtain ⟨vg0, ⟨vg1, vg2⟩, vg3⟩ := hG9
    refine T_iload_n (am_dec tX1_lookWithout_0 16 rfl) rfl ?_
    refine T_aload_n (am_dec tX1_lookWithout_0 17 rfl) rfl ?_
    refine T_getfield 9 2 (am_dec tX1_lookWithout_0 18 rfl) flX1_20_9 (show (hfW w hb sp rb rs hb po ro ee hh ss uu vv pp kk rr tt gg aa dd bd ga im)[86]? = some (cO 9 [aI (ga 0 0), aR 87, aI (ga 0 2)]) from (hfW_c hl 86 (by decide))) rfl ?_
    refine T_icmp_ge 86 (am_dec tX1_lookWithout_0 19 rfl) rfl (fun h34 => ?_) (fun h34 => by exfalso; omega)
    refine T_weak (ls' := [none, none, none, none]) (am_sub_n (am_sub_n (am_sub_n (am_sub_n am_sub_nil)))) ?_
    exact k9 dd rfl
  | succ n ih =>
    intro i dd hi9 h0i k9
    obtain ⟨vh1, vh2, vh3, vh4, vh5, vh6, vh7, vh8, vh9, vh10, vh11, vh12, vh13, vh14, vh15, vh16, vh17, vh18, vh19, vh20, vh21, vh22⟩ := (HbI_A hI).1
    have hG9 := hG
    obtain ⟨vg0, ⟨vg1, vg2⟩, vg3⟩ := hG9
    refine T_iload_n (am_dec tX1_lookWithout_0 16 rfl) rfl ?_
    refine T_aload_n (am_dec tX1_lookWithout_0 17 rfl) rfl ?_
    refine T_getfield 9 2 (am_dec tX1_lookWithout_0 18 rfl) flX1_20_9 (show (hfW w hb sp rb rs hb po ro ee hh ss uu vv pp kk rr tt gg aa dd bd ga im)[86]? = some (cO 9 [aI (ga 0 0), aR 87, aI (ga 0 2)]) from (hfW_c hl 86 (by decide))) rfl ?_
    refine T_icmp_ge 86 (am_dec tX1_lookWithout_0 19 rfl) rfl (fun h34 => by exfalso; omega) (fun h34 => ?_)
    refine T_aload_n (am_dec tX1_lookWithout_0 20 rfl) rfl ?_
    refine T_aload_n (am_dec tX1_lookWithout_0 21 rfl) rfl ?_
    refine T_iload_n (am_dec tX1_lookWithout_0 22 rfl) rfl ?_
    refine T_callS (as := [aR 54, aR 86, aI i]) rfl (am_dec tX1_lookWithout_0 23 rfl) lkX1_39 rfl (Nat.le_of_ble_eq_true rfl) (by omega) (mc_isRight54 (d := d - 1) hl hp hr i  hI hRI hG (by omega)) (fun _ => ?_)
    refine T_nm (fun z40 hz40 => ?_)
    have hb40 := c_isRight54_b rr ga i
    rw [← hz40] at hb40
    have K43 : ∀ (dd43 : am_F), dd43 = (if z40 = 0 then (let v54 : Int := f_at (ga 0 2) (ga 1) i 0; (let m57 : Int := (if v54 < dd 0 4 then v54 else dd 0 4); (let v71 : Int := f_at (ga 0 2) (ga 1) i 0; (let m74 : Int := (if dd 0 5 < v71 then v71 else dd 0 5); (am_put (am_put dd 0 4 m57) 0 5 m74))))) else dd) →  am_T S zX1_lookWithout d u Q 80 [some (aR 83), some (aR 54), some (aR 86), some (aI i)] [] (hfW w hb sp rb rs hb po ro ee hh ss uu vv pp kk rr tt gg aa dd43 bd ga im) := by
      intro dd43 hdd43 
      refine T_iinc (ls' := [some (aR 83), some (aR 54), some (aR 86), some (aI (i + 1))]) (i + 1) (am_dec tX1_lookWithout_1 3 rfl) rfl rfl ⟨by omega, by omega⟩ (by decide) rfl ?_
      refine T_goto 29 (am_dec tX1_lookWithout_1 4 rfl) rfl ?_
      have e9 : (g_c_lookWithout_29 rr ga) i dd = dd43 := (by have s9 := hz40.symm; subst s9; have s9 := hdd43.symm; subst s9; exact rfl)
      simp only [am_fold_s, e9] at k9
      exact ih (i + 1) dd43 (by omega) (by omega) k9
    refine T_if_ne 80 (am_dec tX1_lookWithout_0 24 rfl) rfl (fun h43 => ?_) (fun h43 => ?_)
    · exact K43 _ (if_neg h43).symm 
    · refine T_aload_n (am_dec tX1_lookWithout_0 25 rfl) rfl ?_
      refine T_aload_n (am_dec tX1_lookWithout_0 26 rfl) rfl ?_
      refine T_getfield 1 4 (am_dec tX1_lookWithout_0 27 rfl) flX1_58_1 (show (hfW w hb sp rb rs hb po ro ee hh ss uu vv pp kk rr tt gg aa dd bd ga im)[83]? = some (cO 1 [aI (dd 0 0), aI (dd 0 1), aI (dd 0 2), aI (dd 0 3), aI (dd 0 4), aI (dd 0 5), aI (dd 0 6)]) from (hfW_c hl 83 (by decide))) rfl ?_
      refine T_aload_n (am_dec tX1_lookWithout_0 28 rfl) rfl ?_
      refine T_iload_n (am_dec tX1_lookWithout_0 29 rfl) rfl ?_
      refine T_iconst 0 (am_dec tX1_lookWithout_0 30 rfl) rfl ⟨by decide, by decide⟩ ?_
      refine T_callV (as := [aI i, aI 0]) rfl (am_dec tX1_lookWithout_0 31 rfl) lkX1_9 (show (hfW w hb sp rb rs hb po ro ee hh ss uu vv pp kk rr tt gg aa dd bd ga im)[86]? = some (cO 9 [aI (ga 0 0), aR 87, aI (ga 0 2)]) from (hfW_c hl 86 (by decide))) rfl rfl (Nat.le_of_ble_eq_true rfl) (by omega) (m_at (d := d - 1) (show (hfW w hb sp rb rs hb po ro ee hh ss uu vv pp kk rr tt gg aa dd bd ga im)[86]? = some (cO 9 [aI (ga 0 0), aR 87, aI (ga 0 2)]) from (hfW_c hl 86 (by decide))) (show (hfW w hb sp rb rs hb po ro ee hh ss uu vv pp kk rr tt gg aa dd bd ga im)[87]? = some (cP 0 48 (ga 1)) from (hfW_c hl 87 (by decide))) (by omega) i 0) (fun _ => ?_)
      refine T_nm (fun v54 hv54 => ?_)
      refine T_mmin (am_dec tX1_lookWithout_0 32 rfl) lkX1_87 (Nat.le_of_ble_eq_true rfl) (by omega) ?_
      obtain ⟨m57, hm57⟩ : ∃ x9 : Int, x9 = (if v54 < dd 0 4 then v54 else dd 0 4) := ⟨_, rfl⟩
      rw [← hm57]
      refine T_putfield (fs' := [aI (dd 0 0), aI (dd 0 1), aI (dd 0 2), aI (dd 0 3), aI m57, aI (dd 0 5), aI (dd 0 6)]) 1 4 (am_dec tX1_lookWithout_0 33 rfl) flX1_58_1 rfl rfl rfl trivial (show (hfW w hb sp rb rs hb po ro ee hh ss uu vv pp kk rr tt gg aa dd bd ga im)[83]? = some (cO 1 [aI (dd 0 0), aI (dd 0 1), aI (dd 0 2), aI (dd 0 3), aI (dd 0 4), aI (dd 0 5), aI (dd 0 6)]) from (hfW_c hl 83 (by decide))) (Nat.le_of_ble_eq_true rfl) rfl ?_
      refine am_wE (w2 := hfW w hb sp rb rs hb po ro ee hh ss uu vv pp kk rr tt gg aa (am_put dd 0 4 m57) bd ga im) (hf_dd4 hl) ?_
      refine T_aload_n (am_dec tX1_lookWithout_0 34 rfl) rfl ?_
      refine T_aload_n (am_dec tX1_lookWithout_0 35 rfl) rfl ?_
      refine T_getfield 1 5 (am_dec tX1_lookWithout_0 36 rfl) flX1_84_1 (show (hfW w hb sp rb rs hb po ro ee hh ss uu vv pp kk rr tt gg aa (am_put dd 0 4 m57) bd ga im)[83]? = some (cO 1 [aI (dd 0 0), aI (dd 0 1), aI (dd 0 2), aI (dd 0 3), aI m57, aI (dd 0 5), aI (dd 0 6)]) from (hfW_c hl 83 (by decide))) rfl ?_
      refine T_aload_n (am_dec tX1_lookWithout_0 37 rfl) rfl ?_
      refine T_iload_n (am_dec tX1_lookWithout_0 38 rfl) rfl ?_
      refine T_iconst 0 (am_dec tX1_lookWithout_0 39 rfl) rfl ⟨by decide, by decide⟩ ?_
      refine T_callV (as := [aI i, aI 0]) rfl (am_dec tX1_lookWithout_1 0 rfl) lkX1_9 (show (hfW w hb sp rb rs hb po ro ee hh ss uu vv pp kk rr tt gg aa (am_put dd 0 4 m57) bd ga im)[86]? = some (cO 9 [aI (ga 0 0), aR 87, aI (ga 0 2)]) from (hfW_c hl 86 (by decide))) rfl rfl (Nat.le_of_ble_eq_true rfl) (by omega) (m_at (d := d - 1) (show (hfW w hb sp rb rs hb po ro ee hh ss uu vv pp kk rr tt gg aa (am_put dd 0 4 m57) bd ga im)[86]? = some (cO 9 [aI (ga 0 0), aR 87, aI (ga 0 2)]) from (hfW_c hl 86 (by decide))) (show (hfW w hb sp rb rs hb po ro ee hh ss uu vv pp kk rr tt gg aa (am_put dd 0 4 m57) bd ga im)[87]? = some (cP 0 48 (ga 1)) from (hfW_c hl 87 (by decide))) (by omega) i 0) (fun _ => ?_)
      refine T_nm (fun v71 hv71 => ?_)
      refine T_mmax (am_dec tX1_lookWithout_1 1 rfl) lkX1_24 (Nat.le_of_ble_eq_true rfl) (by omega) ?_
      obtain ⟨m74, hm74⟩ : ∃ x9 : Int, x9 = (if dd 0 5 < v71 then v71 else dd 0 5) := ⟨_, rfl⟩
      rw [← hm74]
      refine T_putfield (fs' := [aI (dd 0 0), aI (dd 0 1), aI (dd 0 2), aI (dd 0 3), aI m57, aI m74, aI (dd 0 6)]) 1 5 (am_dec tX1_lookWithout_1 2 rfl) flX1_84_1 rfl rfl rfl trivial (show (hfW w hb sp rb rs hb po ro ee hh ss uu vv pp kk rr tt gg aa (am_put dd 0 4 m57) bd ga im)[83]? = some (cO 1 [aI (dd 0 0), aI (dd 0 1), aI (dd 0 2), aI (dd 0 3), aI m57, aI (dd 0 5), aI (dd 0 6)]) from (hfW_c hl 83 (by decide))) (Nat.le_of_ble_eq_true rfl) rfl ?_
      refine am_wE (w2 := hfW w hb sp rb rs hb po ro ee hh ss uu vv pp kk rr tt gg aa (am_put (am_put dd 0 4 m57) 0 5 m74) bd ga im) (hf_dd5 hl) ?_
      exact K43 _ (by have s9 := hv54.symm; subst s9; have s9 := hm57.symm; subst s9; have s9 := hv71.symm; subst s9; have s9 := hm74.symm; subst s9; exact (if_pos h43).symm) 
def c_lookWithout (hh : am_F) (rr : am_F) (dd : am_F) (ga : am_F) : am_F × am_F := (let rr24 : am_F := f_upTo hh rr (c_lastStep ga); (let dd29 : am_F := am_fold (g_c_lookWithout_29 rr24 ga) 0 (ga 0 2).toNat (am_put (am_put (am_put dd 0 6 (c_lastStep ga)) 0 4 40) 0 5 (-1)); (rr24, dd29)))
theorem mc_lookWithout {S : am_S} {d u : Nat} {w : AH} {hb sp rb rs : Nat} {po ro : AV} (hl : 109 ≤ w.length) (hp : hb = 1 ∧ sp = 21 ∨ hb = 21 ∧ sp = 1) (hr : rb = 41 ∧ rs = 46 ∨ rb = 46 ∧ rs = 41) {ee : am_F} {hh : am_F} {ss : am_F} {uu : am_F} {vv : am_F} {pp : am_F} {kk : am_F} {rr : am_F} {tt : am_F} {gg : am_F} {aa : am_F} {dd : am_F} {bd : am_F} {ga : am_F} {im : am_F}  (hI : HbI hh) (hRI : RnI rr) (hG : GaI ga)  (hd : 6 ≤ d) : am_Out S zX1_lookWithout d u [aR 83, aR 54, aR 86] (hfW w hb sp rb rs hb po ro ee hh ss uu vv pp kk rr tt gg aa dd bd ga im) (.inl none) (hfW w hb sp rb rs hb po ro ee hh ss uu vv pp kk ((c_lookWithout hh rr dd ga).1) tt gg aa ((c_lookWithout hh rr dd ga).2) bd ga im) := by
  have key : ∀ Q : AO → AH → Prop, Q (.inl none) (hfW w hb sp rb rs hb po ro ee hh ss uu vv pp kk ((c_lookWithout hh rr dd ga).1) tt gg aa ((c_lookWithout hh rr dd ga).2) bd ga im) → am_M S zX1_lookWithout d u [aR 83, aR 54, aR 86] (hfW w hb sp rb rs hb po ro ee hh ss uu vv pp kk rr tt gg aa dd bd ga im) Q := by
    intro Q hQ
    refine am_body rfl (by decide +kernel) rfl (am_cats_cons rfl ( am_cats_cons rfl ( am_cats_cons rfl (am_cats_nil)))) (Nat.le_of_ble_eq_true rfl) (?_ : am_T _ _ _ _ _ 0 [some (aR 83), some (aR 54), some (aR 86), none] [] (hfW w hb sp rb rs hb po ro ee hh ss uu vv pp kk rr tt gg aa dd bd ga im))
    obtain ⟨vh1, vh2, vh3, vh4, vh5, vh6, vh7, vh8, vh9, vh10, vh11, vh12, vh13, vh14, vh15, vh16, vh17, vh18, vh19, vh20, vh21, vh22⟩ := (HbI_A hI).1
    have hG9 := hG
    obtain ⟨vg0, ⟨vg1, vg2⟩, vg3⟩ := hG9
    refine T_aload_n (am_dec tX1_lookWithout_0 0 rfl) rfl ?_
    refine T_aload_n (am_dec tX1_lookWithout_0 1 rfl) rfl ?_
    refine T_callS (as := [aR 86]) rfl (am_dec tX1_lookWithout_0 2 rfl) lkX1_29 rfl (Nat.le_of_ble_eq_true rfl) (by omega) (mc_lastStep (d := d - 1) hl hp hr   hG (by omega)) (fun _ => ?_)
    refine T_putfield (fs' := [aI (dd 0 0), aI (dd 0 1), aI (dd 0 2), aI (dd 0 3), aI (dd 0 4), aI (dd 0 5), aI (c_lastStep ga)]) 1 6 (am_dec tX1_lookWithout_0 3 rfl) flX1_81_1 rfl rfl rfl trivial (show (hfW w hb sp rb rs hb po ro ee hh ss uu vv pp kk rr tt gg aa dd bd ga im)[83]? = some (cO 1 [aI (dd 0 0), aI (dd 0 1), aI (dd 0 2), aI (dd 0 3), aI (dd 0 4), aI (dd 0 5), aI (dd 0 6)]) from (hfW_c hl 83 (by decide))) (Nat.le_of_ble_eq_true rfl) rfl ?_
    refine am_wE (w2 := hfW w hb sp rb rs hb po ro ee hh ss uu vv pp kk rr tt gg aa (am_put dd 0 6 (c_lastStep ga)) bd ga im) (hf_dd6 hl) ?_
    refine T_aload_n (am_dec tX1_lookWithout_0 4 rfl) rfl ?_
    refine T_bipush 40 (am_dec tX1_lookWithout_0 5 rfl) rfl ⟨by decide, by decide⟩ ?_
    refine T_putfield (fs' := [aI (dd 0 0), aI (dd 0 1), aI (dd 0 2), aI (dd 0 3), aI 40, aI (dd 0 5), aI (c_lastStep ga)]) 1 4 (am_dec tX1_lookWithout_0 6 rfl) flX1_58_1 rfl rfl rfl trivial (show (hfW w hb sp rb rs hb po ro ee hh ss uu vv pp kk rr tt gg aa (am_put dd 0 6 (c_lastStep ga)) bd ga im)[83]? = some (cO 1 [aI (dd 0 0), aI (dd 0 1), aI (dd 0 2), aI (dd 0 3), aI (dd 0 4), aI (dd 0 5), aI (c_lastStep ga)]) from (hfW_c hl 83 (by decide))) (Nat.le_of_ble_eq_true rfl) rfl ?_
    refine am_wE (w2 := hfW w hb sp rb rs hb po ro ee hh ss uu vv pp kk rr tt gg aa (am_put (am_put dd 0 6 (c_lastStep ga)) 0 4 40) bd ga im) (hf_dd4 hl) ?_
    refine T_aload_n (am_dec tX1_lookWithout_0 7 rfl) rfl ?_
    refine T_iconst (-1) (am_dec tX1_lookWithout_0 8 rfl) rfl ⟨by decide, by decide⟩ ?_
    refine T_putfield (fs' := [aI (dd 0 0), aI (dd 0 1), aI (dd 0 2), aI (dd 0 3), aI 40, aI (-1), aI (c_lastStep ga)]) 1 5 (am_dec tX1_lookWithout_0 9 rfl) flX1_84_1 rfl rfl rfl trivial (show (hfW w hb sp rb rs hb po ro ee hh ss uu vv pp kk rr tt gg aa (am_put (am_put dd 0 6 (c_lastStep ga)) 0 4 40) bd ga im)[83]? = some (cO 1 [aI (dd 0 0), aI (dd 0 1), aI (dd 0 2), aI (dd 0 3), aI 40, aI (dd 0 5), aI (c_lastStep ga)]) from (hfW_c hl 83 (by decide))) (Nat.le_of_ble_eq_true rfl) rfl ?_
    refine am_wE (w2 := hfW w hb sp rb rs hb po ro ee hh ss uu vv pp kk rr tt gg aa (am_put (am_put (am_put dd 0 6 (c_lastStep ga)) 0 4 40) 0 5 (-1)) bd ga im) (hf_dd5 hl) ?_
    refine T_aload_n (am_dec tX1_lookWithout_0 10 rfl) rfl ?_
    refine T_aload_n (am_dec tX1_lookWithout_0 11 rfl) rfl ?_
    refine T_getfield 1 6 (am_dec tX1_lookWithout_0 12 rfl) flX1_81_1 (show (hfW w hb sp rb rs hb po ro ee hh ss uu vv pp kk rr tt gg aa (am_put (am_put (am_put dd 0 6 (c_lastStep ga)) 0 4 40) 0 5 (-1)) bd ga im)[83]? = some (cO 1 [aI (dd 0 0), aI (dd 0 1), aI (dd 0 2), aI (dd 0 3), aI 40, aI (-1), aI (c_lastStep ga)]) from (hfW_c hl 83 (by decide))) rfl ?_
    refine T_callV (as := [aI (c_lastStep ga)]) rfl (am_dec tX1_lookWithout_0 13 rfl) lkX1_35 (show (hfW w hb sp rb rs hb po ro ee hh ss uu vv pp kk rr tt gg aa (am_put (am_put (am_put dd 0 6 (c_lastStep ga)) 0 4 40) 0 5 (-1)) bd ga im)[54]? = some (cO 8 [aR hb, aI (rr 0 1), aI (rr 0 2), aI (rr 0 3), aI (rr 0 4), aI (rr 0 5), aR 55, aR 56, aR 57, aR 58, aR 59, aR 60, aR 61, aR 62, aR 63]) from (hfW_c hl 54 (by decide))) rfl rfl (Nat.le_of_ble_eq_true rfl) (by omega) (am_OutE (m_upTo (d := d - 1) (w := hfW w hb sp rb rs hb po ro ee hh ss uu vv pp kk rr tt gg aa (am_put (am_put (am_put dd 0 6 (c_lastStep ga)) 0 4 40) 0 5 (-1)) bd ga im) (hf_le hl (by omega)) (by omega) (hf_H hl hp) (HbI_A hI) (c_lastStep ga) hRI.1 hRI.2.1 hRI.2.2 (by omega)) hf_uR hf_uR) (fun _ => ?_)
    refine T_nmH (W := fun x9 => hfW w hb sp rb rs hb po ro ee hh ss uu vv pp kk x9 tt gg aa (am_put (am_put (am_put dd 0 6 (c_lastStep ga)) 0 4 40) 0 5 (-1)) bd ga im) (v := f_upTo hh rr (c_lastStep ga)) (fun rr24 hrr24 => ?_)
    have hIrr24 : RnI rr24 := by rw [hrr24]; exact f_upTo_I (HbI_A hI) hRI
    refine T_iconst 0 (am_dec tX1_lookWithout_0 14 rfl) rfl ⟨by decide, by decide⟩ ?_
    refine T_istore_n (ls' := [some (aR 83), some (aR 54), some (aR 86), some (aI 0)]) (am_dec tX1_lookWithout_0 15 rfl) (by decide) rfl ?_
    refine L_c_lookWithout_29 hl hp hr ee hh ss uu vv pp kk rr24 tt gg aa bd ga im hI hIrr24 hG  (by omega) _ rfl (ga 0 2).toNat 0 (am_put (am_put (am_put dd 0 6 (c_lastStep ga)) 0 4 40) 0 5 (-1)) (by omega) (by omega) (fun dd29 hdd29 => ?_)
    exact T_return (am_dec tX1_lookWithout_1 5 rfl) rfl (am_tr (fun (x9 : am_F × am_F) => Q (.inl none) (hfW w hb sp rb rs hb po ro ee hh ss uu vv pp kk x9.1 tt gg aa x9.2 bd ga im)) (y := (rr24, dd29)) (show (c_lookWithout hh rr dd ga) = (rr24, dd29) from (by have s9 := hrr24.symm; subst s9; have s9 := hdd29.symm; subst s9; exact rfl)) hQ)
  exact key _ ⟨rfl, rfl⟩
def c_keep (dd : am_F) (s : Int) (c : Int) : am_F := (let dd4 : am_F := (if dd 0 1 = 0 then (am_put (am_put dd 0 2 s) 0 3 c) else dd); (am_put dd4 0 1 (am_w32 ((dd4 0 1) + 1))))
theorem mc_keep {S : am_S} {d u : Nat} {w : AH} {hb sp rb rs : Nat} {po ro : AV} (hl : 109 ≤ w.length) (hp : hb = 1 ∧ sp = 21 ∨ hb = 21 ∧ sp = 1) (hr : rb = 41 ∧ rs = 46 ∨ rb = 46 ∧ rs = 41) {ee : am_F} {hh : am_F} {ss : am_F} {uu : am_F} {vv : am_F} {pp : am_F} {kk : am_F} {rr : am_F} {tt : am_F} {gg : am_F} {aa : am_F} {dd : am_F} {bd : am_F} {ga : am_F} {im : am_F} (s : Int) (c : Int)    : am_Out S zX1_keep d u [aR 83, aI s, aI c] (hfW w hb sp rb rs hb po ro ee hh ss uu vv pp kk rr tt gg aa dd bd ga im) (.inl none) (hfW w hb sp rb rs hb po ro ee hh ss uu vv pp kk rr tt gg aa (c_keep dd s c) bd ga im) := by
  have key : ∀ Q : AO → AH → Prop, Q (.inl none) (hfW w hb sp rb rs hb po ro ee hh ss uu vv pp kk rr tt gg aa (c_keep dd s c) bd ga im) → am_M S zX1_keep d u [aR 83, aI s, aI c] (hfW w hb sp rb rs hb po ro ee hh ss uu vv pp kk rr tt gg aa dd bd ga im) Q := by
    intro Q hQ
    refine am_body rfl (by decide +kernel) rfl (am_cats_cons rfl ( am_cats_cons rfl ( am_cats_cons rfl (am_cats_nil)))) (Nat.le_of_ble_eq_true rfl) (?_ : am_T _ _ _ _ _ 0 [some (aR 83), some (aI s), some (aI c)] [] (hfW w hb sp rb rs hb po ro ee hh ss uu vv pp kk rr tt gg aa dd bd ga im))
    refine T_aload_n (am_dec tX1_keep_0 0 rfl) rfl ?_
    refine T_getfield 1 1 (am_dec tX1_keep_0 1 rfl) flX1_47_1 (show (hfW w hb sp rb rs hb po ro ee hh ss uu vv pp kk rr tt gg aa dd bd ga im)[83]? = some (cO 1 [aI (dd 0 0), aI (dd 0 1), aI (dd 0 2), aI (dd 0 3), aI (dd 0 4), aI (dd 0 5), aI (dd 0 6)]) from (hfW_c hl 83 (by decide))) rfl ?_
    have K4 : ∀ (dd4 : am_F), dd4 = (if dd 0 1 = 0 then (am_put (am_put dd 0 2 s) 0 3 c) else dd) →  am_T S zX1_keep d u Q 17 [some (aR 83), none, none] [] (hfW w hb sp rb rs hb po ro ee hh ss uu vv pp kk rr tt gg aa dd4 bd ga im) := by
      intro dd4 hdd4 
      refine T_aload_n (am_dec tX1_keep_0 9 rfl) rfl ?_
      refine T_dup (am_dec tX1_keep_0 10 rfl) rfl ?_
      refine T_getfield 1 1 (am_dec tX1_keep_0 11 rfl) flX1_47_1 (show (hfW w hb sp rb rs hb po ro ee hh ss uu vv pp kk rr tt gg aa dd4 bd ga im)[83]? = some (cO 1 [aI (dd4 0 0), aI (dd4 0 1), aI (dd4 0 2), aI (dd4 0 3), aI (dd4 0 4), aI (dd4 0 5), aI (dd4 0 6)]) from (hfW_c hl 83 (by decide))) rfl ?_
      refine T_iconst 1 (am_dec tX1_keep_0 12 rfl) rfl ⟨by decide, by decide⟩ ?_
      refine T_iaddW (am_w32 ((dd4 0 1) + 1)) (am_dec tX1_keep_0 13 rfl) (am_w32e _).symm (am_w32r _) ?_
      refine T_putfield (fs' := [aI (dd4 0 0), aI (am_w32 ((dd4 0 1) + 1)), aI (dd4 0 2), aI (dd4 0 3), aI (dd4 0 4), aI (dd4 0 5), aI (dd4 0 6)]) 1 1 (am_dec tX1_keep_0 14 rfl) flX1_47_1 rfl rfl rfl trivial (show (hfW w hb sp rb rs hb po ro ee hh ss uu vv pp kk rr tt gg aa dd4 bd ga im)[83]? = some (cO 1 [aI (dd4 0 0), aI (dd4 0 1), aI (dd4 0 2), aI (dd4 0 3), aI (dd4 0 4), aI (dd4 0 5), aI (dd4 0 6)]) from (hfW_c hl 83 (by decide))) (Nat.le_of_ble_eq_true rfl) rfl ?_
      refine am_wE (w2 := hfW w hb sp rb rs hb po ro ee hh ss uu vv pp kk rr tt gg aa (am_put dd4 0 1 (am_w32 ((dd4 0 1) + 1))) bd ga im) (hf_dd1 hl) ?_
      exact T_return (am_dec tX1_keep_0 15 rfl) rfl (am_tr (fun (x9 : am_F) => Q (.inl none) (hfW w hb sp rb rs hb po ro ee hh ss uu vv pp kk rr tt gg aa x9 bd ga im)) (y := (am_put dd4 0 1 (am_w32 ((dd4 0 1) + 1)))) (show (c_keep dd s c) = (am_put dd4 0 1 (am_w32 ((dd4 0 1) + 1))) from (by have s9 := hdd4.symm; subst s9; exact rfl)) hQ)
    refine T_if_ne 17 (am_dec tX1_keep_0 2 rfl) rfl (fun h4 => ?_) (fun h4 => ?_)
    · refine T_weak (ls' := [some (aR 83), none, none]) (am_sub_s (am_sub_n (am_sub_n am_sub_nil))) ?_
      exact K4 _ (if_neg h4).symm 
    · refine T_aload_n (am_dec tX1_keep_0 3 rfl) rfl ?_
      refine T_iload_n (am_dec tX1_keep_0 4 rfl) rfl ?_
      refine T_putfield (fs' := [aI (dd 0 0), aI (dd 0 1), aI s, aI (dd 0 3), aI (dd 0 4), aI (dd 0 5), aI (dd 0 6)]) 1 2 (am_dec tX1_keep_0 5 rfl) flX1_48_1 rfl rfl rfl trivial (show (hfW w hb sp rb rs hb po ro ee hh ss uu vv pp kk rr tt gg aa dd bd ga im)[83]? = some (cO 1 [aI (dd 0 0), aI (dd 0 1), aI (dd 0 2), aI (dd 0 3), aI (dd 0 4), aI (dd 0 5), aI (dd 0 6)]) from (hfW_c hl 83 (by decide))) (Nat.le_of_ble_eq_true rfl) rfl ?_
      refine am_wE (w2 := hfW w hb sp rb rs hb po ro ee hh ss uu vv pp kk rr tt gg aa (am_put dd 0 2 s) bd ga im) (hf_dd2 hl) ?_
      refine T_aload_n (am_dec tX1_keep_0 6 rfl) rfl ?_
      refine T_iload_n (am_dec tX1_keep_0 7 rfl) rfl ?_
      refine T_putfield (fs' := [aI (dd 0 0), aI (dd 0 1), aI s, aI c, aI (dd 0 4), aI (dd 0 5), aI (dd 0 6)]) 1 3 (am_dec tX1_keep_0 8 rfl) flX1_51_1 rfl rfl rfl trivial (show (hfW w hb sp rb rs hb po ro ee hh ss uu vv pp kk rr tt gg aa (am_put dd 0 2 s) bd ga im)[83]? = some (cO 1 [aI (dd 0 0), aI (dd 0 1), aI s, aI (dd 0 3), aI (dd 0 4), aI (dd 0 5), aI (dd 0 6)]) from (hfW_c hl 83 (by decide))) (Nat.le_of_ble_eq_true rfl) rfl ?_
      refine am_wE (w2 := hfW w hb sp rb rs hb po ro ee hh ss uu vv pp kk rr tt gg aa (am_put (am_put dd 0 2 s) 0 3 c) bd ga im) (hf_dd3 hl) ?_
      refine T_weak (ls' := [some (aR 83), none, none]) (am_sub_s (am_sub_n (am_sub_n am_sub_nil))) ?_
      exact K4 _ (if_pos h4).symm 
  exact key _ ⟨rfl, rfl⟩
def w_c_fits_50 (hh : am_F) (rr : am_F) (dd : am_F) (ga : am_F) (x9 : Int × am_F) : (Int × am_F) ⊕ (Int × am_F) := let t : Int := x9.1; let tt : am_F := x9.2; (if dd 0 6 < t then .inr (1, tt) else (if 40 ≤ t then .inr (1, tt) else (let tt69 : am_F := f_upTo hh tt t; (let z76 : Int := (c_areRightIn tt69 ga t); (if z76 = 0 then .inr (0, tt69) else (let z88 : Int := f_stands tt69 rr hh t; (if z88 = 0 then .inl ((t + 1), tt69) else (let t100 : Int := (if t < dd 0 5 then 0 else 1); .inr (t100, tt69)))))))))
theorem L_c_fits_50 {S : am_S} {d u : Nat} {Q : AO → AH → Prop} {w : AH} {hb sp rb rs : Nat} {po ro : AV} (hl : 109 ≤ w.length) (hp : hb = 1 ∧ sp = 21 ∨ hb = 21 ∧ sp = 1) (hr : rb = 41 ∧ rs = 46 ∨ rb = 46 ∧ rs = 41) (ee : am_F) (hh : am_F) (ss : am_F) (uu : am_F) (vv : am_F) (pp : am_F) (kk : am_F) (rr : am_F) (gg : am_F) (aa : am_F) (dd : am_F) (bd : am_F) (ga : am_F) (im : am_F) (hI : HbI hh) (hRI : RnI rr) (hG : GaI ga)  (hd : 6 ≤ d) : ∀ (n : Nat) (t : Int) (tt : am_F), 40 - t < n → (RnI tt ∧ (tt 0 0).toNat = hb) ∧ 0 ≤ t ∧ t ≤ 40 → (∀ (rv' : Int) (tt' : am_F), rv' = (am_wr (w_c_fits_50 hh rr dd ga) (0, (fun _ _ => 0)) n (t, tt)).1 → tt' = (am_wr (w_c_fits_50 hh rr dd ga) (0, (fun _ _ => 0)) n (t, tt)).2 → Q (.inl (some (aI rv'))) (hfW w hb sp rb rs hb po ro ee hh ss uu vv pp kk rr tt' gg aa dd bd ga im)) → am_T S zX1_fits d u Q 50 [some (aR 83), some (aR 54), some (aR 64), some (aR 86), none, none, some (aI t)] [] (hfW w hb sp rb rs hb po ro ee hh ss uu vv pp kk rr tt gg aa dd bd ga im) := by
  intro n
  induction n with
  | zero =>
    intro t tt hm9 hinv k9
    obtain ⟨vh1, vh2, vh3, vh4, vh5, vh6, vh7, vh8, vh9, vh10, vh11, vh12, vh13, vh14, vh15, vh16, vh17, vh18, vh19, vh20, vh21, vh22⟩ := (HbI_A hI).1
    have hG9 := hG
    obtain ⟨vg0, ⟨vg1, vg2⟩, vg3⟩ := hG9
    have hTI := hinv.1.1
    have htb := hinv.1.2
    exfalso; omega
  | succ n ih =>
    intro t tt hm9 hinv k9
    obtain ⟨vh1, vh2, vh3, vh4, vh5, vh6, vh7, vh8, vh9, vh10, vh11, vh12, vh13, vh14, vh15, vh16, vh17, vh18, vh19, vh20, vh21, vh22⟩ := (HbI_A hI).1
    have hG9 := hG
    obtain ⟨vg0, ⟨vg1, vg2⟩, vg3⟩ := hG9
    have hTI := hinv.1.1
    have htb := hinv.1.2
    refine T_iload (am_dec tX1_fits_0 26 rfl) rfl ?_
    refine T_aload_n (am_dec tX1_fits_0 27 rfl) rfl ?_
    refine T_getfield 1 6 (am_dec tX1_fits_0 28 rfl) flX1_81_1 (show (hfW w hb sp rb rs hb po ro ee hh ss uu vv pp kk rr tt gg aa dd bd ga im)[83]? = some (cO 1 [aI (dd 0 0), aI (dd 0 1), aI (dd 0 2), aI (dd 0 3), aI (dd 0 4), aI (dd 0 5), aI (dd 0 6)]) from (hfW_c hl 83 (by decide))) rfl ?_
    refine T_icmp_gt 115 (am_dec tX1_fits_0 29 rfl) rfl (fun h56 => ?_) (fun h56 => ?_)
    · refine T_iconst 1 (am_dec tX1_fits_1 18 rfl) rfl ⟨by decide, by decide⟩ ?_
      exact T_zreturn (am_dec tX1_fits_1 19 rfl) rfl (by first | exact Or.inl rfl | exact Or.inr rfl | omega) (by have e9 : (w_c_fits_50 hh rr dd ga) (t, tt) = .inr (1, tt) := (if_pos h56); simp only [am_wr_r e9] at k9; exact k9 _ _ rfl rfl)
    · refine T_iload (am_dec tX1_fits_0 30 rfl) rfl ?_
      refine T_bipush 40 (am_dec tX1_fits_0 31 rfl) rfl ⟨by decide, by decide⟩ ?_
      refine T_icmp_ge 115 (am_dec tX1_fits_0 32 rfl) rfl (fun h63 => ?_) (fun h63 => ?_)
      · refine T_iconst 1 (am_dec tX1_fits_1 18 rfl) rfl ⟨by decide, by decide⟩ ?_
        exact T_zreturn (am_dec tX1_fits_1 19 rfl) rfl (by first | exact Or.inl rfl | exact Or.inr rfl | omega) (by have e9 : (w_c_fits_50 hh rr dd ga) (t, tt) = .inr (1, tt) := ((if_neg h56).trans (if_pos h63)); simp only [am_wr_r e9] at k9; exact k9 _ _ rfl rfl)
      · refine T_aload_n (am_dec tX1_fits_0 33 rfl) rfl ?_
        refine T_iload (am_dec tX1_fits_0 34 rfl) rfl ?_
        refine T_callV (as := [aI t]) rfl (am_dec tX1_fits_0 35 rfl) lkX1_35 (show (hfW w hb sp rb rs hb po ro ee hh ss uu vv pp kk rr tt gg aa dd bd ga im)[64]? = some (cO 8 [aR ((tt 0 0).toNat), aI (tt 0 1), aI (tt 0 2), aI (tt 0 3), aI (tt 0 4), aI (tt 0 5), aR 65, aR 66, aR 67, aR 68, aR 69, aR 70, aR 71, aR 72, aR 73]) from (hfW_c hl 64 (by decide))) rfl rfl (Nat.le_of_ble_eq_true rfl) (by omega) (am_OutE (m_upTo (d := d - 1) (w := hfW w hb sp rb rs hb po ro ee hh ss uu vv pp kk rr tt gg aa dd bd ga im) (hf_le hl (by omega)) (by omega) (hf_H hl hp) (HbI_A hI) t hTI.1 hTI.2.1 hTI.2.2 (by omega)) (hf_uT htb) (hf_uT (f_upTo_tb hTI.1 htb t))) (fun _ => ?_)
        refine T_nmH (W := fun x9 => hfW w hb sp rb rs hb po ro ee hh ss uu vv pp kk rr x9 gg aa dd bd ga im) (v := f_upTo hh tt t) (fun tt69 htt69 => ?_)
        have hItt69 : RnI tt69 := by rw [htt69]; exact f_upTo_I (HbI_A hI) hTI
        have hTtt69 : (tt69 0 0).toNat = hb := by rw [htt69]; exact f_upTo_tb hTI.1 htb t
        refine T_aload_n (am_dec tX1_fits_0 36 rfl) rfl ?_
        refine T_aload_n (am_dec tX1_fits_0 37 rfl) rfl ?_
        refine T_iload (am_dec tX1_fits_0 38 rfl) rfl ?_
        refine T_callS (as := [aR 64, aR 86, aI t]) rfl (am_dec tX1_fits_0 39 rfl) lkX1_94 rfl (Nat.le_of_ble_eq_true rfl) (by omega) (mc_areRightIn (d := d - 1) hl hp hr t  hI hItt69 hTtt69 hG (by omega)) (fun _ => ?_)
        refine T_nm (fun z76 hz76 => ?_)
        have hb76 := c_areRightIn_b tt69 ga t
        rw [← hz76] at hb76
        refine T_if_ne 84 (am_dec tX1_fits_1 0 rfl) rfl (fun h79 => ?_) (fun h79 => ?_)
        · refine T_aload_n (am_dec tX1_fits_1 3 rfl) rfl ?_
          refine T_aload_n (am_dec tX1_fits_1 4 rfl) rfl ?_
          refine T_iload (am_dec tX1_fits_1 5 rfl) rfl ?_
          refine T_callV (as := [aR 54, aI t]) rfl (am_dec tX1_fits_1 6 rfl) lkX1_97 (show (hfW w hb sp rb rs hb po ro ee hh ss uu vv pp kk rr tt69 gg aa dd bd ga im)[64]? = some (cO 8 [aR ((tt69 0 0).toNat), aI (tt69 0 1), aI (tt69 0 2), aI (tt69 0 3), aI (tt69 0 4), aI (tt69 0 5), aR 65, aR 66, aR 67, aR 68, aR 69, aR 70, aR 71, aR 72, aR 73]) from (hfW_c hl 64 (by decide))) rfl rfl (Nat.le_of_ble_eq_true rfl) (by omega) (m_stands (d := d - 1) (hf_TH hl hTtt69) (hf_H hl hp) (HbI_A hI).1 (hf_R hl) hItt69.2.1 hRI.2.1 (by omega) t) (fun _ => ?_)
          refine T_nm (fun z88 hz88 => ?_)
          have hb88 := f_stands_b tt69 rr hh t
          rw [← hz88] at hb88
          refine T_if_eq 109 (am_dec tX1_fits_1 7 rfl) rfl (fun h91 => ?_) (fun h91 => ?_)
          · refine T_iinc (ls' := [some (aR 83), some (aR 54), some (aR 64), some (aR 86), none, none, some (aI (t + 1))]) (t + 1) (am_dec tX1_fits_1 16 rfl) rfl rfl ⟨by omega, by omega⟩ (by decide) rfl ?_
            refine T_goto 50 (am_dec tX1_fits_1 17 rfl) rfl ?_
            have e9 : (w_c_fits_50 hh rr dd ga) (t, tt) = .inl (t + 1, tt69) := (by have s9 := htt69.symm; subst s9; have s9 := hz76.symm; subst s9; have s9 := hz88.symm; subst s9; exact ((if_neg h56).trans ((if_neg h63).trans ((if_neg h79).trans (if_pos h91)))))
            simp only [am_wr_l e9] at k9
            exact ih (t + 1) tt69 (by omega) ⟨⟨hItt69, hTtt69⟩, by omega, by omega⟩ k9
          · refine T_aload_n (am_dec tX1_fits_1 8 rfl) rfl ?_
            refine T_getfield 1 5 (am_dec tX1_fits_1 9 rfl) flX1_84_1 (show (hfW w hb sp rb rs hb po ro ee hh ss uu vv pp kk rr tt69 gg aa dd bd ga im)[83]? = some (cO 1 [aI (dd 0 0), aI (dd 0 1), aI (dd 0 2), aI (dd 0 3), aI (dd 0 4), aI (dd 0 5), aI (dd 0 6)]) from (hfW_c hl 83 (by decide))) rfl ?_
            refine T_iload (am_dec tX1_fits_1 10 rfl) rfl ?_
            have K100 : ∀ (t100 : Int), t100 = (if t < dd 0 5 then 0 else 1) →  am_T S zX1_fits d u Q 108 [none, none, none, none, none, none, none] [aI t100] (hfW w hb sp rb rs hb po ro ee hh ss uu vv pp kk rr tt69 gg aa dd bd ga im) := by
              intro t100 ht100 
              have hbt100 : t100 = 0 ∨ t100 = 1 := by
                rw [ht100]
                try dsimp only
                repeat' split
                all_goals first | exact Or.inl rfl | exact Or.inr rfl | apply c_guardsAll_b | apply c_isRight54_b | apply c_isRight64_b | apply c_areRight_b | apply c_areRightIn_b | omega
              exact T_zreturn (am_dec tX1_fits_1 15 rfl) rfl (by first | exact Or.inl rfl | exact Or.inr rfl | omega) (by have e9 : (w_c_fits_50 hh rr dd ga) (t, tt) = .inr (t100, tt69) := (by have s9 := htt69.symm; subst s9; have s9 := hz76.symm; subst s9; have s9 := hz88.symm; subst s9; have s9 := ht100.symm; subst s9; exact ((if_neg h56).trans ((if_neg h63).trans ((if_neg h79).trans (if_neg h91))))); simp only [am_wr_r e9] at k9; exact k9 _ _ rfl rfl)
            refine T_icmp_gt 107 (am_dec tX1_fits_1 11 rfl) rfl (fun h100 => ?_) (fun h100 => ?_)
            · refine T_iconst 0 (am_dec tX1_fits_1 14 rfl) rfl ⟨by decide, by decide⟩ ?_
              refine T_weak (ls' := [none, none, none, none, none, none, none]) (am_sub_n (am_sub_n (am_sub_n (am_sub_n (am_sub_n (am_sub_n (am_sub_n am_sub_nil))))))) ?_
              exact K100 _ (if_pos h100).symm 
            · refine T_iconst 1 (am_dec tX1_fits_1 12 rfl) rfl ⟨by decide, by decide⟩ ?_
              refine T_goto 108 (am_dec tX1_fits_1 13 rfl) rfl ?_
              refine T_weak (ls' := [none, none, none, none, none, none, none]) (am_sub_n (am_sub_n (am_sub_n (am_sub_n (am_sub_n (am_sub_n (am_sub_n am_sub_nil))))))) ?_
              exact K100 _ (if_neg h100).symm 
        · refine T_iconst 0 (am_dec tX1_fits_1 1 rfl) rfl ⟨by decide, by decide⟩ ?_
          exact T_zreturn (am_dec tX1_fits_1 2 rfl) rfl (by first | exact Or.inl rfl | exact Or.inr rfl | omega) (by have e9 : (w_c_fits_50 hh rr dd ga) (t, tt) = .inr (0, tt69) := (by have s9 := htt69.symm; subst s9; have s9 := hz76.symm; subst s9; exact ((if_neg h56).trans ((if_neg h63).trans (if_pos h79)))); simp only [am_wr_r e9] at k9; exact k9 _ _ rfl rfl)
def c_fits (hb : Nat) (hh : am_F) (rr : am_F) (tt : am_F) (dd : am_F) (ga : am_F) (s : Int) (c : Int) : Int × am_F := (if s ≤ dd 0 6 then (let f16 : Int := f_fogOn rr c s; (if f16 = 0 then (let t28 : Int := (if s ≤ dd 0 5 then 0 else 1); (t28, tt)) else (let tt43 : am_F := f_duelT hb tt rr s c; (let rv_50 : Int := (am_wr (w_c_fits_50 hh rr dd ga) (0, (fun _ _ => 0)) 41 (s, tt43)).1; (let tt50 : am_F := (am_wr (w_c_fits_50 hh rr dd ga) (0, (fun _ _ => 0)) 41 (s, tt43)).2; (rv_50, tt50)))))) else (1, tt))
theorem mc_fits {S : am_S} {d u : Nat} {w : AH} {hb sp rb rs : Nat} {po ro : AV} (hl : 109 ≤ w.length) (hp : hb = 1 ∧ sp = 21 ∨ hb = 21 ∧ sp = 1) (hr : rb = 41 ∧ rs = 46 ∨ rb = 46 ∧ rs = 41) {ee : am_F} {hh : am_F} {ss : am_F} {uu : am_F} {vv : am_F} {pp : am_F} {kk : am_F} {rr : am_F} {tt : am_F} {gg : am_F} {aa : am_F} {dd : am_F} {bd : am_F} {ga : am_F} {im : am_F} (s : Int) (c : Int) (hI : HbI hh) (hRI : RnI rr) (hTI : RnI tt) (hG : GaI ga) (hs : 0 ≤ s ∧ s < 40) (hc : 0 ≤ c ∧ c ≤ 88)  (hd : 6 ≤ d) : am_Out S zX1_fits d u [aR 83, aR 54, aR 64, aR 86, aI s, aI c] (hfW w hb sp rb rs hb po ro ee hh ss uu vv pp kk rr tt gg aa dd bd ga im) (.inl (some (aI ((c_fits hb hh rr tt dd ga s c).1)))) (hfW w hb sp rb rs hb po ro ee hh ss uu vv pp kk rr ((c_fits hb hh rr tt dd ga s c).2) gg aa dd bd ga im) := by
  have key : ∀ Q : AO → AH → Prop, Q (.inl (some (aI ((c_fits hb hh rr tt dd ga s c).1)))) (hfW w hb sp rb rs hb po ro ee hh ss uu vv pp kk rr ((c_fits hb hh rr tt dd ga s c).2) gg aa dd bd ga im) → am_M S zX1_fits d u [aR 83, aR 54, aR 64, aR 86, aI s, aI c] (hfW w hb sp rb rs hb po ro ee hh ss uu vv pp kk rr tt gg aa dd bd ga im) Q := by
    intro Q hQ
    refine am_body rfl (by decide +kernel) rfl (am_cats_cons rfl ( am_cats_cons rfl ( am_cats_cons rfl ( am_cats_cons rfl ( am_cats_cons rfl ( am_cats_cons rfl (am_cats_nil))))))) (Nat.le_of_ble_eq_true rfl) (?_ : am_T _ _ _ _ _ 0 [some (aR 83), some (aR 54), some (aR 64), some (aR 86), some (aI s), some (aI c), none] [] (hfW w hb sp rb rs hb po ro ee hh ss uu vv pp kk rr tt gg aa dd bd ga im))
    obtain ⟨vh1, vh2, vh3, vh4, vh5, vh6, vh7, vh8, vh9, vh10, vh11, vh12, vh13, vh14, vh15, vh16, vh17, vh18, vh19, vh20, vh21, vh22⟩ := (HbI_A hI).1
    have hG9 := hG
    obtain ⟨vg0, ⟨vg1, vg2⟩, vg3⟩ := hG9
    refine T_iload (am_dec tX1_fits_0 0 rfl) rfl ?_
    refine T_aload_n (am_dec tX1_fits_0 1 rfl) rfl ?_
    refine T_getfield 1 6 (am_dec tX1_fits_0 2 rfl) flX1_81_1 (show (hfW w hb sp rb rs hb po ro ee hh ss uu vv pp kk rr tt gg aa dd bd ga im)[83]? = some (cO 1 [aI (dd 0 0), aI (dd 0 1), aI (dd 0 2), aI (dd 0 3), aI (dd 0 4), aI (dd 0 5), aI (dd 0 6)]) from (hfW_c hl 83 (by decide))) rfl ?_
    refine T_icmp_le 11 (am_dec tX1_fits_0 3 rfl) rfl (fun h6 => ?_) (fun h6 => ?_)
    · refine T_aload_n (am_dec tX1_fits_0 6 rfl) rfl ?_
      refine T_iload (am_dec tX1_fits_0 7 rfl) rfl ?_
      refine T_iload (am_dec tX1_fits_0 8 rfl) rfl ?_
      refine T_callV (as := [aI c, aI s]) rfl (am_dec tX1_fits_0 9 rfl) lkX1_15 (show (hfW w hb sp rb rs hb po ro ee hh ss uu vv pp kk rr tt gg aa dd bd ga im)[54]? = some (cO 8 [aR hb, aI (rr 0 1), aI (rr 0 2), aI (rr 0 3), aI (rr 0 4), aI (rr 0 5), aR 55, aR 56, aR 57, aR 58, aR 59, aR 60, aR 61, aR 62, aR 63]) from (hfW_c hl 54 (by decide))) rfl rfl (Nat.le_of_ble_eq_true rfl) (by omega) (m_fogOn (d := d - 1) (hf_R hl) (by omega) c s) (fun _ => ?_)
      refine T_nm (fun f16 hf16 => ?_)
      obtain ⟨p16, q16⟩ := f_fogOn_b hRI.2.1 c s
      rw [← hf16] at p16 q16
      refine T_if_ne 37 (am_dec tX1_fits_0 10 rfl) rfl (fun h19 => ?_) (fun h19 => ?_)
      · refine T_aload_n (am_dec tX1_fits_0 19 rfl) rfl ?_
        refine T_aload_n (am_dec tX1_fits_0 20 rfl) rfl ?_
        refine T_iload (am_dec tX1_fits_0 21 rfl) rfl ?_
        refine T_iload (am_dec tX1_fits_0 22 rfl) rfl ?_
        refine T_callV (as := [aR 54, aI s, aI c]) rfl (am_dec tX1_fits_0 23 rfl) lkX1_90 (show (hfW w hb sp rb rs hb po ro ee hh ss uu vv pp kk rr tt gg aa dd bd ga im)[64]? = some (cO 8 [aR ((tt 0 0).toNat), aI (tt 0 1), aI (tt 0 2), aI (tt 0 3), aI (tt 0 4), aI (tt 0 5), aR 65, aR 66, aR 67, aR 68, aR 69, aR 70, aR 71, aR 72, aR 73]) from (hfW_c hl 64 (by decide))) rfl rfl (Nat.le_of_ble_eq_true rfl) (by omega) (am_OutE (m_duel (d := d - 1) (w := hfW w hb sp rb rs hb po ro ee hh ss uu vv pp kk rr tt gg aa dd bd ga im) (hf_le hl (by omega)) (by omega) (hf_R hl) (by omega) (hf_H hl hp) (HbI_A hI).1 hTI.2.1 hRI.2.1 s c (by omega)) (hf_uT rfl) hf_uTb) (fun _ => ?_)
        refine T_nmH (W := fun x9 => hfW w hb sp rb rs hb po ro ee hh ss uu vv pp kk rr x9 gg aa dd bd ga im) (v := f_duelT hb tt rr s c) (fun tt43 htt43 => ?_)
        have hItt43 : RnI tt43 := by rw [htt43]; exact f_duel_I hTI hRI.2.1 (by omega)
        have hTtt43 : (tt43 0 0).toNat = hb := by rw [htt43]; rfl
        refine T_iload (am_dec tX1_fits_0 24 rfl) rfl ?_
        refine T_istore (ls' := [some (aR 83), some (aR 54), some (aR 64), some (aR 86), some (aI s), some (aI c), some (aI s)]) (am_dec tX1_fits_0 25 rfl) (by decide) rfl ?_
        refine T_weak (ls' := [some (aR 83), some (aR 54), some (aR 64), some (aR 86), none, none, some (aI s)]) (am_sub_s (am_sub_s (am_sub_s (am_sub_s (am_sub_n (am_sub_n (am_sub_s am_sub_nil))))))) ?_
        refine L_c_fits_50 hl hp hr ee hh ss uu vv pp kk rr gg aa dd bd ga im hI hRI hG  (by omega) 41 s tt43 (by omega) ⟨⟨hItt43, hTtt43⟩, by omega, by omega⟩ (fun rv_50 tt50 hrv_50 htt50 => ?_)
        exact (am_tr (fun (x9 : Int × am_F) => Q (.inl (some (aI (x9.1)))) (hfW w hb sp rb rs hb po ro ee hh ss uu vv pp kk rr x9.2 gg aa dd bd ga im)) (y := (rv_50, tt50)) (show (c_fits hb hh rr tt dd ga s c) = (rv_50, tt50) from (by have s9 := hf16.symm; subst s9; have s9 := htt43.symm; subst s9; have s9 := hrv_50.symm; subst s9; have s9 := htt50.symm; subst s9; exact ((if_pos h6).trans (if_neg h19)))) hQ)
      · refine T_aload_n (am_dec tX1_fits_0 11 rfl) rfl ?_
        refine T_getfield 1 5 (am_dec tX1_fits_0 12 rfl) flX1_84_1 (show (hfW w hb sp rb rs hb po ro ee hh ss uu vv pp kk rr tt gg aa dd bd ga im)[83]? = some (cO 1 [aI (dd 0 0), aI (dd 0 1), aI (dd 0 2), aI (dd 0 3), aI (dd 0 4), aI (dd 0 5), aI (dd 0 6)]) from (hfW_c hl 83 (by decide))) rfl ?_
        refine T_iload (am_dec tX1_fits_0 13 rfl) rfl ?_
        have K28 : ∀ (t28 : Int), t28 = (if s ≤ dd 0 5 then 0 else 1) →  am_T S zX1_fits d u Q 36 [none, none, none, none, none, none, none] [aI t28] (hfW w hb sp rb rs hb po ro ee hh ss uu vv pp kk rr tt gg aa dd bd ga im) := by
          intro t28 ht28 
          have hbt28 : t28 = 0 ∨ t28 = 1 := by
            rw [ht28]
            try dsimp only
            repeat' split
            all_goals first | exact Or.inl rfl | exact Or.inr rfl | apply c_guardsAll_b | apply c_isRight54_b | apply c_isRight64_b | apply c_areRight_b | apply c_areRightIn_b | omega
          exact T_zreturn (am_dec tX1_fits_0 18 rfl) rfl (by first | exact Or.inl rfl | exact Or.inr rfl | omega) (am_tr (fun (x9 : Int × am_F) => Q (.inl (some (aI (x9.1)))) (hfW w hb sp rb rs hb po ro ee hh ss uu vv pp kk rr x9.2 gg aa dd bd ga im)) (y := (t28, tt)) (show (c_fits hb hh rr tt dd ga s c) = (t28, tt) from (by have s9 := hf16.symm; subst s9; have s9 := ht28.symm; subst s9; exact ((if_pos h6).trans (if_pos h19)))) hQ)
        refine T_icmp_ge 35 (am_dec tX1_fits_0 14 rfl) rfl (fun h28 => ?_) (fun h28 => ?_)
        · refine T_iconst 0 (am_dec tX1_fits_0 17 rfl) rfl ⟨by decide, by decide⟩ ?_
          refine T_weak (ls' := [none, none, none, none, none, none, none]) (am_sub_n (am_sub_n (am_sub_n (am_sub_n (am_sub_n (am_sub_n (am_sub_n am_sub_nil))))))) ?_
          exact K28 _ (if_pos h28).symm 
        · refine T_iconst 1 (am_dec tX1_fits_0 15 rfl) rfl ⟨by decide, by decide⟩ ?_
          refine T_goto 36 (am_dec tX1_fits_0 16 rfl) rfl ?_
          refine T_weak (ls' := [none, none, none, none, none, none, none]) (am_sub_n (am_sub_n (am_sub_n (am_sub_n (am_sub_n (am_sub_n (am_sub_n am_sub_nil))))))) ?_
          exact K28 _ (if_neg h28).symm 
    · refine T_iconst 1 (am_dec tX1_fits_0 4 rfl) rfl ⟨by decide, by decide⟩ ?_
      exact T_zreturn (am_dec tX1_fits_0 5 rfl) rfl (by first | exact Or.inl rfl | exact Or.inr rfl | omega) (am_tr (fun (x9 : Int × am_F) => Q (.inl (some (aI (x9.1)))) (hfW w hb sp rb rs hb po ro ee hh ss uu vv pp kk rr x9.2 gg aa dd bd ga im)) (y := (1, tt)) (show (c_fits hb hh rr tt dd ga s c) = (1, tt) from (if_neg h6)) hQ)
  exact key _ ⟨rfl, rfl⟩
