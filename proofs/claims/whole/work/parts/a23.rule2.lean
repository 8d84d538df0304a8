/-! rule: at fault, read -/
theorem c_ruleInto_x {ee vv kk : am_F} (t : TpI ee) (hv : RvI vv) (hk : RdI kk) : RvI (c_ruleInto ee vv kk).1 ∧ RdI (c_ruleInto ee vv kk).2 := by
  unfold c_ruleInto
  exact am_wh_iv (P := fun (x : Int × am_F × am_F) => RvI x.2.1 ∧ RdI x.2.2) (fun x y hx hf => by
    unfold w_c_ruleInto_14 at hf
    dsimp only at hf
    repeat' split at hf
    all_goals first
      | cases hf; done
      | (cases hf; exact c_readPart_x t hx.1 (c_peek_x hx.2 t).1 _)) (fun x y hx hf => by
    unfold w_c_ruleInto_14 at hf
    dsimp only at hf
    repeat' split at hf
    all_goals first
      | (cases hf; exact hx)
      | (cases hf; exact ⟨hx.1, (c_peek_x hx.2 t).1⟩)
      | cases hf) 201 (0, _, kk) ⟨f_rreset_I hv.1, hk⟩
def c_ruleF (ee : am_F) (vv : am_F) (kk : am_F) (n : Int) : Int × am_F × am_F × am_F := (let kk26 : am_F := c_begin kk n; (let u37 : am_F × am_F := c_ruleInto (am_put ee 0 7 0) vv kk26; ((am_w32 (((u37).2 0 4) - 10)), (am_put (am_put ee 0 7 0) 0 8 ((u37).2 0 5)), (u37).1, (u37).2)))
theorem mc_ruleF {S : am_S} {d u : Nat} {w : AH} {hb sp rb rs : Nat} {po ro : AV} (hl : 109 ≤ w.length) (hp : hb = 1 ∧ sp = 21 ∨ hb = 21 ∧ sp = 1) (hr : rb = 41 ∧ rs = 46 ∨ rb = 46 ∧ rs = 41) {ee : am_F} {hh : am_F} {ss : am_F} {uu : am_F} {vv : am_F} {pp : am_F} {kk : am_F} {rr : am_F} {tt : am_F} {gg : am_F} {aa : am_F} {dd : am_F} {bd : am_F} {ga : am_F} {im : am_F} (n : Int) (hN : n_range n 0 (if 200 < ee 0 7 then 200 else ee 0 7) = 0) (hE : 0 ≤ ee 0 7 ∧ ee 0 7 ≤ 600) (hTp : TpI ee) (hV : RvI vv) (hF : (c_ruleInto (am_put ee 0 7 0) vv (c_begin kk n)).2 0 4 ≠ 0)  (hd : 36 ≤ d) : am_Out S zX11_rule d u [aR 0, aI n] (hfW w hb sp rb rs hb po ro ee hh ss uu vv pp kk rr tt gg aa dd bd ga im) (.inl (some (aI ((c_ruleF ee vv kk n).1)))) (hfW w hb sp rb rs hb po (aR rs) ((c_ruleF ee vv kk n).2.1) hh ss uu ((c_ruleF ee vv kk n).2.2.1) pp ((c_ruleF ee vv kk n).2.2.2) rr tt gg aa dd bd ga im) := by
  have key : ∀ Q : AO → AH → Prop, Q (.inl (some (aI ((c_ruleF ee vv kk n).1)))) (hfW w hb sp rb rs hb po (aR rs) ((c_ruleF ee vv kk n).2.1) hh ss uu ((c_ruleF ee vv kk n).2.2.1) pp ((c_ruleF ee vv kk n).2.2.2) rr tt gg aa dd bd ga im) → am_M S zX11_rule d u [aR 0, aI n] (hfW w hb sp rb rs hb po ro ee hh ss uu vv pp kk rr tt gg aa dd bd ga im) Q := by
    intro Q hQ
    refine am_body rfl (by decide +kernel) rfl (am_cats_cons rfl ( am_cats_cons rfl (am_cats_nil))) (Nat.le_of_ble_eq_true rfl) (?_ : am_T _ _ _ _ _ 0 [some (aR 0), some (aI n), none] [] (hfW w hb sp rb rs hb po ro ee hh ss uu vv pp kk rr tt gg aa dd bd ga im))
    have hk9 := n_range_0 hN
    refine T_aload_n (am_dec tX11_rule_0 0 rfl) rfl ?_
    refine T_iload_n (am_dec tX11_rule_0 1 rfl) rfl ?_
    refine T_iconst 0 (am_dec tX11_rule_0 2 rfl) rfl ⟨by decide, by decide⟩ ?_
    refine T_aload_n (am_dec tX11_rule_0 3 rfl) rfl ?_
    refine T_getfield 10 7 (am_dec tX11_rule_0 4 rfl) flX11_111_10 (show (hfW w hb sp rb rs hb po ro ee hh ss uu vv pp kk rr tt gg aa dd bd ga im)[0]? = some (cO 10 [aR hb, aR sp, aR rb, aR rs, aR 52, aR 53, aR 51, aI (ee 0 7), aI (ee 0 8), aR 54, aR 64, aR 74, aR 77, aR 83, aR 84, aR 86, aR 88, aI (ee 0 17), aR 107, aR 108]) from (hfW_c hl 0 (by decide))) rfl ?_
    refine T_sipush 200 (am_dec tX11_rule_0 5 rfl) rfl ⟨by decide, by decide⟩ ?_
    refine T_mmin (am_dec tX11_rule_0 6 rfl) lkX11_269 (Nat.le_of_ble_eq_true rfl) (by omega) ?_
    obtain ⟨m10, hm10⟩ : ∃ x9 : Int, x9 = (if 200 < ee 0 7 then 200 else ee 0 7) := ⟨_, rfl⟩
    rw [← hm10]
    refine T_callV (as := [aI n, aI 0, aI m10]) rfl (am_dec tX11_rule_0 7 rfl) lkX11_117 (show (hfW w hb sp rb rs hb po ro ee hh ss uu vv pp kk rr tt gg aa dd bd ga im)[0]? = some (cO 10 [aR hb, aR sp, aR rb, aR rs, aR 52, aR 53, aR 51, aI (ee 0 7), aI (ee 0 8), aR 54, aR 64, aR 74, aR 77, aR 83, aR 84, aR 86, aR 88, aI (ee 0 17), aR 107, aR 108]) from (hfW_c hl 0 (by decide))) rfl rfl (Nat.le_of_ble_eq_true rfl) (by omega) (mx_range0 (d := d - 1) hl hp hr n 0 m10 (by rw [hm10]; exact hN) (by omega)) (fun _ => ?_)
    refine T_aload_n (am_dec tX11_rule_0 8 rfl) rfl ?_
    refine T_iconst 0 (am_dec tX11_rule_0 9 rfl) rfl ⟨by decide, by decide⟩ ?_
    refine T_putfield (fs' := [aR hb, aR sp, aR rb, aR rs, aR 52, aR 53, aR 51, aI 0, aI (ee 0 8), aR 54, aR 64, aR 74, aR 77, aR 83, aR 84, aR 86, aR 88, aI (ee 0 17), aR 107, aR 108]) 10 7 (am_dec tX11_rule_0 10 rfl) flX11_111_10 rfl rfl rfl trivial (show (hfW w hb sp rb rs hb po ro ee hh ss uu vv pp kk rr tt gg aa dd bd ga im)[0]? = some (cO 10 [aR hb, aR sp, aR rb, aR rs, aR 52, aR 53, aR 51, aI (ee 0 7), aI (ee 0 8), aR 54, aR 64, aR 74, aR 77, aR 83, aR 84, aR 86, aR 88, aI (ee 0 17), aR 107, aR 108]) from (hfW_c hl 0 (by decide))) (Nat.le_of_ble_eq_true rfl) rfl ?_
    refine am_wE (w2 := hfW w hb sp rb rs hb po ro (am_put ee 0 7 0) hh ss uu vv pp kk rr tt gg aa dd bd ga im) (hf_f7 hl) ?_
    refine T_aload_n (am_dec tX11_rule_0 11 rfl) rfl ?_
    refine T_getfield 10 5 (am_dec tX11_rule_0 12 rfl) flX11_45_10 (show (hfW w hb sp rb rs hb po ro (am_put ee 0 7 0) hh ss uu vv pp kk rr tt gg aa dd bd ga im)[0]? = some (cO 10 [aR hb, aR sp, aR rb, aR rs, aR 52, aR 53, aR 51, aI 0, aI (ee 0 8), aR 54, aR 64, aR 74, aR 77, aR 83, aR 84, aR 86, aR 88, aI (ee 0 17), aR 107, aR 108]) from (hfW_c hl 0 (by decide))) rfl ?_
    refine T_iload_n (am_dec tX11_rule_0 13 rfl) rfl ?_
    refine T_callU (as := [aI n]) rfl (am_dec tX11_rule_0 14 rfl) lkX11_342_X8 (show (hfW w hb sp rb rs hb po ro (am_put ee 0 7 0) hh ss uu vv pp kk rr tt gg aa dd bd ga im)[53]? = some (cO 7 [aR 51, aI (kk 0 1), aI (kk 0 2), aI (kk 0 3), aI (kk 0 4), aI (kk 0 5), ro]) from (hfW_c hl 53 (by decide))) rfl rfl (Nat.le_of_ble_eq_true rfl) (by omega) (md_begin (d := d - 1) hl hp hr n  (by omega) (by omega)) (fun _ => ?_)
    refine T_nmH (W := fun x9 => hfW w hb sp rb rs hb po ro (am_put ee 0 7 0) hh ss uu vv pp x9 rr tt gg aa dd bd ga im) (v := c_begin kk n) (fun kk26 hkk26 => ?_)
    have hIkk26 : RdI kk26 := by rw [hkk26]; exact (c_begin_I (by omega)).1
    refine T_aload_n (am_dec tX11_rule_0 15 rfl) rfl ?_
    refine T_getfield 10 5 (am_dec tX11_rule_0 16 rfl) flX11_45_10 (show (hfW w hb sp rb rs hb po ro (am_put ee 0 7 0) hh ss uu vv pp kk26 rr tt gg aa dd bd ga im)[0]? = some (cO 10 [aR hb, aR sp, aR rb, aR rs, aR 52, aR 53, aR 51, aI 0, aI (ee 0 8), aR 54, aR 64, aR 74, aR 77, aR 83, aR 84, aR 86, aR 88, aI (ee 0 17), aR 107, aR 108]) from (hfW_c hl 0 (by decide))) rfl ?_
    refine T_aload_n (am_dec tX11_rule_0 17 rfl) rfl ?_
    refine T_getfield 10 3 (am_dec tX11_rule_0 18 rfl) flX11_26_10 (show (hfW w hb sp rb rs hb po ro (am_put ee 0 7 0) hh ss uu vv pp kk26 rr tt gg aa dd bd ga im)[0]? = some (cO 10 [aR hb, aR sp, aR rb, aR rs, aR 52, aR 53, aR 51, aI 0, aI (ee 0 8), aR 54, aR 64, aR 74, aR 77, aR 83, aR 84, aR 86, aR 88, aI (ee 0 17), aR 107, aR 108]) from (hfW_c hl 0 (by decide))) rfl ?_
    refine T_callV (as := [aR rs]) rfl (am_dec tX11_rule_0 19 rfl) lkX11_343 (show (hfW w hb sp rb rs hb po ro (am_put ee 0 7 0) hh ss uu vv pp kk26 rr tt gg aa dd bd ga im)[53]? = some (cO 7 [aR 51, aI (kk26 0 1), aI (kk26 0 2), aI (kk26 0 3), aI (kk26 0 4), aI (kk26 0 5), ro]) from (hfW_c hl 53 (by decide))) rfl rfl (Nat.le_of_ble_eq_true rfl) (by omega) (mc_ruleInto (d := d - 1) (ro := ro) hl hp hr hIkk26 hTp hV (by omega)) (fun _ => ?_)
    obtain ⟨u37, hu37⟩ : ∃ x9, x9 = c_ruleInto (am_put ee 0 7 0) vv kk26 := ⟨_, rfl⟩
    rw [← hu37]
    have hTp7 : TpI (am_put ee 0 7 0) := hTp
    have hVu37 : RvI u37.1 := by rw [hu37]; exact (c_ruleInto_x hTp7 hV hIkk26).1
    refine T_aload_n (am_dec tX11_rule_0 20 rfl) rfl ?_
    refine T_aload_n (am_dec tX11_rule_0 21 rfl) rfl ?_
    refine T_getfield 10 5 (am_dec tX11_rule_0 22 rfl) flX11_45_10 (show (hfW w hb sp rb rs hb po (aR rs) (am_put ee 0 7 0) hh ss uu ((u37).1) pp ((u37).2) rr tt gg aa dd bd ga im)[0]? = some (cO 10 [aR hb, aR sp, aR rb, aR rs, aR 52, aR 53, aR 51, aI 0, aI (ee 0 8), aR 54, aR 64, aR 74, aR 77, aR 83, aR 84, aR 86, aR 88, aI (ee 0 17), aR 107, aR 108]) from (hfW_c hl 0 (by decide))) rfl ?_
    refine T_getfield 7 5 (am_dec tX11_rule_0 23 rfl) flX11_346_7 (show (hfW w hb sp rb rs hb po (aR rs) (am_put ee 0 7 0) hh ss uu ((u37).1) pp ((u37).2) rr tt gg aa dd bd ga im)[53]? = some (cO 7 [aR 51, aI ((u37).2 0 1), aI ((u37).2 0 2), aI ((u37).2 0 3), aI ((u37).2 0 4), aI ((u37).2 0 5), aR rs]) from (hfW_c hl 53 (by decide))) rfl ?_
    refine T_putfield (fs' := [aR hb, aR sp, aR rb, aR rs, aR 52, aR 53, aR 51, aI 0, aI ((u37).2 0 5), aR 54, aR 64, aR 74, aR 77, aR 83, aR 84, aR 86, aR 88, aI (ee 0 17), aR 107, aR 108]) 10 8 (am_dec tX11_rule_0 24 rfl) flX11_49_10 rfl rfl rfl trivial (show (hfW w hb sp rb rs hb po (aR rs) (am_put ee 0 7 0) hh ss uu ((u37).1) pp ((u37).2) rr tt gg aa dd bd ga im)[0]? = some (cO 10 [aR hb, aR sp, aR rb, aR rs, aR 52, aR 53, aR 51, aI 0, aI (ee 0 8), aR 54, aR 64, aR 74, aR 77, aR 83, aR 84, aR 86, aR 88, aI (ee 0 17), aR 107, aR 108]) from (hfW_c hl 0 (by decide))) (Nat.le_of_ble_eq_true rfl) rfl ?_
    refine am_wE (w2 := hfW w hb sp rb rs hb po (aR rs) (am_put (am_put ee 0 7 0) 0 8 ((u37).2 0 5)) hh ss uu ((u37).1) pp ((u37).2) rr tt gg aa dd bd ga im) (hf_f8 hl) ?_
    refine T_aload_n (am_dec tX11_rule_0 25 rfl) rfl ?_
    refine T_getfield 10 5 (am_dec tX11_rule_0 26 rfl) flX11_45_10 (show (hfW w hb sp rb rs hb po (aR rs) (am_put (am_put ee 0 7 0) 0 8 ((u37).2 0 5)) hh ss uu ((u37).1) pp ((u37).2) rr tt gg aa dd bd ga im)[0]? = some (cO 10 [aR hb, aR sp, aR rb, aR rs, aR 52, aR 53, aR 51, aI 0, aI ((u37).2 0 5), aR 54, aR 64, aR 74, aR 77, aR 83, aR 84, aR 86, aR 88, aI (ee 0 17), aR 107, aR 108]) from (hfW_c hl 0 (by decide))) rfl ?_
    refine T_callU (as := []) rfl (am_dec tX11_rule_0 27 rfl) lkX11_347_X8 (show (hfW w hb sp rb rs hb po (aR rs) (am_put (am_put ee 0 7 0) 0 8 ((u37).2 0 5)) hh ss uu ((u37).1) pp ((u37).2) rr tt gg aa dd bd ga im)[53]? = some (cO 7 [aR 51, aI ((u37).2 0 1), aI ((u37).2 0 2), aI ((u37).2 0 3), aI ((u37).2 0 4), aI ((u37).2 0 5), aR rs]) from (hfW_c hl 53 (by decide))) rfl rfl (Nat.le_of_ble_eq_true rfl) (by omega) (md_fine (d := d - 1) hl hp hr    (by omega)) (fun _ => ?_)
    refine T_nm (fun z55 hz55 => ?_)
    have hb55 := c_fine_b ((u37).2)
    rw [← hz55] at hb55
    refine T_if_ne 72 (am_dec tX11_rule_0 28 rfl) rfl (fun h58 => by exfalso; exact h58 (by rw [hz55]; exact c_fine_0 (by rw [hu37, hkk26]; exact hF))) (fun h58 => ?_)
    refine T_aload_n (am_dec tX11_rule_0 29 rfl) rfl ?_
    refine T_getfield 10 5 (am_dec tX11_rule_0 30 rfl) flX11_45_10 (show (hfW w hb sp rb rs hb po (aR rs) (am_put (am_put ee 0 7 0) 0 8 ((u37).2 0 5)) hh ss uu ((u37).1) pp ((u37).2) rr tt gg aa dd bd ga im)[0]? = some (cO 10 [aR hb, aR sp, aR rb, aR rs, aR 52, aR 53, aR 51, aI 0, aI ((u37).2 0 5), aR 54, aR 64, aR 74, aR 77, aR 83, aR 84, aR 86, aR 88, aI (ee 0 17), aR 107, aR 108]) from (hfW_c hl 0 (by decide))) rfl ?_
    refine T_getfield 7 4 (am_dec tX11_rule_0 31 rfl) flX11_348_7 (show (hfW w hb sp rb rs hb po (aR rs) (am_put (am_put ee 0 7 0) 0 8 ((u37).2 0 5)) hh ss uu ((u37).1) pp ((u37).2) rr tt gg aa dd bd ga im)[53]? = some (cO 7 [aR 51, aI ((u37).2 0 1), aI ((u37).2 0 2), aI ((u37).2 0 3), aI ((u37).2 0 4), aI ((u37).2 0 5), aR rs]) from (hfW_c hl 53 (by decide))) rfl ?_
    refine T_bipush 10 (am_dec tX11_rule_0 32 rfl) rfl ⟨by decide, by decide⟩ ?_
    refine T_isubW (am_w32 (((u37).2 0 4) - 10)) (am_dec tX11_rule_0 33 rfl) (am_w32e _).symm (am_w32r _) ?_
    exact T_ireturn (am_dec tX11_rule_0 34 rfl) rfl (am_tr (fun (x9 : Int × am_F × am_F × am_F) => Q (.inl (some (aI (x9.1)))) (hfW w hb sp rb rs hb po (aR rs) x9.2.1 hh ss uu x9.2.2.1 pp x9.2.2.2 rr tt gg aa dd bd ga im)) (y := ((am_w32 (((u37).2 0 4) - 10)), (am_put (am_put ee 0 7 0) 0 8 ((u37).2 0 5)), (u37).1, (u37).2)) (show (c_ruleF ee vv kk n) = ((am_w32 (((u37).2 0 4) - 10)), (am_put (am_put ee 0 7 0) 0 8 ((u37).2 0 5)), (u37).1, (u37).2) from (by have s9 := hm10.symm; subst s9; have s9 := hkk26.symm; subst s9; have s9 := hu37.symm; subst s9; have s9 := hz55.symm; subst s9; exact rfl)) hQ)
  exact key _ ⟨rfl, rfl⟩
def c_ruleOK (ee : am_F) (uu : am_F) (vv : am_F) (kk : am_F) (n : Int) : Int × am_F × am_F × am_F × am_F := (let kk26 : am_F := c_begin kk n; (let u37 : am_F × am_F := c_ruleInto (am_put ee 0 7 0) vv kk26; ((((u37).1) 0 0), (am_put (am_put ee 0 7 0) 0 8 ((u37).2 0 5)), ((u37).1), uu, (u37).2)))
theorem mc_ruleOK {S : am_S} {d u : Nat} {w : AH} {hb sp rb rs : Nat} {po ro : AV} (hl : 109 ≤ w.length) (hp : hb = 1 ∧ sp = 21 ∨ hb = 21 ∧ sp = 1) (hr : rb = 41 ∧ rs = 46 ∨ rb = 46 ∧ rs = 41) {ee : am_F} {hh : am_F} {ss : am_F} {uu : am_F} {vv : am_F} {pp : am_F} {kk : am_F} {rr : am_F} {tt : am_F} {gg : am_F} {aa : am_F} {dd : am_F} {bd : am_F} {ga : am_F} {im : am_F} (n : Int) (hN : n_range n 0 (if 200 < ee 0 7 then 200 else ee 0 7) = 0) (hE : 0 ≤ ee 0 7 ∧ ee 0 7 ≤ 600) (hTp : TpI ee) (hV : RvI vv) (hF : (c_ruleInto (am_put ee 0 7 0) vv (c_begin kk n)).2 0 4 = 0)  (hd : 36 ≤ d) : am_Out S zX11_rule d u [aR 0, aI n] (hfW w hb sp rb rs hb po ro ee hh ss uu vv pp kk rr tt gg aa dd bd ga im) (.inl (some (aI ((c_ruleOK ee uu vv kk n).1)))) (hfW w hb sp rs rb hb po (aR rs) ((c_ruleOK ee uu vv kk n).2.1) hh ss ((c_ruleOK ee uu vv kk n).2.2.1) ((c_ruleOK ee uu vv kk n).2.2.2.1) pp ((c_ruleOK ee uu vv kk n).2.2.2.2) rr tt gg aa dd bd ga im) := by
  have key : ∀ Q : AO → AH → Prop, Q (.inl (some (aI ((c_ruleOK ee uu vv kk n).1)))) (hfW w hb sp rs rb hb po (aR rs) ((c_ruleOK ee uu vv kk n).2.1) hh ss ((c_ruleOK ee uu vv kk n).2.2.1) ((c_ruleOK ee uu vv kk n).2.2.2.1) pp ((c_ruleOK ee uu vv kk n).2.2.2.2) rr tt gg aa dd bd ga im) → am_M S zX11_rule d u [aR 0, aI n] (hfW w hb sp rb rs hb po ro ee hh ss uu vv pp kk rr tt gg aa dd bd ga im) Q := by
    intro Q hQ
    refine am_body rfl (by decide +kernel) rfl (am_cats_cons rfl ( am_cats_cons rfl (am_cats_nil))) (Nat.le_of_ble_eq_true rfl) (?_ : am_T _ _ _ _ _ 0 [some (aR 0), some (aI n), none] [] (hfW w hb sp rb rs hb po ro ee hh ss uu vv pp kk rr tt gg aa dd bd ga im))
    have hk9 := n_range_0 hN
    refine T_aload_n (am_dec tX11_rule_0 0 rfl) rfl ?_
    refine T_iload_n (am_dec tX11_rule_0 1 rfl) rfl ?_
    refine T_iconst 0 (am_dec tX11_rule_0 2 rfl) rfl ⟨by decide, by decide⟩ ?_
    refine T_aload_n (am_dec tX11_rule_0 3 rfl) rfl ?_
    refine T_getfield 10 7 (am_dec tX11_rule_0 4 rfl) flX11_111_10 (show (hfW w hb sp rb rs hb po ro ee hh ss uu vv pp kk rr tt gg aa dd bd ga im)[0]? = some (cO 10 [aR hb, aR sp, aR rb, aR rs, aR 52, aR 53, aR 51, aI (ee 0 7), aI (ee 0 8), aR 54, aR 64, aR 74, aR 77, aR 83, aR 84, aR 86, aR 88, aI (ee 0 17), aR 107, aR 108]) from (hfW_c hl 0 (by decide))) rfl ?_
    refine T_sipush 200 (am_dec tX11_rule_0 5 rfl) rfl ⟨by decide, by decide⟩ ?_
    refine T_mmin (am_dec tX11_rule_0 6 rfl) lkX11_269 (Nat.le_of_ble_eq_true rfl) (by omega) ?_
    obtain ⟨m10, hm10⟩ : ∃ x9 : Int, x9 = (if 200 < ee 0 7 then 200 else ee 0 7) := ⟨_, rfl⟩
    rw [← hm10]
    refine T_callV (as := [aI n, aI 0, aI m10]) rfl (am_dec tX11_rule_0 7 rfl) lkX11_117 (show (hfW w hb sp rb rs hb po ro ee hh ss uu vv pp kk rr tt gg aa dd bd ga im)[0]? = some (cO 10 [aR hb, aR sp, aR rb, aR rs, aR 52, aR 53, aR 51, aI (ee 0 7), aI (ee 0 8), aR 54, aR 64, aR 74, aR 77, aR 83, aR 84, aR 86, aR 88, aI (ee 0 17), aR 107, aR 108]) from (hfW_c hl 0 (by decide))) rfl rfl (Nat.le_of_ble_eq_true rfl) (by omega) (mx_range0 (d := d - 1) hl hp hr n 0 m10 (by rw [hm10]; exact hN) (by omega)) (fun _ => ?_)
    refine T_aload_n (am_dec tX11_rule_0 8 rfl) rfl ?_
    refine T_iconst 0 (am_dec tX11_rule_0 9 rfl) rfl ⟨by decide, by decide⟩ ?_
    refine T_putfield (fs' := [aR hb, aR sp, aR rb, aR rs, aR 52, aR 53, aR 51, aI 0, aI (ee 0 8), aR 54, aR 64, aR 74, aR 77, aR 83, aR 84, aR 86, aR 88, aI (ee 0 17), aR 107, aR 108]) 10 7 (am_dec tX11_rule_0 10 rfl) flX11_111_10 rfl rfl rfl trivial (show (hfW w hb sp rb rs hb po ro ee hh ss uu vv pp kk rr tt gg aa dd bd ga im)[0]? = some (cO 10 [aR hb, aR sp, aR rb, aR rs, aR 52, aR 53, aR 51, aI (ee 0 7), aI (ee 0 8), aR 54, aR 64, aR 74, aR 77, aR 83, aR 84, aR 86, aR 88, aI (ee 0 17), aR 107, aR 108]) from (hfW_c hl 0 (by decide))) (Nat.le_of_ble_eq_true rfl) rfl ?_
    refine am_wE (w2 := hfW w hb sp rb rs hb po ro (am_put ee 0 7 0) hh ss uu vv pp kk rr tt gg aa dd bd ga im) (hf_f7 hl) ?_
    refine T_aload_n (am_dec tX11_rule_0 11 rfl) rfl ?_
    refine T_getfield 10 5 (am_dec tX11_rule_0 12 rfl) flX11_45_10 (show (hfW w hb sp rb rs hb po ro (am_put ee 0 7 0) hh ss uu vv pp kk rr tt gg aa dd bd ga im)[0]? = some (cO 10 [aR hb, aR sp, aR rb, aR rs, aR 52, aR 53, aR 51, aI 0, aI (ee 0 8), aR 54, aR 64, aR 74, aR 77, aR 83, aR 84, aR 86, aR 88, aI (ee 0 17), aR 107, aR 108]) from (hfW_c hl 0 (by decide))) rfl ?_
    refine T_iload_n (am_dec tX11_rule_0 13 rfl) rfl ?_
    refine T_callU (as := [aI n]) rfl (am_dec tX11_rule_0 14 rfl) lkX11_342_X8 (show (hfW w hb sp rb rs hb po ro (am_put ee 0 7 0) hh ss uu vv pp kk rr tt gg aa dd bd ga im)[53]? = some (cO 7 [aR 51, aI (kk 0 1), aI (kk 0 2), aI (kk 0 3), aI (kk 0 4), aI (kk 0 5), ro]) from (hfW_c hl 53 (by decide))) rfl rfl (Nat.le_of_ble_eq_true rfl) (by omega) (md_begin (d := d - 1) hl hp hr n  (by omega) (by omega)) (fun _ => ?_)
    refine T_nmH (W := fun x9 => hfW w hb sp rb rs hb po ro (am_put ee 0 7 0) hh ss uu vv pp x9 rr tt gg aa dd bd ga im) (v := c_begin kk n) (fun kk26 hkk26 => ?_)
    have hIkk26 : RdI kk26 := by rw [hkk26]; exact (c_begin_I (by omega)).1
    refine T_aload_n (am_dec tX11_rule_0 15 rfl) rfl ?_
    refine T_getfield 10 5 (am_dec tX11_rule_0 16 rfl) flX11_45_10 (show (hfW w hb sp rb rs hb po ro (am_put ee 0 7 0) hh ss uu vv pp kk26 rr tt gg aa dd bd ga im)[0]? = some (cO 10 [aR hb, aR sp, aR rb, aR rs, aR 52, aR 53, aR 51, aI 0, aI (ee 0 8), aR 54, aR 64, aR 74, aR 77, aR 83, aR 84, aR 86, aR 88, aI (ee 0 17), aR 107, aR 108]) from (hfW_c hl 0 (by decide))) rfl ?_
    refine T_aload_n (am_dec tX11_rule_0 17 rfl) rfl ?_
    refine T_getfield 10 3 (am_dec tX11_rule_0 18 rfl) flX11_26_10 (show (hfW w hb sp rb rs hb po ro (am_put ee 0 7 0) hh ss uu vv pp kk26 rr tt gg aa dd bd ga im)[0]? = some (cO 10 [aR hb, aR sp, aR rb, aR rs, aR 52, aR 53, aR 51, aI 0, aI (ee 0 8), aR 54, aR 64, aR 74, aR 77, aR 83, aR 84, aR 86, aR 88, aI (ee 0 17), aR 107, aR 108]) from (hfW_c hl 0 (by decide))) rfl ?_
    refine T_callV (as := [aR rs]) rfl (am_dec tX11_rule_0 19 rfl) lkX11_343 (show (hfW w hb sp rb rs hb po ro (am_put ee 0 7 0) hh ss uu vv pp kk26 rr tt gg aa dd bd ga im)[53]? = some (cO 7 [aR 51, aI (kk26 0 1), aI (kk26 0 2), aI (kk26 0 3), aI (kk26 0 4), aI (kk26 0 5), ro]) from (hfW_c hl 53 (by decide))) rfl rfl (Nat.le_of_ble_eq_true rfl) (by omega) (mc_ruleInto (d := d - 1) (ro := ro) hl hp hr hIkk26 hTp hV (by omega)) (fun _ => ?_)
    obtain ⟨u37, hu37⟩ : ∃ x9, x9 = c_ruleInto (am_put ee 0 7 0) vv kk26 := ⟨_, rfl⟩
    rw [← hu37]
    have hTp7 : TpI (am_put ee 0 7 0) := hTp
    have hVu37 : RvI u37.1 := by rw [hu37]; exact (c_ruleInto_x hTp7 hV hIkk26).1
    refine T_aload_n (am_dec tX11_rule_0 20 rfl) rfl ?_
    refine T_aload_n (am_dec tX11_rule_0 21 rfl) rfl ?_
    refine T_getfield 10 5 (am_dec tX11_rule_0 22 rfl) flX11_45_10 (show (hfW w hb sp rb rs hb po (aR rs) (am_put ee 0 7 0) hh ss uu ((u37).1) pp ((u37).2) rr tt gg aa dd bd ga im)[0]? = some (cO 10 [aR hb, aR sp, aR rb, aR rs, aR 52, aR 53, aR 51, aI 0, aI (ee 0 8), aR 54, aR 64, aR 74, aR 77, aR 83, aR 84, aR 86, aR 88, aI (ee 0 17), aR 107, aR 108]) from (hfW_c hl 0 (by decide))) rfl ?_
    refine T_getfield 7 5 (am_dec tX11_rule_0 23 rfl) flX11_346_7 (show (hfW w hb sp rb rs hb po (aR rs) (am_put ee 0 7 0) hh ss uu ((u37).1) pp ((u37).2) rr tt gg aa dd bd ga im)[53]? = some (cO 7 [aR 51, aI ((u37).2 0 1), aI ((u37).2 0 2), aI ((u37).2 0 3), aI ((u37).2 0 4), aI ((u37).2 0 5), aR rs]) from (hfW_c hl 53 (by decide))) rfl ?_
    refine T_putfield (fs' := [aR hb, aR sp, aR rb, aR rs, aR 52, aR 53, aR 51, aI 0, aI ((u37).2 0 5), aR 54, aR 64, aR 74, aR 77, aR 83, aR 84, aR 86, aR 88, aI (ee 0 17), aR 107, aR 108]) 10 8 (am_dec tX11_rule_0 24 rfl) flX11_49_10 rfl rfl rfl trivial (show (hfW w hb sp rb rs hb po (aR rs) (am_put ee 0 7 0) hh ss uu ((u37).1) pp ((u37).2) rr tt gg aa dd bd ga im)[0]? = some (cO 10 [aR hb, aR sp, aR rb, aR rs, aR 52, aR 53, aR 51, aI 0, aI (ee 0 8), aR 54, aR 64, aR 74, aR 77, aR 83, aR 84, aR 86, aR 88, aI (ee 0 17), aR 107, aR 108]) from (hfW_c hl 0 (by decide))) (Nat.le_of_ble_eq_true rfl) rfl ?_
    refine am_wE (w2 := hfW w hb sp rb rs hb po (aR rs) (am_put (am_put ee 0 7 0) 0 8 ((u37).2 0 5)) hh ss uu ((u37).1) pp ((u37).2) rr tt gg aa dd bd ga im) (hf_f8 hl) ?_
    refine T_aload_n (am_dec tX11_rule_0 25 rfl) rfl ?_
    refine T_getfield 10 5 (am_dec tX11_rule_0 26 rfl) flX11_45_10 (show (hfW w hb sp rb rs hb po (aR rs) (am_put (am_put ee 0 7 0) 0 8 ((u37).2 0 5)) hh ss uu ((u37).1) pp ((u37).2) rr tt gg aa dd bd ga im)[0]? = some (cO 10 [aR hb, aR sp, aR rb, aR rs, aR 52, aR 53, aR 51, aI 0, aI ((u37).2 0 5), aR 54, aR 64, aR 74, aR 77, aR 83, aR 84, aR 86, aR 88, aI (ee 0 17), aR 107, aR 108]) from (hfW_c hl 0 (by decide))) rfl ?_
    refine T_callU (as := []) rfl (am_dec tX11_rule_0 27 rfl) lkX11_347_X8 (show (hfW w hb sp rb rs hb po (aR rs) (am_put (am_put ee 0 7 0) 0 8 ((u37).2 0 5)) hh ss uu ((u37).1) pp ((u37).2) rr tt gg aa dd bd ga im)[53]? = some (cO 7 [aR 51, aI ((u37).2 0 1), aI ((u37).2 0 2), aI ((u37).2 0 3), aI ((u37).2 0 4), aI ((u37).2 0 5), aR rs]) from (hfW_c hl 53 (by decide))) rfl rfl (Nat.le_of_ble_eq_true rfl) (by omega) (md_fine (d := d - 1) hl hp hr    (by omega)) (fun _ => ?_)
    refine T_nm (fun z55 hz55 => ?_)
    have hb55 := c_fine_b ((u37).2)
    rw [← hz55] at hb55
    refine T_if_ne 72 (am_dec tX11_rule_0 28 rfl) rfl (fun h58 => ?_) (fun h58 => by exfalso; exact absurd h58 (by rw [hz55, c_fine_1 (by rw [hu37, hkk26]; exact hF)]; decide))
    refine T_aload_n (am_dec tX11_rule_0 35 rfl) rfl ?_
    refine T_getfield 10 2 (am_dec tX11_rule_0 36 rfl) flX11_22_10 (show (hfW w hb sp rb rs hb po (aR rs) (am_put (am_put ee 0 7 0) 0 8 ((u37).2 0 5)) hh ss uu ((u37).1) pp ((u37).2) rr tt gg aa dd bd ga im)[0]? = some (cO 10 [aR hb, aR sp, aR rb, aR rs, aR 52, aR 53, aR 51, aI 0, aI ((u37).2 0 5), aR 54, aR 64, aR 74, aR 77, aR 83, aR 84, aR 86, aR 88, aI (ee 0 17), aR 107, aR 108]) from (hfW_c hl 0 (by decide))) rfl ?_
    refine T_astore_n (ls' := [some (aR 0), some (aI n), some (aR rb)]) (am_dec tX11_rule_0 37 rfl) (by decide) rfl ?_
    refine T_aload_n (am_dec tX11_rule_0 38 rfl) rfl ?_
    refine T_aload_n (am_dec tX11_rule_0 39 rfl) rfl ?_
    refine T_getfield 10 3 (am_dec tX11_rule_1 0 rfl) flX11_26_10 (show (hfW w hb sp rb rs hb po (aR rs) (am_put (am_put ee 0 7 0) 0 8 ((u37).2 0 5)) hh ss uu ((u37).1) pp ((u37).2) rr tt gg aa dd bd ga im)[0]? = some (cO 10 [aR hb, aR sp, aR rb, aR rs, aR 52, aR 53, aR 51, aI 0, aI ((u37).2 0 5), aR 54, aR 64, aR 74, aR 77, aR 83, aR 84, aR 86, aR 88, aI (ee 0 17), aR 107, aR 108]) from (hfW_c hl 0 (by decide))) rfl ?_
    refine T_putfield (fs' := [aR hb, aR sp, aR rs, aR rs, aR 52, aR 53, aR 51, aI 0, aI ((u37).2 0 5), aR 54, aR 64, aR 74, aR 77, aR 83, aR 84, aR 86, aR 88, aI (ee 0 17), aR 107, aR 108]) 10 2 (am_dec tX11_rule_1 1 rfl) flX11_22_10 rfl rfl rfl trivial (show (hfW w hb sp rb rs hb po (aR rs) (am_put (am_put ee 0 7 0) 0 8 ((u37).2 0 5)) hh ss uu ((u37).1) pp ((u37).2) rr tt gg aa dd bd ga im)[0]? = some (cO 10 [aR hb, aR sp, aR rb, aR rs, aR 52, aR 53, aR 51, aI 0, aI ((u37).2 0 5), aR 54, aR 64, aR 74, aR 77, aR 83, aR 84, aR 86, aR 88, aI (ee 0 17), aR 107, aR 108]) from (hfW_c hl 0 (by decide))) (Nat.le_of_ble_eq_true rfl) rfl ?_
    refine am_wE (w2 := hfW w hb sp rs rs hb po (aR rs) (am_put (am_put ee 0 7 0) 0 8 ((u37).2 0 5)) hh ss ((u37).1) uu pp ((u37).2) rr tt gg aa dd bd ga im) (hf_sw3 hl hr) ?_
    refine T_aload_n (am_dec tX11_rule_1 2 rfl) rfl ?_
    refine T_aload_n (am_dec tX11_rule_1 3 rfl) rfl ?_
    refine T_putfield (fs' := [aR hb, aR sp, aR rs, aR rb, aR 52, aR 53, aR 51, aI 0, aI ((u37).2 0 5), aR 54, aR 64, aR 74, aR 77, aR 83, aR 84, aR 86, aR 88, aI (ee 0 17), aR 107, aR 108]) 10 3 (am_dec tX11_rule_1 4 rfl) flX11_26_10 rfl rfl rfl trivial (show (hfW w hb sp rs rs hb po (aR rs) (am_put (am_put ee 0 7 0) 0 8 ((u37).2 0 5)) hh ss ((u37).1) uu pp ((u37).2) rr tt gg aa dd bd ga im)[0]? = some (cO 10 [aR hb, aR sp, aR rs, aR rs, aR 52, aR 53, aR 51, aI 0, aI ((u37).2 0 5), aR 54, aR 64, aR 74, aR 77, aR 83, aR 84, aR 86, aR 88, aI (ee 0 17), aR 107, aR 108]) from (hfW_c hl 0 (by decide))) (Nat.le_of_ble_eq_true rfl) rfl ?_
    refine am_wE (w2 := hfW w hb sp rs rb hb po (aR rs) (am_put (am_put ee 0 7 0) 0 8 ((u37).2 0 5)) hh ss ((u37).1) uu pp ((u37).2) rr tt gg aa dd bd ga im) (hf_sw4 hl hr) ?_
    refine T_aload_n (am_dec tX11_rule_1 5 rfl) rfl ?_
    refine T_getfield 10 2 (am_dec tX11_rule_1 6 rfl) flX11_22_10 (show (hfW w hb sp rs rb hb po (aR rs) (am_put (am_put ee 0 7 0) 0 8 ((u37).2 0 5)) hh ss ((u37).1) uu pp ((u37).2) rr tt gg aa dd bd ga im)[0]? = some (cO 10 [aR hb, aR sp, aR rs, aR rb, aR 52, aR 53, aR 51, aI 0, aI ((u37).2 0 5), aR 54, aR 64, aR 74, aR 77, aR 83, aR 84, aR 86, aR 88, aI (ee 0 17), aR 107, aR 108]) from (hfW_c hl 0 (by decide))) rfl ?_
    refine T_getfield 6 0 (am_dec tX11_rule_1 7 rfl) flX11_349_6 (show (hfW w hb sp rs rb hb po (aR rs) (am_put (am_put ee 0 7 0) 0 8 ((u37).2 0 5)) hh ss ((u37).1) uu pp ((u37).2) rr tt gg aa dd bd ga im)[rs]? = some (cO 6 [aI (((u37).1) 0 0), aI (((u37).1) 0 1), aR (rs + 1), aR (rs + 2), aR (rs + 3), aR (rs + 4)]) from (hf_U (rb := rs) (rs := rb) hl (by omega) 0 (by decide))) rfl ?_
    exact T_ireturn (am_dec tX11_rule_1 8 rfl) rfl (am_tr (fun (x9 : Int × am_F × am_F × am_F × am_F) => Q (.inl (some (aI (x9.1)))) (hfW w hb sp rs rb hb po (aR rs) x9.2.1 hh ss x9.2.2.1 x9.2.2.2.1 pp x9.2.2.2.2 rr tt gg aa dd bd ga im)) (y := ((((u37).1) 0 0), (am_put (am_put ee 0 7 0) 0 8 ((u37).2 0 5)), ((u37).1), uu, (u37).2)) (show (c_ruleOK ee uu vv kk n) = ((((u37).1) 0 0), (am_put (am_put ee 0 7 0) 0 8 ((u37).2 0 5)), ((u37).1), uu, (u37).2) from (by have s9 := hm10.symm; subst s9; have s9 := hkk26.symm; subst s9; have s9 := hu37.symm; subst s9; have s9 := hz55.symm; subst s9; exact rfl)) hQ)
  exact key _ ⟨rfl, rfl⟩
