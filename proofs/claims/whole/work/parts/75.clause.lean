/-! the model: a clause, whole -/
def k_clause (c : am_F) : am_F := (let u1 : Int × am_F := k_kindHere c; (let c7 : am_F := (if (u1).1 = (-1) then k_wrong ((u1).2) 1 ((u1).2 0 4) else (if (u1).2 0 7 = 60 then k_wrong ((u1).2) 3 ((u1).2 0 4) else (let z33 : Int := (k_isFull ((u1).2) ((u1).1)); (if z33 = 0 then (if (u1).1 = 0 then (if (u1).2 0 7 ≤ 0 then ((u1).2) else k_wrong ((u1).2) 4 ((u1).2 0 4)) else ((u1).2)) else k_wrong ((u1).2) 3 ((u1).2 0 4))))); (if c7 0 5 = 0 then (let c80 : am_F := k_skipWord c7; (if (u1).1 = 0 then (k_clause_152 (am_put c80 0 7 ((c80 0 7) + 1))) else (if (u1).1 = 1 then (k_clause_406 (am_put c80 0 7 ((c80 0 7) + 1))) else (if (u1).1 = 2 then (k_clause_181 (am_put c80 0 7 ((c80 0 7) + 1)) ((u1).1)) else (if (u1).1 = 3 then (k_clause_220 (am_put c80 0 7 ((c80 0 7) + 1)) ((u1).1)) else (if (u1).1 = 4 then (k_clause_238 (am_put c80 0 7 ((c80 0 7) + 1)) ((u1).1)) else (if (u1).1 = 5 then (k_clause_256 (am_put c80 0 7 ((c80 0 7) + 1)) ((u1).1)) else (if (u1).1 = 6 then (k_clause_293 (am_put c80 0 7 ((c80 0 7) + 1)) ((u1).1)) else (if (u1).1 = 7 then (k_clause_335 (am_put c80 0 7 ((c80 0 7) + 1))) else (if (u1).1 = 8 then (k_clause_352 (am_put c80 0 7 ((c80 0 7) + 1))) else (if (u1).1 = 9 then (k_clause_359 (am_put c80 0 7 ((c80 0 7) + 1))) else (if (u1).1 = 10 then (k_clause_366 (am_put c80 0 7 ((c80 0 7) + 1)) ((u1).1)) else (k_clause_406 (am_put c80 0 7 ((c80 0 7) + 1))))))))))))))) else c7)))
set_option maxHeartbeats 4000000 in
theorem mk_clause {S : am_S} {d u : Nat} {w : AH} {b : Nat} (hl : b + 735 ≤ w.length) {c : am_F} {q : am_F}  (hR : RdV c) (hRW : RW c) (hd : 5 ≤ d) : am_Out S zX12_clause d u [aR b] (mdW w b c q) (.inl none) (mdW w b (k_clause c) q) := by
  have key : ∀ Q : AO → AH → Prop, Q (.inl none) (mdW w b (k_clause c) q) → am_M S zX12_clause d u [aR b] (mdW w b c q) Q := by
    intro Q hQ
    refine am_body rfl (by decide +kernel) rfl (am_cats_cons rfl (am_cats_nil)) (Nat.le_of_ble_eq_true rfl) (?_ : am_T _ _ _ _ _ 0 [some (aR b), none, none] [] (mdW w b c q))
    have hR9 := hR
    obtain ⟨r1, r2, r3⟩ := hR9
    have w9 := hRW
    obtain ⟨w0, w1, w2, w3, w4, w5, w6, w8, w7, w10, w11⟩ := w9
    refine T_aload_n (am_dec tX12_clause_0 0 rfl) rfl ?_
    refine T_callV (as := []) rfl (am_dec tX12_clause_0 1 rfl) lkX12_235 (md_obj hl) rfl rfl (Nat.le_of_ble_eq_true rfl) (by omega) (mk_kindHere (d := d - 1) hl   hR (by omega)) (fun _ => ?_)
    obtain ⟨u1, hu1⟩ : ∃ x9, x9 = k_kindHere c := ⟨_, rfl⟩
    rw [← hu1]
    have hR1 : RdV (u1).2 := by rw [hu1]; exact (k_kindHere_x hR).1
    have hR9 := hR1
    obtain ⟨ra1, rb1, rc1⟩ := hR9
    have hx1 : Ly c (u1).2 := Ly_t Ly_r (Ly_x (by rw [hu1]; exact (k_kindHere_x hR).2.1))
    have hz1 : (u1).2 0 2 = c 0 2 := hx1.2 2 (by decide) (by decide) (by decide)
    have ht1_0 : (u1).2 3 0 = c 3 0 := congrFun hx1.1 0
    have ht1_1 : (u1).2 3 1 = c 3 1 := congrFun hx1.1 1
    have ht1_2 : (u1).2 3 2 = c 3 2 := congrFun hx1.1 2
    have ht1_3 : (u1).2 3 3 = c 3 3 := congrFun hx1.1 3
    have ht1_4 : (u1).2 3 4 = c 3 4 := congrFun hx1.1 4
    have ht1_5 : (u1).2 3 5 = c 3 5 := congrFun hx1.1 5
    have ht1_6 : (u1).2 3 6 = c 3 6 := congrFun hx1.1 6
    have ht1_8 : (u1).2 3 8 = c 3 8 := congrFun hx1.1 8
    have ht1_9 : (u1).2 3 9 = c 3 9 := congrFun hx1.1 9
    have ht1_10 : (u1).2 3 10 = c 3 10 := congrFun hx1.1 10
    have hk1 := (k_kindHere_x hR).2.2
    rw [← hu1] at hk1
    refine T_istore_n (ls' := [some (aR b), some (aI ((u1).1)), none]) (am_dec tX12_clause_0 2 rfl) (by decide) rfl ?_
    refine T_iload_n (am_dec tX12_clause_0 3 rfl) rfl ?_
    refine T_iconst (-1) (am_dec tX12_clause_0 4 rfl) rfl ⟨by decide, by decide⟩ ?_
    have K7 : ∀ (c7 : am_F), c7 = (if (u1).1 = (-1) then k_wrong ((u1).2) 1 ((u1).2 0 4) else (if (u1).2 0 7 = 60 then k_wrong ((u1).2) 3 ((u1).2 0 4) else (let z33 : Int := (k_isFull ((u1).2) ((u1).1)); (if z33 = 0 then (if (u1).1 = 0 then (if (u1).2 0 7 ≤ 0 then ((u1).2) else k_wrong ((u1).2) 4 ((u1).2 0 4)) else ((u1).2)) else k_wrong ((u1).2) 3 ((u1).2 0 4))))) → RdV c7 → Ly c c7 → c7 0 4 = (u1).2 0 4 → (c7 0 5 = 0 → (u1).1 ≠ -1 ∧ (u1).2 0 7 ≠ 60 ∧ k_isFull (u1).2 (u1).1 = 0) →  am_T S zX12_clause d u Q 71 [some (aR b), some (aI ((u1).1)), none] [] (mdW w b c7 q) := by
      intro c7 hc7 hR_c7 hx_c7 h4_c7 hcl_c7
      have hR9 := hR_c7
      obtain ⟨ra_c7, rb_c7, rc_c7⟩ := hR9
      have hz_c7 : c7 0 2 = c 0 2 := hx_c7.2 2 (by decide) (by decide) (by decide)
      refine T_aload_n (am_dec tX12_clause_0 36 rfl) rfl ?_
      refine T_getfield 11 5 (am_dec tX12_clause_0 37 rfl) flX12_176_11 (md_obj hl) rfl ?_
      refine T_if_eq 79 (am_dec tX12_clause_0 38 rfl) rfl (fun h75 => ?_) (fun h75 => ?_)
      · refine T_aload_n (am_dec tX12_clause_1 0 rfl) rfl ?_
        refine T_callV (as := []) rfl (am_dec tX12_clause_1 1 rfl) lkX12_219 (md_obj hl) rfl rfl (Nat.le_of_ble_eq_true rfl) (by omega) (mk_skipWord (d := d - 1) hl   hR_c7 (by omega)) (fun _ => ?_)
        refine T_nmH (W := fun x9 => mdW w b x9 q) (v := k_skipWord c7) (fun c80 hc80 => ?_)
        have hR80 : RdV c80 := by rw [hc80]; exact (k_skipWord_x hR_c7).1
        have hR9 := hR80
        obtain ⟨ra80, rb80, rc80⟩ := hR9
        have hx80 : Ly c c80 := Ly_t hx_c7 (Ly_x (by rw [hc80]; exact (k_skipWord_x hR_c7).2))
        have hz80 : c80 0 2 = c 0 2 := hx80.2 2 (by decide) (by decide) (by decide)
        have ht80_0 : c80 3 0 = c 3 0 := congrFun hx80.1 0
        have ht80_1 : c80 3 1 = c 3 1 := congrFun hx80.1 1
        have ht80_2 : c80 3 2 = c 3 2 := congrFun hx80.1 2
        have ht80_3 : c80 3 3 = c 3 3 := congrFun hx80.1 3
        have ht80_4 : c80 3 4 = c 3 4 := congrFun hx80.1 4
        have ht80_5 : c80 3 5 = c 3 5 := congrFun hx80.1 5
        have ht80_6 : c80 3 6 = c 3 6 := congrFun hx80.1 6
        have ht80_8 : c80 3 8 = c 3 8 := congrFun hx80.1 8
        have ht80_9 : c80 3 9 = c 3 9 := congrFun hx80.1 9
        have ht80_10 : c80 3 10 = c 3 10 := congrFun hx80.1 10
        have hb83 : RW c80 := RW_y hx80 hRW
        obtain ⟨x0, x1, x2, x3, x4, x5, x6, x8, x7, x10, x11⟩ := hb83
        refine T_aload_n (am_dec tX12_clause_1 2 rfl) rfl ?_
        refine T_dup (am_dec tX12_clause_1 3 rfl) rfl ?_
        refine T_getfield 11 7 (am_dec tX12_clause_1 4 rfl) flX12_222_11 (md_obj hl) rfl ?_
        refine T_iconst 1 (am_dec tX12_clause_1 5 rfl) rfl ⟨by decide, by decide⟩ ?_
        refine T_iadd ((c80 0 7) + 1) (am_dec tX12_clause_1 6 rfl) rfl ⟨by omega, by omega⟩ ?_
        refine T_putfield (fs' := mdO b (am_up (c80 0) 7 ((c80 0 7) + 1)) (q 0)) 11 7 (am_dec tX12_clause_1 7 rfl) flX12_222_11 rfl rfl rfl trivial (md_obj hl) (Nat.le_of_ble_eq_true rfl) rfl ?_
        refine am_wE (w2 := mdW w b (am_put c80 0 7 ((c80 0 7) + 1)) q) (md_fc) ?_
        have hb93 : Ly c c80 := hx80
        have hW92 : RW c80 := RW_y hb93 hRW
        have hcl := hcl_c7 (by omega)
        have h79 : c80 0 7 = (u1).2 0 7 := (hb93.2 7 (by decide) (by decide) (by decide)).trans (hx1.2 7 (by decide) (by decide) (by decide)).symm
        have hfu : k_isFull c80 ((u1).1) = 0 := (k_isFull_y (hb93.1.trans hx1.1.symm) ((hb93.2 56 (by decide) (by decide) (by decide)).trans (hx1.2 56 (by decide) (by decide) (by decide)).symm) ((hb93.2 57 (by decide) (by decide) (by decide)).trans (hx1.2 57 (by decide) (by decide) (by decide)).symm) _).trans hcl.2.2
        refine T_iload_n (am_dec tX12_clause_1 8 rfl) rfl ?_
        by_cases e94_0 : (u1).1 = 0
        · refine T_tableIn (off := 58) 152 (am_dec tX12_clause_1 9 rfl) (by omega) (by omega) (by rw [e94_0]; rfl) rfl ?_
          exact S_k_clause_152 hl (am_put c80 0 7 ((c80 0 7) + 1)) q ((u1).1) (RdV_h (j := 7) (v := ((c80 0 7) + 1)) (by decide) hR80) (RW_p7 hW92 (by omega)) (k_isFull_7 hfu) (by omega) (by omega) (am_tr (fun (x9 : am_F) => Q (.inl none) (mdW w b x9 q)) (y := (k_clause_152 (am_put c80 0 7 ((c80 0 7) + 1)))) (show (k_clause c) = (k_clause_152 (am_put c80 0 7 ((c80 0 7) + 1))) from (by have s9 := hu1.symm; subst s9; have s9 := hc7.symm; subst s9; have s9 := hc80.symm; subst s9; exact ((if_pos h75).trans (if_pos e94_0)))) hQ)
        by_cases e94_1 : (u1).1 = 1
        · refine T_tableIn (off := 312) 406 (am_dec tX12_clause_1 9 rfl) (by omega) (by omega) (by rw [e94_1]; rfl) rfl ?_
          exact S_k_clause_406 hl (am_put c80 0 7 ((c80 0 7) + 1)) q ((u1).1) (RdV_h (j := 7) (v := ((c80 0 7) + 1)) (by decide) hR80) (RW_p7 hW92 (by omega)) (k_isFull_7 hfu) (by omega) (by omega) (am_tr (fun (x9 : am_F) => Q (.inl none) (mdW w b x9 q)) (y := (k_clause_406 (am_put c80 0 7 ((c80 0 7) + 1)))) (show (k_clause c) = (k_clause_406 (am_put c80 0 7 ((c80 0 7) + 1))) from (by have s9 := hu1.symm; subst s9; have s9 := hc7.symm; subst s9; have s9 := hc80.symm; subst s9; exact ((if_pos h75).trans ((if_neg e94_0).trans (if_pos e94_1))))) hQ)
        by_cases e94_2 : (u1).1 = 2
        · refine T_tableIn (off := 87) 181 (am_dec tX12_clause_1 9 rfl) (by omega) (by omega) (by rw [e94_2]; rfl) rfl ?_
          exact S_k_clause_181 hl (am_put c80 0 7 ((c80 0 7) + 1)) q ((u1).1) (RdV_h (j := 7) (v := ((c80 0 7) + 1)) (by decide) hR80) (RW_p7 hW92 (by omega)) (k_isFull_7 hfu) (by omega) (by omega) (am_tr (fun (x9 : am_F) => Q (.inl none) (mdW w b x9 q)) (y := (k_clause_181 (am_put c80 0 7 ((c80 0 7) + 1)) ((u1).1))) (show (k_clause c) = (k_clause_181 (am_put c80 0 7 ((c80 0 7) + 1)) ((u1).1)) from (by have s9 := hu1.symm; subst s9; have s9 := hc7.symm; subst s9; have s9 := hc80.symm; subst s9; exact ((if_pos h75).trans ((if_neg e94_0).trans ((if_neg e94_1).trans (if_pos e94_2)))))) hQ)
        by_cases e94_3 : (u1).1 = 3
        · refine T_tableIn (off := 126) 220 (am_dec tX12_clause_1 9 rfl) (by omega) (by omega) (by rw [e94_3]; rfl) rfl ?_
          exact S_k_clause_220 hl (am_put c80 0 7 ((c80 0 7) + 1)) q ((u1).1) (RdV_h (j := 7) (v := ((c80 0 7) + 1)) (by decide) hR80) (RW_p7 hW92 (by omega)) (k_isFull_7 hfu) (by omega) (by omega) (am_tr (fun (x9 : am_F) => Q (.inl none) (mdW w b x9 q)) (y := (k_clause_220 (am_put c80 0 7 ((c80 0 7) + 1)) ((u1).1))) (show (k_clause c) = (k_clause_220 (am_put c80 0 7 ((c80 0 7) + 1)) ((u1).1)) from (by have s9 := hu1.symm; subst s9; have s9 := hc7.symm; subst s9; have s9 := hc80.symm; subst s9; exact ((if_pos h75).trans ((if_neg e94_0).trans ((if_neg e94_1).trans ((if_neg e94_2).trans (if_pos e94_3))))))) hQ)
        by_cases e94_4 : (u1).1 = 4
        · refine T_tableIn (off := 144) 238 (am_dec tX12_clause_1 9 rfl) (by omega) (by omega) (by rw [e94_4]; rfl) rfl ?_
          exact S_k_clause_238 hl (am_put c80 0 7 ((c80 0 7) + 1)) q ((u1).1) (RdV_h (j := 7) (v := ((c80 0 7) + 1)) (by decide) hR80) (RW_p7 hW92 (by omega)) (k_isFull_7 hfu) (by omega) (by omega) (am_tr (fun (x9 : am_F) => Q (.inl none) (mdW w b x9 q)) (y := (k_clause_238 (am_put c80 0 7 ((c80 0 7) + 1)) ((u1).1))) (show (k_clause c) = (k_clause_238 (am_put c80 0 7 ((c80 0 7) + 1)) ((u1).1)) from (by have s9 := hu1.symm; subst s9; have s9 := hc7.symm; subst s9; have s9 := hc80.symm; subst s9; exact ((if_pos h75).trans ((if_neg e94_0).trans ((if_neg e94_1).trans ((if_neg e94_2).trans ((if_neg e94_3).trans (if_pos e94_4)))))))) hQ)
        by_cases e94_5 : (u1).1 = 5
        · refine T_tableIn (off := 162) 256 (am_dec tX12_clause_1 9 rfl) (by omega) (by omega) (by rw [e94_5]; rfl) rfl ?_
          exact S_k_clause_256 hl (am_put c80 0 7 ((c80 0 7) + 1)) q ((u1).1) (RdV_h (j := 7) (v := ((c80 0 7) + 1)) (by decide) hR80) (RW_p7 hW92 (by omega)) (k_isFull_7 hfu) (by omega) (by omega) (am_tr (fun (x9 : am_F) => Q (.inl none) (mdW w b x9 q)) (y := (k_clause_256 (am_put c80 0 7 ((c80 0 7) + 1)) ((u1).1))) (show (k_clause c) = (k_clause_256 (am_put c80 0 7 ((c80 0 7) + 1)) ((u1).1)) from (by have s9 := hu1.symm; subst s9; have s9 := hc7.symm; subst s9; have s9 := hc80.symm; subst s9; exact ((if_pos h75).trans ((if_neg e94_0).trans ((if_neg e94_1).trans ((if_neg e94_2).trans ((if_neg e94_3).trans ((if_neg e94_4).trans (if_pos e94_5))))))))) hQ)
        by_cases e94_6 : (u1).1 = 6
        · refine T_tableIn (off := 199) 293 (am_dec tX12_clause_1 9 rfl) (by omega) (by omega) (by rw [e94_6]; rfl) rfl ?_
          exact S_k_clause_293 hl (am_put c80 0 7 ((c80 0 7) + 1)) q ((u1).1) (RdV_h (j := 7) (v := ((c80 0 7) + 1)) (by decide) hR80) (RW_p7 hW92 (by omega)) (k_isFull_7 hfu) (by omega) (by omega) (am_tr (fun (x9 : am_F) => Q (.inl none) (mdW w b x9 q)) (y := (k_clause_293 (am_put c80 0 7 ((c80 0 7) + 1)) ((u1).1))) (show (k_clause c) = (k_clause_293 (am_put c80 0 7 ((c80 0 7) + 1)) ((u1).1)) from (by have s9 := hu1.symm; subst s9; have s9 := hc7.symm; subst s9; have s9 := hc80.symm; subst s9; exact ((if_pos h75).trans ((if_neg e94_0).trans ((if_neg e94_1).trans ((if_neg e94_2).trans ((if_neg e94_3).trans ((if_neg e94_4).trans ((if_neg e94_5).trans (if_pos e94_6)))))))))) hQ)
        by_cases e94_7 : (u1).1 = 7
        · refine T_tableIn (off := 241) 335 (am_dec tX12_clause_1 9 rfl) (by omega) (by omega) (by rw [e94_7]; rfl) rfl ?_
          exact S_k_clause_335 hl (am_put c80 0 7 ((c80 0 7) + 1)) q ((u1).1) (RdV_h (j := 7) (v := ((c80 0 7) + 1)) (by decide) hR80) (RW_p7 hW92 (by omega)) (k_isFull_7 hfu) (by omega) (by omega) (am_tr (fun (x9 : am_F) => Q (.inl none) (mdW w b x9 q)) (y := (k_clause_335 (am_put c80 0 7 ((c80 0 7) + 1)))) (show (k_clause c) = (k_clause_335 (am_put c80 0 7 ((c80 0 7) + 1))) from (by have s9 := hu1.symm; subst s9; have s9 := hc7.symm; subst s9; have s9 := hc80.symm; subst s9; exact ((if_pos h75).trans ((if_neg e94_0).trans ((if_neg e94_1).trans ((if_neg e94_2).trans ((if_neg e94_3).trans ((if_neg e94_4).trans ((if_neg e94_5).trans ((if_neg e94_6).trans (if_pos e94_7))))))))))) hQ)
        by_cases e94_8 : (u1).1 = 8
        · refine T_tableIn (off := 258) 352 (am_dec tX12_clause_1 9 rfl) (by omega) (by omega) (by rw [e94_8]; rfl) rfl ?_
          exact S_k_clause_352 hl (am_put c80 0 7 ((c80 0 7) + 1)) q ((u1).1) (RdV_h (j := 7) (v := ((c80 0 7) + 1)) (by decide) hR80) (RW_p7 hW92 (by omega)) (k_isFull_7 hfu) (by omega) (by omega) (am_tr (fun (x9 : am_F) => Q (.inl none) (mdW w b x9 q)) (y := (k_clause_352 (am_put c80 0 7 ((c80 0 7) + 1)))) (show (k_clause c) = (k_clause_352 (am_put c80 0 7 ((c80 0 7) + 1))) from (by have s9 := hu1.symm; subst s9; have s9 := hc7.symm; subst s9; have s9 := hc80.symm; subst s9; exact ((if_pos h75).trans ((if_neg e94_0).trans ((if_neg e94_1).trans ((if_neg e94_2).trans ((if_neg e94_3).trans ((if_neg e94_4).trans ((if_neg e94_5).trans ((if_neg e94_6).trans ((if_neg e94_7).trans (if_pos e94_8)))))))))))) hQ)
        by_cases e94_9 : (u1).1 = 9
        · refine T_tableIn (off := 265) 359 (am_dec tX12_clause_1 9 rfl) (by omega) (by omega) (by rw [e94_9]; rfl) rfl ?_
          exact S_k_clause_359 hl (am_put c80 0 7 ((c80 0 7) + 1)) q ((u1).1) (RdV_h (j := 7) (v := ((c80 0 7) + 1)) (by decide) hR80) (RW_p7 hW92 (by omega)) (k_isFull_7 hfu) (by omega) (by omega) (am_tr (fun (x9 : am_F) => Q (.inl none) (mdW w b x9 q)) (y := (k_clause_359 (am_put c80 0 7 ((c80 0 7) + 1)))) (show (k_clause c) = (k_clause_359 (am_put c80 0 7 ((c80 0 7) + 1))) from (by have s9 := hu1.symm; subst s9; have s9 := hc7.symm; subst s9; have s9 := hc80.symm; subst s9; exact ((if_pos h75).trans ((if_neg e94_0).trans ((if_neg e94_1).trans ((if_neg e94_2).trans ((if_neg e94_3).trans ((if_neg e94_4).trans ((if_neg e94_5).trans ((if_neg e94_6).trans ((if_neg e94_7).trans ((if_neg e94_8).trans (if_pos e94_9))))))))))))) hQ)
        by_cases e94_10 : (u1).1 = 10
        · refine T_tableIn (off := 272) 366 (am_dec tX12_clause_1 9 rfl) (by omega) (by omega) (by rw [e94_10]; rfl) rfl ?_
          exact S_k_clause_366 hl (am_put c80 0 7 ((c80 0 7) + 1)) q ((u1).1) (RdV_h (j := 7) (v := ((c80 0 7) + 1)) (by decide) hR80) (RW_p7 hW92 (by omega)) (k_isFull_7 hfu) (by omega) (by omega) (am_tr (fun (x9 : am_F) => Q (.inl none) (mdW w b x9 q)) (y := (k_clause_366 (am_put c80 0 7 ((c80 0 7) + 1)) ((u1).1))) (show (k_clause c) = (k_clause_366 (am_put c80 0 7 ((c80 0 7) + 1)) ((u1).1)) from (by have s9 := hu1.symm; subst s9; have s9 := hc7.symm; subst s9; have s9 := hc80.symm; subst s9; exact ((if_pos h75).trans ((if_neg e94_0).trans ((if_neg e94_1).trans ((if_neg e94_2).trans ((if_neg e94_3).trans ((if_neg e94_4).trans ((if_neg e94_5).trans ((if_neg e94_6).trans ((if_neg e94_7).trans ((if_neg e94_8).trans ((if_neg e94_9).trans (if_pos e94_10)))))))))))))) hQ)
        refine T_tableOut 406 (am_dec tX12_clause_1 9 rfl) (by omega) rfl ?_
        exact S_k_clause_406 hl (am_put c80 0 7 ((c80 0 7) + 1)) q ((u1).1) (RdV_h (j := 7) (v := ((c80 0 7) + 1)) (by decide) hR80) (RW_p7 hW92 (by omega)) (k_isFull_7 hfu) (by omega) (by omega) (am_tr (fun (x9 : am_F) => Q (.inl none) (mdW w b x9 q)) (y := (k_clause_406 (am_put c80 0 7 ((c80 0 7) + 1)))) (show (k_clause c) = (k_clause_406 (am_put c80 0 7 ((c80 0 7) + 1))) from (by have s9 := hu1.symm; subst s9; have s9 := hc7.symm; subst s9; have s9 := hc80.symm; subst s9; exact ((if_pos h75).trans ((if_neg e94_0).trans ((if_neg e94_1).trans ((if_neg e94_2).trans ((if_neg e94_3).trans ((if_neg e94_4).trans ((if_neg e94_5).trans ((if_neg e94_6).trans ((if_neg e94_7).trans ((if_neg e94_8).trans ((if_neg e94_9).trans (if_neg e94_10)))))))))))))) hQ)
      · exact T_return (am_dec tX12_clause_0 39 rfl) rfl (am_tr (fun (x9 : am_F) => Q (.inl none) (mdW w b x9 q)) (y := c7) (show (k_clause c) = c7 from (by have s9 := hu1.symm; subst s9; have s9 := hc7.symm; subst s9; exact (if_neg h75))) hQ)
    refine T_icmp_ne 22 (am_dec tX12_clause_0 5 rfl) rfl (fun h7 => ?_) (fun h7 => ?_)
    · refine T_aload_n (am_dec tX12_clause_0 12 rfl) rfl ?_
      refine T_getfield 11 7 (am_dec tX12_clause_0 13 rfl) flX12_222_11 (md_obj hl) rfl ?_
      refine T_bipush 60 (am_dec tX12_clause_0 14 rfl) rfl ⟨by decide, by decide⟩ ?_
      have K28 : ∀ (c28 : am_F), c28 = (if (u1).2 0 7 = 60 then k_wrong ((u1).2) 3 ((u1).2 0 4) else (let z33 : Int := (k_isFull ((u1).2) ((u1).1)); (if z33 = 0 then (if (u1).1 = 0 then (if (u1).2 0 7 ≤ 0 then ((u1).2) else k_wrong ((u1).2) 4 ((u1).2 0 4)) else ((u1).2)) else k_wrong ((u1).2) 3 ((u1).2 0 4)))) → RdV c28 → Ly c c28 → c28 0 4 = (u1).2 0 4 → (c28 0 5 = 0 → (u1).1 ≠ -1 ∧ (u1).2 0 7 ≠ 60 ∧ k_isFull (u1).2 (u1).1 = 0) →  am_T S zX12_clause d u Q 71 [some (aR b), some (aI ((u1).1)), none] [] (mdW w b c28 q) := by
        intro c28 hc28 hR_c28 hx_c28 h4_c28 hcl_c28
        have hR9 := hR_c28
        obtain ⟨ra_c28, rb_c28, rc_c28⟩ := hR9
        have hz_c28 : c28 0 2 = c 0 2 := hx_c28.2 2 (by decide) (by decide) (by decide)
        exact K7 _ (by have s9 := hc28.symm; subst s9; exact (if_neg h7).symm) hR_c28 hx_c28 h4_c28 hcl_c28
      refine T_icmp_eq 39 (am_dec tX12_clause_0 15 rfl) rfl (fun h28 => ?_) (fun h28 => ?_)
      · refine T_aload_n (am_dec tX12_clause_0 20 rfl) rfl ?_
        refine T_iconst 3 (am_dec tX12_clause_0 21 rfl) rfl ⟨by decide, by decide⟩ ?_
        refine T_aload_n (am_dec tX12_clause_0 22 rfl) rfl ?_
        refine T_getfield 11 4 (am_dec tX12_clause_0 23 rfl) flX12_169_11 (md_obj hl) rfl ?_
        refine T_callV (as := [aI 3, aI ((u1).2 0 4)]) rfl (am_dec tX12_clause_0 24 rfl) lkX12_189 (md_obj hl) rfl rfl (Nat.le_of_ble_eq_true rfl) (by omega) (mk_wrong (d := d - 1) hl 3 ((u1).2 0 4)   ) (fun _ => ?_)
        refine T_nmH (W := fun x9 => mdW w b x9 q) (v := k_wrong ((u1).2) 3 ((u1).2 0 4)) (fun c45 hc45 => ?_)
        have hR45 : RdV c45 := by rw [hc45]; exact (k_wrong_x hR1).1
        have hR9 := hR45
        obtain ⟨ra45, rb45, rc45⟩ := hR9
        have hx45 : Ly c c45 := Ly_t hx1 (Ly_x (by rw [hc45]; exact (k_wrong_x hR1).2))
        have hz45 : c45 0 2 = c 0 2 := hx45.2 2 (by decide) (by decide) (by decide)
        have ht45_0 : c45 3 0 = c 3 0 := congrFun hx45.1 0
        have ht45_1 : c45 3 1 = c 3 1 := congrFun hx45.1 1
        have ht45_2 : c45 3 2 = c 3 2 := congrFun hx45.1 2
        have ht45_3 : c45 3 3 = c 3 3 := congrFun hx45.1 3
        have ht45_4 : c45 3 4 = c 3 4 := congrFun hx45.1 4
        have ht45_5 : c45 3 5 = c 3 5 := congrFun hx45.1 5
        have ht45_6 : c45 3 6 = c 3 6 := congrFun hx45.1 6
        have ht45_8 : c45 3 8 = c 3 8 := congrFun hx45.1 8
        have ht45_9 : c45 3 9 = c 3 9 := congrFun hx45.1 9
        have ht45_10 : c45 3 10 = c 3 10 := congrFun hx45.1 10
        have h4_45 : c45 0 4 = (u1).2 0 4 := by rw [hc45]; exact k_wrong_4
        refine T_goto 71 (am_dec tX12_clause_0 25 rfl) rfl ?_
        exact K28 _ (by have s9 := hc45.symm; subst s9; exact (if_pos h28).symm) hR45 hx45 h4_45 (fun h9 => by exfalso; revert h9; rw [hc45]; exact k_wrong_5 (by decide))
      · refine T_aload_n (am_dec tX12_clause_0 16 rfl) rfl ?_
        refine T_iload_n (am_dec tX12_clause_0 17 rfl) rfl ?_
        refine T_callV (as := [aI ((u1).1)]) rfl (am_dec tX12_clause_0 18 rfl) lkX12_239 (md_obj hl) rfl rfl (Nat.le_of_ble_eq_true rfl) (by omega) (mk_isFull (d := d - 1) hl ((u1).1)   ) (fun _ => ?_)
        refine T_nm (fun z33 hz33 => ?_)
        have hb33 := k_isFull_b ((u1).2) ((u1).1)
        rw [← hz33] at hb33
        have K36 : ∀ (c36 : am_F), c36 = (if z33 = 0 then (if (u1).1 = 0 then (if (u1).2 0 7 ≤ 0 then ((u1).2) else k_wrong ((u1).2) 4 ((u1).2 0 4)) else ((u1).2)) else k_wrong ((u1).2) 3 ((u1).2 0 4)) → RdV c36 → Ly c c36 → c36 0 4 = (u1).2 0 4 → (c36 0 5 = 0 → (u1).1 ≠ -1 ∧ (u1).2 0 7 ≠ 60 ∧ k_isFull (u1).2 (u1).1 = 0) →  am_T S zX12_clause d u Q 71 [some (aR b), some (aI ((u1).1)), none] [] (mdW w b c36 q) := by
          intro c36 hc36 hR_c36 hx_c36 h4_c36 hcl_c36
          have hR9 := hR_c36
          obtain ⟨ra_c36, rb_c36, rc_c36⟩ := hR9
          have hz_c36 : c36 0 2 = c 0 2 := hx_c36.2 2 (by decide) (by decide) (by decide)
          exact K28 _ (by have s9 := hz33.symm; subst s9; have s9 := hc36.symm; subst s9; exact (if_neg h28).symm) hR_c36 hx_c36 h4_c36 hcl_c36
        refine T_if_eq 51 (am_dec tX12_clause_0 19 rfl) rfl (fun h36 => ?_) (fun h36 => ?_)
        · refine T_iload_n (am_dec tX12_clause_0 26 rfl) rfl ?_
          have K52 : ∀ (c52 : am_F), c52 = (if (u1).1 = 0 then (if (u1).2 0 7 ≤ 0 then ((u1).2) else k_wrong ((u1).2) 4 ((u1).2 0 4)) else ((u1).2)) → RdV c52 → Ly c c52 → c52 0 4 = (u1).2 0 4 → (c52 0 5 = 0 → (u1).1 ≠ -1 ∧ (u1).2 0 7 ≠ 60 ∧ k_isFull (u1).2 (u1).1 = 0) →  am_T S zX12_clause d u Q 71 [some (aR b), some (aI ((u1).1)), none] [] (mdW w b c52 q) := by
            intro c52 hc52 hR_c52 hx_c52 h4_c52 hcl_c52
            have hR9 := hR_c52
            obtain ⟨ra_c52, rb_c52, rc_c52⟩ := hR9
            have hz_c52 : c52 0 2 = c 0 2 := hx_c52.2 2 (by decide) (by decide) (by decide)
            exact K36 _ (by have s9 := hc52.symm; subst s9; exact (if_pos h36).symm) hR_c52 hx_c52 h4_c52 hcl_c52
          refine T_if_ne 71 (am_dec tX12_clause_0 27 rfl) rfl (fun h52 => ?_) (fun h52 => ?_)
          · exact K52 _ (if_neg h52).symm hR1 hx1 rfl (fun _ => ⟨by omega, by omega, by omega⟩)
          · refine T_aload_n (am_dec tX12_clause_0 28 rfl) rfl ?_
            refine T_getfield 11 7 (am_dec tX12_clause_0 29 rfl) flX12_222_11 (md_obj hl) rfl ?_
            have K59 : ∀ (c59 : am_F), c59 = (if (u1).2 0 7 ≤ 0 then ((u1).2) else k_wrong ((u1).2) 4 ((u1).2 0 4)) → RdV c59 → Ly c c59 → c59 0 4 = (u1).2 0 4 → (c59 0 5 = 0 → (u1).1 ≠ -1 ∧ (u1).2 0 7 ≠ 60 ∧ k_isFull (u1).2 (u1).1 = 0) →  am_T S zX12_clause d u Q 71 [some (aR b), some (aI ((u1).1)), none] [] (mdW w b c59 q) := by
              intro c59 hc59 hR_c59 hx_c59 h4_c59 hcl_c59
              have hR9 := hR_c59
              obtain ⟨ra_c59, rb_c59, rc_c59⟩ := hR9
              have hz_c59 : c59 0 2 = c 0 2 := hx_c59.2 2 (by decide) (by decide) (by decide)
              exact K52 _ (by have s9 := hc59.symm; subst s9; exact (if_pos h52).symm) hR_c59 hx_c59 h4_c59 hcl_c59
            refine T_if_le 71 (am_dec tX12_clause_0 30 rfl) rfl (fun h59 => ?_) (fun h59 => ?_)
            · exact K59 _ (if_pos h59).symm hR1 hx1 rfl (fun _ => ⟨by omega, by omega, by omega⟩)
            · refine T_aload_n (am_dec tX12_clause_0 31 rfl) rfl ?_
              refine T_iconst 4 (am_dec tX12_clause_0 32 rfl) rfl ⟨by decide, by decide⟩ ?_
              refine T_aload_n (am_dec tX12_clause_0 33 rfl) rfl ?_
              refine T_getfield 11 4 (am_dec tX12_clause_0 34 rfl) flX12_169_11 (md_obj hl) rfl ?_
              refine T_callV (as := [aI 4, aI ((u1).2 0 4)]) rfl (am_dec tX12_clause_0 35 rfl) lkX12_189 (md_obj hl) rfl rfl (Nat.le_of_ble_eq_true rfl) (by omega) (mk_wrong (d := d - 1) hl 4 ((u1).2 0 4)   ) (fun _ => ?_)
              refine T_nmH (W := fun x9 => mdW w b x9 q) (v := k_wrong ((u1).2) 4 ((u1).2 0 4)) (fun c68 hc68 => ?_)
              have hR68 : RdV c68 := by rw [hc68]; exact (k_wrong_x hR1).1
              have hR9 := hR68
              obtain ⟨ra68, rb68, rc68⟩ := hR9
              have hx68 : Ly c c68 := Ly_t hx1 (Ly_x (by rw [hc68]; exact (k_wrong_x hR1).2))
              have hz68 : c68 0 2 = c 0 2 := hx68.2 2 (by decide) (by decide) (by decide)
              have ht68_0 : c68 3 0 = c 3 0 := congrFun hx68.1 0
              have ht68_1 : c68 3 1 = c 3 1 := congrFun hx68.1 1
              have ht68_2 : c68 3 2 = c 3 2 := congrFun hx68.1 2
              have ht68_3 : c68 3 3 = c 3 3 := congrFun hx68.1 3
              have ht68_4 : c68 3 4 = c 3 4 := congrFun hx68.1 4
              have ht68_5 : c68 3 5 = c 3 5 := congrFun hx68.1 5
              have ht68_6 : c68 3 6 = c 3 6 := congrFun hx68.1 6
              have ht68_8 : c68 3 8 = c 3 8 := congrFun hx68.1 8
              have ht68_9 : c68 3 9 = c 3 9 := congrFun hx68.1 9
              have ht68_10 : c68 3 10 = c 3 10 := congrFun hx68.1 10
              have h4_68 : c68 0 4 = (u1).2 0 4 := by rw [hc68]; exact k_wrong_4
              exact K59 _ (by have s9 := hc68.symm; subst s9; exact (if_neg h59).symm) hR68 hx68 h4_68 (fun h9 => by exfalso; revert h9; rw [hc68]; exact k_wrong_5 (by decide))
        · refine T_aload_n (am_dec tX12_clause_0 20 rfl) rfl ?_
          refine T_iconst 3 (am_dec tX12_clause_0 21 rfl) rfl ⟨by decide, by decide⟩ ?_
          refine T_aload_n (am_dec tX12_clause_0 22 rfl) rfl ?_
          refine T_getfield 11 4 (am_dec tX12_clause_0 23 rfl) flX12_169_11 (md_obj hl) rfl ?_
          refine T_callV (as := [aI 3, aI ((u1).2 0 4)]) rfl (am_dec tX12_clause_0 24 rfl) lkX12_189 (md_obj hl) rfl rfl (Nat.le_of_ble_eq_true rfl) (by omega) (mk_wrong (d := d - 1) hl 3 ((u1).2 0 4)   ) (fun _ => ?_)
          refine T_nmH (W := fun x9 => mdW w b x9 q) (v := k_wrong ((u1).2) 3 ((u1).2 0 4)) (fun c45 hc45 => ?_)
          have hR45 : RdV c45 := by rw [hc45]; exact (k_wrong_x hR1).1
          have hR9 := hR45
          obtain ⟨ra45, rb45, rc45⟩ := hR9
          have hx45 : Ly c c45 := Ly_t hx1 (Ly_x (by rw [hc45]; exact (k_wrong_x hR1).2))
          have hz45 : c45 0 2 = c 0 2 := hx45.2 2 (by decide) (by decide) (by decide)
          have ht45_0 : c45 3 0 = c 3 0 := congrFun hx45.1 0
          have ht45_1 : c45 3 1 = c 3 1 := congrFun hx45.1 1
          have ht45_2 : c45 3 2 = c 3 2 := congrFun hx45.1 2
          have ht45_3 : c45 3 3 = c 3 3 := congrFun hx45.1 3
          have ht45_4 : c45 3 4 = c 3 4 := congrFun hx45.1 4
          have ht45_5 : c45 3 5 = c 3 5 := congrFun hx45.1 5
          have ht45_6 : c45 3 6 = c 3 6 := congrFun hx45.1 6
          have ht45_8 : c45 3 8 = c 3 8 := congrFun hx45.1 8
          have ht45_9 : c45 3 9 = c 3 9 := congrFun hx45.1 9
          have ht45_10 : c45 3 10 = c 3 10 := congrFun hx45.1 10
          have h4_45 : c45 0 4 = (u1).2 0 4 := by rw [hc45]; exact k_wrong_4
          refine T_goto 71 (am_dec tX12_clause_0 25 rfl) rfl ?_
          exact K36 _ (by have s9 := hc45.symm; subst s9; exact (if_neg h36).symm) hR45 hx45 h4_45 (fun h9 => by exfalso; revert h9; rw [hc45]; exact k_wrong_5 (by decide))
    · refine T_aload_n (am_dec tX12_clause_0 6 rfl) rfl ?_
      refine T_iconst 1 (am_dec tX12_clause_0 7 rfl) rfl ⟨by decide, by decide⟩ ?_
      refine T_aload_n (am_dec tX12_clause_0 8 rfl) rfl ?_
      refine T_getfield 11 4 (am_dec tX12_clause_0 9 rfl) flX12_169_11 (md_obj hl) rfl ?_
      refine T_callV (as := [aI 1, aI ((u1).2 0 4)]) rfl (am_dec tX12_clause_0 10 rfl) lkX12_189 (md_obj hl) rfl rfl (Nat.le_of_ble_eq_true rfl) (by omega) (mk_wrong (d := d - 1) hl 1 ((u1).2 0 4)   ) (fun _ => ?_)
      refine T_nmH (W := fun x9 => mdW w b x9 q) (v := k_wrong ((u1).2) 1 ((u1).2 0 4)) (fun c16 hc16 => ?_)
      have hR16 : RdV c16 := by rw [hc16]; exact (k_wrong_x hR1).1
      have hR9 := hR16
      obtain ⟨ra16, rb16, rc16⟩ := hR9
      have hx16 : Ly c c16 := Ly_t hx1 (Ly_x (by rw [hc16]; exact (k_wrong_x hR1).2))
      have hz16 : c16 0 2 = c 0 2 := hx16.2 2 (by decide) (by decide) (by decide)
      have ht16_0 : c16 3 0 = c 3 0 := congrFun hx16.1 0
      have ht16_1 : c16 3 1 = c 3 1 := congrFun hx16.1 1
      have ht16_2 : c16 3 2 = c 3 2 := congrFun hx16.1 2
      have ht16_3 : c16 3 3 = c 3 3 := congrFun hx16.1 3
      have ht16_4 : c16 3 4 = c 3 4 := congrFun hx16.1 4
      have ht16_5 : c16 3 5 = c 3 5 := congrFun hx16.1 5
      have ht16_6 : c16 3 6 = c 3 6 := congrFun hx16.1 6
      have ht16_8 : c16 3 8 = c 3 8 := congrFun hx16.1 8
      have ht16_9 : c16 3 9 = c 3 9 := congrFun hx16.1 9
      have ht16_10 : c16 3 10 = c 3 10 := congrFun hx16.1 10
      have h4_16 : c16 0 4 = (u1).2 0 4 := by rw [hc16]; exact k_wrong_4
      refine T_goto 71 (am_dec tX12_clause_0 11 rfl) rfl ?_
      exact K7 _ (by have s9 := hc16.symm; subst s9; exact (if_pos h7).symm) hR16 hx16 h4_16 (fun h9 => by exfalso; revert h9; rw [hc16]; exact k_wrong_5 (by decide))
  exact key _ ⟨rfl, rfl⟩
