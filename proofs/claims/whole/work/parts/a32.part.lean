/-! the model: a part of a rule -/
theorem MI_row {c : am_F} {k i : Nat} {v : Int} (h : MI c) (hk : k ≠ 0) : MI (am_put c k i v) := by
  have e : am_put c k i v 0 = c 0 := am_put_kr (Ne.symm hk)
  unfold MI RdV
  rw [e]
  exact h
theorem MR_47 {c d : am_F} {k o : Int} (h : MR c d k o) : d 0 47 = c 0 47 := h.2.1.2.2 47 (by decide) (by decide) (by decide) (by decide) (by decide)
def k_partHere (c : am_F) : am_F := (let u12 : Int × am_F := k_isWord c 1 12 12 15 23 0 0; (let t15 : Int := (if (u12).1 = 0 then (let u35 : Int × am_F := k_isWord ((u12).2) 6 9 18 19 20 0 0; (if (u35).1 = 0 then (let u55 : Int × am_F := k_isWord ((u35).2) 16 1 25 0 0 0 0; (if (u55).1 = 0 then (let u77 : Int × am_F := k_isWord ((u55).2) 13 15 19 20 0 0 0; (if (u77).1 = 0 then (-1) else 3)) else 2)) else 1)) else 0); (let c15 : am_F := (if (u12).1 = 0 then (let u35 : Int × am_F := k_isWord ((u12).2) 6 9 18 19 20 0 0; (if (u35).1 = 0 then (let u55 : Int × am_F := k_isWord ((u35).2) 16 1 25 0 0 0 0; (if (u55).1 = 0 then (let u77 : Int × am_F := k_isWord ((u55).2) 13 15 19 20 0 0 0; ((u77).2)) else ((u55).2))) else ((u35).2))) else ((u12).2)); (let c91 : am_F := (if t15 = (-1) then k_wrong c15 1 (c15 0 4) else (if c15 0 47 = 8 then k_wrong c15 3 (c15 0 4) else c15)); (if c91 0 5 = 0 then (let c133 : am_F := k_skipWord c91; (let c164 : am_F := (if t15 = 0 then mr_or (am_put (am_put c133 (278 + (c133 0 47).toNat) 0 t15) (278 + (c133 0 47).toNat) 1 (c133 0 49)) else mr_sum (am_put (am_put c133 (278 + (c133 0 47).toNat) 0 t15) (278 + (c133 0 47).toNat) 1 (c133 0 49))); k_sign (am_put (am_put c164 (278 + (c164 0 47).toNat) 2 (c164 0 49)) 0 47 ((c164 0 47) + 1)) 59)) else c91)))))
theorem mk_partHere {S : am_S} {d u : Nat} {w : AH} {b : Nat} (hl : b + 735 ≤ w.length) {c : am_F} {q : am_F}  (hM : MI c) (hpp : 0 ≤ c 0 47 ∧ c 0 47 ≤ 8)  (hd : 34 ≤ d) : am_Out S zX12_partHere d u [aR b] (mdW w b c q) (.inl none) (mdW w b (k_partHere c) q) := by
  have key : ∀ Q : AO → AH → Prop, Q (.inl none) (mdW w b (k_partHere c) q) → am_M S zX12_partHere d u [aR b] (mdW w b c q) Q := by
    intro Q hQ
    refine am_body rfl (by decide +kernel) rfl (am_cats_cons rfl (am_cats_nil)) (Nat.le_of_ble_eq_true rfl) (?_ : am_T _ _ _ _ _ 0 [some (aR b), none] [] (mdW w b c q))
    have hM9 := hM
    obtain ⟨hMr, hM2, hM3, hM4, hM5⟩ := hM9
    have hR := hMr
    obtain ⟨r1, r2, r3⟩ := hMr
    have hMR0 := MR_r hM
    refine T_aload_n (am_dec tX12_partHere_0 0 rfl) rfl ?_
    refine T_iconst 1 (am_dec tX12_partHere_0 1 rfl) rfl ⟨by decide, by decide⟩ ?_
    refine T_bipush 12 (am_dec tX12_partHere_0 2 rfl) rfl ⟨by decide, by decide⟩ ?_
    refine T_bipush 12 (am_dec tX12_partHere_0 3 rfl) rfl ⟨by decide, by decide⟩ ?_
    refine T_bipush 15 (am_dec tX12_partHere_0 4 rfl) rfl ⟨by decide, by decide⟩ ?_
    refine T_bipush 23 (am_dec tX12_partHere_0 5 rfl) rfl ⟨by decide, by decide⟩ ?_
    refine T_iconst 0 (am_dec tX12_partHere_0 6 rfl) rfl ⟨by decide, by decide⟩ ?_
    refine T_iconst 0 (am_dec tX12_partHere_0 7 rfl) rfl ⟨by decide, by decide⟩ ?_
    refine T_callV (as := [aI 1, aI 12, aI 12, aI 15, aI 23, aI 0, aI 0]) rfl (am_dec tX12_partHere_0 8 rfl) lkX12_215 (md_obj hl) rfl rfl (Nat.le_of_ble_eq_true rfl) (by omega) (mk_isWord (d := d - 1) hl 1 12 12 15 23 0 0  hMR0.1 (by omega) (by omega) (by omega) (by omega) (by omega) (by omega) (by omega) (by omega)) (fun _ => ?_)
    obtain ⟨u12, hu12⟩ : ∃ x9, x9 = k_isWord c 1 12 12 15 23 0 0 := ⟨_, rfl⟩
    rw [← hu12]
    have hb12 := k_isWord_b c 1 12 12 15 23 0 0
    rw [← hu12] at hb12
    have hm12 : MR c (u12).2 (0) (0) := by rw [hu12]; exact MR_le (MR_E hMR0 (Ea_isWord (Ea_r hMR0.1) (by decide)).1) (by omega)
    have hR_hm12 : RdV (u12).2 := hm12.1
    obtain ⟨rahm12, rbhm12, rchm12⟩ : RdV (u12).2 := hR_hm12
    have hohm12 : (u12).2 0 50 = c 0 50 + (0) := hm12.2.2.2.1
    have hnhm12 := hm12.2.2.1
    have hghm12 := MR_at hm12
    have hyhm12 := hm12.2.1.1
    have hf12 : (u12).2 0 5 = c 0 5 := by rw [hu12]; exact k_isWord_5 _ _ _ _ _ _ _ _
    have h47hm12 : (u12).2 0 47 = c 0 47 := MR_47 hm12
    have K15 : ∀ (t15 : Int), ∀ (c15 : am_F), t15 = (if (u12).1 = 0 then (let u35 : Int × am_F := k_isWord ((u12).2) 6 9 18 19 20 0 0; (if (u35).1 = 0 then (let u55 : Int × am_F := k_isWord ((u35).2) 16 1 25 0 0 0 0; (if (u55).1 = 0 then (let u77 : Int × am_F := k_isWord ((u55).2) 13 15 19 20 0 0 0; (if (u77).1 = 0 then (-1) else 3)) else 2)) else 1)) else 0) → c15 = (if (u12).1 = 0 then (let u35 : Int × am_F := k_isWord ((u12).2) 6 9 18 19 20 0 0; (if (u35).1 = 0 then (let u55 : Int × am_F := k_isWord ((u35).2) 16 1 25 0 0 0 0; (if (u55).1 = 0 then (let u77 : Int × am_F := k_isWord ((u55).2) 13 15 19 20 0 0 0; ((u77).2)) else ((u55).2))) else ((u35).2))) else ((u12).2)) →  am_T S zX12_partHere d u Q 88 [some (aR b), none] [aI t15] (mdW w b c15 q) := by
      intro t15 c15 ht15 hc15 
      have hxt15 := ht15
      dsimp only at hxt15
      have hm15 : MR c c15 (0) (0) := by
        rw [hc15]
        try dsimp only
        have m35 : MR c (k_isWord (u12).2 6 9 18 19 20 0 0).2 0 0 := MR_le (MR_E hm12 (Ea_isWord (la := 6) (lb := 9) (lc := 18) (ld := 19) (le := 20) (lf := 0) (lg := 0) (Ea_r hm12.1) (by decide)).1) (by omega)
        have m55 : MR c (k_isWord (k_isWord (u12).2 6 9 18 19 20 0 0).2 16 1 25 0 0 0 0).2 0 0 := MR_le (MR_E m35 (Ea_isWord (la := 16) (lb := 1) (lc := 25) (ld := 0) (le := 0) (lf := 0) (lg := 0) (Ea_r m35.1) (by decide)).1) (by omega)
        have m77 : MR c (k_isWord (k_isWord (k_isWord (u12).2 6 9 18 19 20 0 0).2 16 1 25 0 0 0 0).2 13 15 19 20 0 0 0).2 0 0 := MR_le (MR_E m55 (Ea_isWord (la := 13) (lb := 15) (lc := 19) (ld := 20) (le := 0) (lf := 0) (lg := 0) (Ea_r m55.1) (by decide)).1) (by omega)
        by_cases g1 : (u12).1 = 0
        · rw [if_pos g1]
          by_cases g2 : (k_isWord (u12).2 6 9 18 19 20 0 0).1 = 0
          · rw [if_pos g2]
            by_cases g3 : (k_isWord (k_isWord (u12).2 6 9 18 19 20 0 0).2 16 1 25 0 0 0 0).1 = 0
            · rw [if_pos g3]; exact m77
            · rw [if_neg g3]; exact m55
          · rw [if_neg g2]; exact m35
        · rw [if_neg g1]; exact hm12
      have hR_hm15 : RdV c15 := hm15.1
      obtain ⟨rahm15, rbhm15, rchm15⟩ : RdV c15 := hR_hm15
      have hohm15 : c15 0 50 = c 0 50 + (0) := hm15.2.2.2.1
      have hnhm15 := hm15.2.2.1
      have hghm15 := MR_at hm15
      have hyhm15 := hm15.2.1.1
      have h47hm15 : c15 0 47 = c 0 47 := MR_47 hm15
      refine T_istore_n (ls' := [some (aR b), some (aI t15)]) (am_dec tX12_partHere_1 9 rfl) (by decide) rfl ?_
      refine T_iload_n (am_dec tX12_partHere_1 10 rfl) rfl ?_
      refine T_iconst (-1) (am_dec tX12_partHere_1 11 rfl) rfl ⟨by decide, by decide⟩ ?_
      have K91 : ∀ (c91 : am_F), c91 = (if t15 = (-1) then k_wrong c15 1 (c15 0 4) else (if c15 0 47 = 8 then k_wrong c15 3 (c15 0 4) else c15)) →  am_T S zX12_partHere d u Q 124 [some (aR b), some (aI t15)] [] (mdW w b c91 q) := by
        intro c91 hc91 
        have hm91 : MR c c91 (0) (0) := by
          rw [hc91]
          try dsimp only
          by_cases g1 : t15 = -1
          · rw [if_pos g1]; exact MR_le (MR_E hm15 (Ea_wrong (j := 1000) (Ea_r hm15.1) (by decide))) (by omega)
          · rw [if_neg g1]
            by_cases g2 : c15 0 47 = 8
            · rw [if_pos g2]; exact MR_le (MR_E hm15 (Ea_wrong (j := 1000) (Ea_r hm15.1) (by decide))) (by omega)
            · rw [if_neg g2]; exact hm15
        have hR_hm91 : RdV c91 := hm91.1
        obtain ⟨rahm91, rbhm91, rchm91⟩ : RdV c91 := hR_hm91
        have hohm91 : c91 0 50 = c 0 50 + (0) := hm91.2.2.2.1
        have hnhm91 := hm91.2.2.1
        have hghm91 := MR_at hm91
        have hyhm91 := hm91.2.1.1
        have h47hm91 : c91 0 47 = c 0 47 := MR_47 hm91
        have hj91 : c91 0 5 = 0 → c15 0 47 ≠ 8 := by
          rw [hc91]
          intro e9 e8
          revert e9
          try dsimp only
          by_cases g1 : t15 = -1
          · rw [if_pos g1]; exact fun e9 => k_wrong_5 (by decide) e9
          · rw [if_neg g1, if_pos e8]; exact fun e9 => k_wrong_5 (by decide) e9
        refine T_aload_n (am_dec tX12_partHere_1 28 rfl) rfl ?_
        refine T_getfield 11 5 (am_dec tX12_partHere_1 29 rfl) flX12_176_11 (md_obj hl) rfl ?_
        refine T_if_eq 132 (am_dec tX12_partHere_1 30 rfl) rfl (fun h128 => ?_) (fun h128 => ?_)
        · refine T_aload_n (am_dec tX12_partHere_1 32 rfl) rfl ?_
          refine T_callV (as := []) rfl (am_dec tX12_partHere_1 33 rfl) lkX12_219 (md_obj hl) rfl rfl (Nat.le_of_ble_eq_true rfl) (by omega) (mk_skipWord (d := d - 1) hl   hm91.1 (by omega)) (fun _ => ?_)
          refine T_nmH (W := fun x9 => mdW w b x9 q) (v := k_skipWord c91) (fun c133 hc133 => ?_)
          have hm133 : MR c c133 (0) (0) := by rw [hc133]; exact MR_le (MR_E hm91 (Ea_skipn 601 (Ea_r hm91.1)).1) (by omega)
          have hR_hm133 : RdV c133 := hm133.1
          obtain ⟨rahm133, rbhm133, rchm133⟩ : RdV c133 := hR_hm133
          have hohm133 : c133 0 50 = c 0 50 + (0) := hm133.2.2.2.1
          have hnhm133 := hm133.2.2.1
          have hghm133 := MR_at hm133
          have hyhm133 := hm133.2.1.1
          have h47hm133 : c133 0 47 = c 0 47 := MR_47 hm133
          refine T_aload_n (am_dec tX12_partHere_1 34 rfl) rfl ?_
          refine T_getfield 11 52 (am_dec tX12_partHere_1 35 rfl) flX12_118_11 (md_obj hl) rfl ?_
          refine T_aload_n (am_dec tX12_partHere_1 36 rfl) rfl ?_
          refine T_getfield 11 47 (am_dec tX12_partHere_1 37 rfl) flX12_491_11 (md_obj hl) rfl ?_
          refine T_aaloadR (r := b + (278 + (c133 0 47).toNat)) (am_dec tX12_partHere_1 38 rfl) (by decide) (mh_readPart hl) (by omega) (by omega) (if_pos (by omega)) ?_
          refine T_iconst 0 (am_dec tX12_partHere_1 39 rfl) rfl ⟨by decide, by decide⟩ ?_
          refine T_iload_n (am_dec tX12_partHere_2 0 rfl) rfl ?_
          refine T_iastore (am_dec tX12_partHere_2 1 rfl) (mr_readPart hl (i := (c133 0 47)) (by omega) (by omega)) (by omega) (by omega) ?_
          refine am_wE (w2 := mdW w b (am_put c133 (278 + (c133 0 47).toNat) 0 t15) q) (md_pc (by omega) (fun f g => md_t_readPart f g (by omega))) ?_
          refine T_aload_n (am_dec tX12_partHere_2 2 rfl) rfl ?_
          refine T_getfield 11 52 (am_dec tX12_partHere_2 3 rfl) flX12_118_11 (md_obj hl) rfl ?_
          refine T_aload_n (am_dec tX12_partHere_2 4 rfl) rfl ?_
          refine T_getfield 11 47 (am_dec tX12_partHere_2 5 rfl) flX12_491_11 (md_obj hl) (md_fe rfl (am_put_k (by omega))) ?_
          refine T_aaloadR (r := b + (278 + (c133 0 47).toNat)) (am_dec tX12_partHere_2 6 rfl) (by decide) (mh_readPart hl) (by omega) (by omega) (if_pos (by omega)) ?_
          refine T_iconst 1 (am_dec tX12_partHere_2 7 rfl) rfl ⟨by decide, by decide⟩ ?_
          refine T_aload_n (am_dec tX12_partHere_2 8 rfl) rfl ?_
          refine T_getfield 11 49 (am_dec tX12_partHere_2 9 rfl) flX12_452_11 (md_obj hl) (md_fe rfl (am_put_k (by omega))) ?_
          refine T_iastore (am_dec tX12_partHere_2 10 rfl) (mr_readPart hl (i := (c133 0 47)) (by omega) (by omega)) (by omega) (by omega) ?_
          refine am_wE (w2 := mdW w b (am_put (am_put c133 (278 + (c133 0 47).toNat) 0 t15) (278 + (c133 0 47).toNat) 1 (c133 0 49)) q) (md_pc (by omega) (fun f g => md_t_readPart f g (by omega))) ?_
          refine T_iload_n (am_dec tX12_partHere_2 11 rfl) rfl ?_
          have hMIt : MI (am_put (am_put c133 (278 + (c133 0 47).toNat) 0 t15) (278 + (c133 0 47).toNat) 1 (c133 0 49)) := MI_row (MI_row (MR_I hM hm133 (by omega) (by omega)) (by omega)) (by omega)
          have K164 : ∀ (c164 : am_F), c164 = (if t15 = 0 then mr_or (am_put (am_put c133 (278 + (c133 0 47).toNat) 0 t15) (278 + (c133 0 47).toNat) 1 (c133 0 49)) else mr_sum (am_put (am_put c133 (278 + (c133 0 47).toNat) 0 t15) (278 + (c133 0 47).toNat) 1 (c133 0 49))) →  am_T S zX12_partHere d u Q 178 [some (aR b), none] [] (mdW w b c164 q) := by
            intro c164 hc164 
            have hm164 : MR (am_put (am_put c133 (278 + (c133 0 47).toNat) 0 t15) (278 + (c133 0 47).toNat) 1 (c133 0 49)) c164 0 0 := by
              rw [hc164]
              by_cases g1 : t15 = 0
              · rw [if_pos g1]; exact mr_or_I hMIt
              · rw [if_neg g1]; exact mr_sum_I hMIt
            have hR164 : RdV c164 := hm164.1
            obtain ⟨ra164, rb164, rc164⟩ : RdV c164 := hm164.1
            have hn164 := hm164.2.2.1
            have h47_164 : c164 0 47 = c133 0 47 := (MR_47 hm164).trans (show (am_put (am_put c133 (278 + (c133 0 47).toNat) 0 t15) (278 + (c133 0 47).toNat) 1 (c133 0 49)) 0 47 = c133 0 47 by rw [am_put_kr (by omega), am_put_kr (by omega)])
            refine T_aload_n (am_dec tX12_partHere_2 18 rfl) rfl ?_
            refine T_getfield 11 52 (am_dec tX12_partHere_2 19 rfl) flX12_118_11 (md_obj hl) rfl ?_
            refine T_aload_n (am_dec tX12_partHere_2 20 rfl) rfl ?_
            refine T_getfield 11 47 (am_dec tX12_partHere_2 21 rfl) flX12_491_11 (md_obj hl) rfl ?_
            refine T_aaloadR (r := b + (278 + (c164 0 47).toNat)) (am_dec tX12_partHere_2 22 rfl) (by decide) (mh_readPart hl) (by omega) (by omega) (if_pos (by omega)) ?_
            refine T_iconst 2 (am_dec tX12_partHere_2 23 rfl) rfl ⟨by decide, by decide⟩ ?_
            refine T_aload_n (am_dec tX12_partHere_2 24 rfl) rfl ?_
            refine T_getfield 11 49 (am_dec tX12_partHere_2 25 rfl) flX12_452_11 (md_obj hl) rfl ?_
            refine T_iastore (am_dec tX12_partHere_2 26 rfl) (mr_readPart hl (i := (c164 0 47)) (by omega) (by omega)) (by omega) (by omega) ?_
            refine am_wE (w2 := mdW w b (am_put c164 (278 + (c164 0 47).toNat) 2 (c164 0 49)) q) (md_pc (by omega) (fun f g => md_t_readPart f g (by omega))) ?_
            refine T_aload_n (am_dec tX12_partHere_2 27 rfl) rfl ?_
            refine T_dup (am_dec tX12_partHere_2 28 rfl) rfl ?_
            refine T_getfield 11 47 (am_dec tX12_partHere_2 29 rfl) flX12_491_11 (md_obj hl) (md_fe rfl (am_put_k (by omega))) ?_
            refine T_iconst 1 (am_dec tX12_partHere_2 30 rfl) rfl ⟨by decide, by decide⟩ ?_
            refine T_iadd ((c164 0 47) + 1) (am_dec tX12_partHere_2 31 rfl) rfl ⟨by omega, by omega⟩ ?_
            refine T_putfield (fs' := mdO b (am_up ((am_put c164 (278 + (c164 0 47).toNat) 2 (c164 0 49)) 0) 47 ((c164 0 47) + 1)) (q 0)) 11 47 (am_dec tX12_partHere_2 32 rfl) flX12_491_11 rfl rfl rfl trivial (md_obj hl) (Nat.le_of_ble_eq_true rfl) rfl ?_
            refine am_wE (w2 := mdW w b (am_put (am_put c164 (278 + (c164 0 47).toNat) 2 (c164 0 49)) 0 47 ((c164 0 47) + 1)) q) (md_fc) ?_
            refine T_aload_n (am_dec tX12_partHere_2 33 rfl) rfl ?_
            refine T_bipush 59 (am_dec tX12_partHere_2 34 rfl) rfl ⟨by decide, by decide⟩ ?_
            refine T_callV (as := [aI 59]) rfl (am_dec tX12_partHere_2 35 rfl) lkX12_264 (md_obj hl) rfl rfl (Nat.le_of_ble_eq_true rfl) (by omega) (mk_sign (d := d - 1) hl 59  (RdV_h (j := 47) (v := ((c164 0 47) + 1)) (by decide) (RdV_k (k := (278 + (c164 0 47).toNat)) (i := 2) (v := (c164 0 49)) (by omega) (by omega) hR164)) (by omega) (by omega)) (fun _ => ?_)
            refine T_nmH (W := fun x9 => mdW w b x9 q) (v := k_sign (am_put (am_put c164 (278 + (c164 0 47).toNat) 2 (c164 0 49)) 0 47 ((c164 0 47) + 1)) 59) (fun c206 hc206 => ?_)
            have hR206 : RdV c206 := by rw [hc206]; exact (k_sign_x (RdV_h (j := 47) (v := ((c164 0 47) + 1)) (by decide) (RdV_k (k := (278 + (c164 0 47).toNat)) (i := 2) (v := (c164 0 49)) (by omega) (by omega) hR164)) (by omega)).1
            have hR9 := hR206
            obtain ⟨ra206, rb206, rc206⟩ := hR9
            exact T_return (am_dec tX12_partHere_2 36 rfl) rfl (am_tr (fun (x9 : am_F) => Q (.inl none) (mdW w b x9 q)) (y := c206) (show (k_partHere c) = c206 from (by have s9 := hu12.symm; subst s9; have s9 := ht15.symm; subst s9; have s9 := hc15.symm; subst s9; have s9 := hc91.symm; subst s9; have s9 := hc133.symm; subst s9; have s9 := hc164.symm; subst s9; have s9 := hc206.symm; subst s9; exact (if_pos h128))) hQ)
          refine T_if_ne 174 (am_dec tX12_partHere_2 12 rfl) rfl (fun h164 => ?_) (fun h164 => ?_)
          · refine T_aload_n (am_dec tX12_partHere_2 16 rfl) rfl ?_
            refine T_callV (as := []) rfl (am_dec tX12_partHere_2 17 rfl) lkX12_476 (md_obj hl) rfl rfl (Nat.le_of_ble_eq_true rfl) (by omega) (mr_sum_C hl (by omega) hMIt) (fun _ => ?_)
            refine T_nmH (W := fun x9 => mdW w b x9 q) (v := mr_sum (am_put (am_put c133 (278 + (c133 0 47).toNat) 0 t15) (278 + (c133 0 47).toNat) 1 (c133 0 49))) (fun c175 hc175 => ?_)
            have hm175 : MR (am_put (am_put c133 (278 + (c133 0 47).toNat) 0 t15) (278 + (c133 0 47).toNat) 1 (c133 0 49)) c175 0 0 := by rw [hc175]; exact mr_sum_I hMIt
            refine T_weak (ls' := [some (aR b), none]) (am_sub_s (am_sub_n am_sub_nil)) ?_
            exact K164 _ (by have s9 := hc175.symm; subst s9; exact (if_neg h164).symm) 
          · refine T_aload_n (am_dec tX12_partHere_2 13 rfl) rfl ?_
            refine T_callV (as := []) rfl (am_dec tX12_partHere_2 14 rfl) lkX12_473 (md_obj hl) rfl rfl (Nat.le_of_ble_eq_true rfl) (by omega) (mr_or_C hl (by omega) hMIt) (fun _ => ?_)
            refine T_nmH (W := fun x9 => mdW w b x9 q) (v := mr_or (am_put (am_put c133 (278 + (c133 0 47).toNat) 0 t15) (278 + (c133 0 47).toNat) 1 (c133 0 49))) (fun c168 hc168 => ?_)
            have hm168 : MR (am_put (am_put c133 (278 + (c133 0 47).toNat) 0 t15) (278 + (c133 0 47).toNat) 1 (c133 0 49)) c168 0 0 := by rw [hc168]; exact mr_or_I hMIt
            refine T_goto 178 (am_dec tX12_partHere_2 15 rfl) rfl ?_
            refine T_weak (ls' := [some (aR b), none]) (am_sub_s (am_sub_n am_sub_nil)) ?_
            exact K164 _ (by have s9 := hc168.symm; subst s9; exact (if_pos h164).symm) 
        · exact T_return (am_dec tX12_partHere_1 31 rfl) rfl (am_tr (fun (x9 : am_F) => Q (.inl none) (mdW w b x9 q)) (y := c91) (show (k_partHere c) = c91 from (by have s9 := hu12.symm; subst s9; have s9 := ht15.symm; subst s9; have s9 := hc15.symm; subst s9; have s9 := hc91.symm; subst s9; exact (if_neg h128))) hQ)
      refine T_icmp_ne 106 (am_dec tX12_partHere_1 12 rfl) rfl (fun h91 => ?_) (fun h91 => ?_)
      · refine T_aload_n (am_dec tX12_partHere_1 19 rfl) rfl ?_
        refine T_getfield 11 47 (am_dec tX12_partHere_1 20 rfl) flX12_491_11 (md_obj hl) rfl ?_
        refine T_bipush 8 (am_dec tX12_partHere_1 21 rfl) rfl ⟨by decide, by decide⟩ ?_
        have K112 : ∀ (c112 : am_F), c112 = (if c15 0 47 = 8 then k_wrong c15 3 (c15 0 4) else c15) →  am_T S zX12_partHere d u Q 124 [some (aR b), some (aI t15)] [] (mdW w b c112 q) := by
          intro c112 hc112 
          exact K91 _ (by have s9 := hc112.symm; subst s9; exact (if_neg h91).symm) 
        refine T_icmp_ne 124 (am_dec tX12_partHere_1 22 rfl) rfl (fun h112 => ?_) (fun h112 => ?_)
        · exact K112 _ (if_neg h112).symm 
        · refine T_aload_n (am_dec tX12_partHere_1 23 rfl) rfl ?_
          refine T_iconst 3 (am_dec tX12_partHere_1 24 rfl) rfl ⟨by decide, by decide⟩ ?_
          refine T_aload_n (am_dec tX12_partHere_1 25 rfl) rfl ?_
          refine T_getfield 11 4 (am_dec tX12_partHere_1 26 rfl) flX12_169_11 (md_obj hl) rfl ?_
          refine T_callV (as := [aI 3, aI (c15 0 4)]) rfl (am_dec tX12_partHere_1 27 rfl) lkX12_189 (md_obj hl) rfl rfl (Nat.le_of_ble_eq_true rfl) (by omega) (mk_wrong (d := d - 1) hl 3 (c15 0 4)   ) (fun _ => ?_)
          refine T_nmH (W := fun x9 => mdW w b x9 q) (v := k_wrong c15 3 (c15 0 4)) (fun c121 hc121 => ?_)
          have hm121 : MR c c121 (0 + 1000) (0) := by rw [hc121]; exact MR_le (MR_E hm15 (Ea_wrong (j := 1000) (Ea_r hm15.1) (by decide))) (by omega)
          have hR_hm121 : RdV c121 := hm121.1
          obtain ⟨rahm121, rbhm121, rchm121⟩ : RdV c121 := hR_hm121
          have hohm121 : c121 0 50 = c 0 50 + (0) := hm121.2.2.2.1
          have hnhm121 := hm121.2.2.1
          have hghm121 := MR_at hm121
          have hyhm121 := hm121.2.1.1
          have h47hm121 : c121 0 47 = c 0 47 := MR_47 hm121
          exact K112 _ (by have s9 := hc121.symm; subst s9; exact (if_pos h112).symm) 
      · refine T_aload_n (am_dec tX12_partHere_1 13 rfl) rfl ?_
        refine T_iconst 1 (am_dec tX12_partHere_1 14 rfl) rfl ⟨by decide, by decide⟩ ?_
        refine T_aload_n (am_dec tX12_partHere_1 15 rfl) rfl ?_
        refine T_getfield 11 4 (am_dec tX12_partHere_1 16 rfl) flX12_169_11 (md_obj hl) rfl ?_
        refine T_callV (as := [aI 1, aI (c15 0 4)]) rfl (am_dec tX12_partHere_1 17 rfl) lkX12_189 (md_obj hl) rfl rfl (Nat.le_of_ble_eq_true rfl) (by omega) (mk_wrong (d := d - 1) hl 1 (c15 0 4)   ) (fun _ => ?_)
        refine T_nmH (W := fun x9 => mdW w b x9 q) (v := k_wrong c15 1 (c15 0 4)) (fun c100 hc100 => ?_)
        have hm100 : MR c c100 (0 + 1000) (0) := by rw [hc100]; exact MR_le (MR_E hm15 (Ea_wrong (j := 1000) (Ea_r hm15.1) (by decide))) (by omega)
        have hR_hm100 : RdV c100 := hm100.1
        obtain ⟨rahm100, rbhm100, rchm100⟩ : RdV c100 := hR_hm100
        have hohm100 : c100 0 50 = c 0 50 + (0) := hm100.2.2.2.1
        have hnhm100 := hm100.2.2.1
        have hghm100 := MR_at hm100
        have hyhm100 := hm100.2.1.1
        have h47hm100 : c100 0 47 = c 0 47 := MR_47 hm100
        refine T_goto 124 (am_dec tX12_partHere_1 18 rfl) rfl ?_
        exact K91 _ (by have s9 := hc100.symm; subst s9; exact (if_pos h91).symm) 
    refine T_if_eq 22 (am_dec tX12_partHere_0 9 rfl) rfl (fun h15 => ?_) (fun h15 => ?_)
    · refine T_aload_n (am_dec tX12_partHere_0 12 rfl) rfl ?_
      refine T_bipush 6 (am_dec tX12_partHere_0 13 rfl) rfl ⟨by decide, by decide⟩ ?_
      refine T_bipush 9 (am_dec tX12_partHere_0 14 rfl) rfl ⟨by decide, by decide⟩ ?_
      refine T_bipush 18 (am_dec tX12_partHere_0 15 rfl) rfl ⟨by decide, by decide⟩ ?_
      refine T_bipush 19 (am_dec tX12_partHere_0 16 rfl) rfl ⟨by decide, by decide⟩ ?_
      refine T_bipush 20 (am_dec tX12_partHere_0 17 rfl) rfl ⟨by decide, by decide⟩ ?_
      refine T_iconst 0 (am_dec tX12_partHere_0 18 rfl) rfl ⟨by decide, by decide⟩ ?_
      refine T_iconst 0 (am_dec tX12_partHere_0 19 rfl) rfl ⟨by decide, by decide⟩ ?_
      refine T_callV (as := [aI 6, aI 9, aI 18, aI 19, aI 20, aI 0, aI 0]) rfl (am_dec tX12_partHere_0 20 rfl) lkX12_215 (md_obj hl) rfl rfl (Nat.le_of_ble_eq_true rfl) (by omega) (mk_isWord (d := d - 1) hl 6 9 18 19 20 0 0  hm12.1 (by omega) (by omega) (by omega) (by omega) (by omega) (by omega) (by omega) (by omega)) (fun _ => ?_)
      obtain ⟨u35, hu35⟩ : ∃ x9, x9 = k_isWord ((u12).2) 6 9 18 19 20 0 0 := ⟨_, rfl⟩
      rw [← hu35]
      have hb35 := k_isWord_b ((u12).2) 6 9 18 19 20 0 0
      rw [← hu35] at hb35
      have hm35 : MR c (u35).2 (0) (0) := by rw [hu35]; exact MR_le (MR_E hm12 (Ea_isWord (Ea_r hm12.1) (by decide)).1) (by omega)
      have hR_hm35 : RdV (u35).2 := hm35.1
      obtain ⟨rahm35, rbhm35, rchm35⟩ : RdV (u35).2 := hR_hm35
      have hohm35 : (u35).2 0 50 = c 0 50 + (0) := hm35.2.2.2.1
      have hnhm35 := hm35.2.2.1
      have hghm35 := MR_at hm35
      have hyhm35 := hm35.2.1.1
      have hf35 : (u35).2 0 5 = (u12).2 0 5 := by rw [hu35]; exact k_isWord_5 _ _ _ _ _ _ _ _
      have h47hm35 : (u35).2 0 47 = c 0 47 := MR_47 hm35
      have K38 : ∀ (t38 : Int), ∀ (c38 : am_F), t38 = (if (u35).1 = 0 then (let u55 : Int × am_F := k_isWord ((u35).2) 16 1 25 0 0 0 0; (if (u55).1 = 0 then (let u77 : Int × am_F := k_isWord ((u55).2) 13 15 19 20 0 0 0; (if (u77).1 = 0 then (-1) else 3)) else 2)) else 1) → c38 = (if (u35).1 = 0 then (let u55 : Int × am_F := k_isWord ((u35).2) 16 1 25 0 0 0 0; (if (u55).1 = 0 then (let u77 : Int × am_F := k_isWord ((u55).2) 13 15 19 20 0 0 0; ((u77).2)) else ((u55).2))) else ((u35).2)) →  am_T S zX12_partHere d u Q 88 [some (aR b), none] [aI t38] (mdW w b c38 q) := by
        intro t38 c38 ht38 hc38 
        have hxt38 := ht38
        dsimp only at hxt38
        exact K15 _ _ (by have s9 := hu35.symm; subst s9; have s9 := ht38.symm; subst s9; have s9 := hc38.symm; subst s9; exact (if_pos h15).symm) (by have s9 := hu35.symm; subst s9; have s9 := ht38.symm; subst s9; have s9 := hc38.symm; subst s9; exact (if_pos h15).symm) 
      refine T_if_eq 45 (am_dec tX12_partHere_0 21 rfl) rfl (fun h38 => ?_) (fun h38 => ?_)
      · refine T_aload_n (am_dec tX12_partHere_0 24 rfl) rfl ?_
        refine T_bipush 16 (am_dec tX12_partHere_0 25 rfl) rfl ⟨by decide, by decide⟩ ?_
        refine T_iconst 1 (am_dec tX12_partHere_0 26 rfl) rfl ⟨by decide, by decide⟩ ?_
        refine T_bipush 25 (am_dec tX12_partHere_0 27 rfl) rfl ⟨by decide, by decide⟩ ?_
        refine T_iconst 0 (am_dec tX12_partHere_0 28 rfl) rfl ⟨by decide, by decide⟩ ?_
        refine T_iconst 0 (am_dec tX12_partHere_0 29 rfl) rfl ⟨by decide, by decide⟩ ?_
        refine T_iconst 0 (am_dec tX12_partHere_0 30 rfl) rfl ⟨by decide, by decide⟩ ?_
        refine T_iconst 0 (am_dec tX12_partHere_0 31 rfl) rfl ⟨by decide, by decide⟩ ?_
        refine T_callV (as := [aI 16, aI 1, aI 25, aI 0, aI 0, aI 0, aI 0]) rfl (am_dec tX12_partHere_0 32 rfl) lkX12_215 (md_obj hl) rfl rfl (Nat.le_of_ble_eq_true rfl) (by omega) (mk_isWord (d := d - 1) hl 16 1 25 0 0 0 0  hm35.1 (by omega) (by omega) (by omega) (by omega) (by omega) (by omega) (by omega) (by omega)) (fun _ => ?_)
        obtain ⟨u55, hu55⟩ : ∃ x9, x9 = k_isWord ((u35).2) 16 1 25 0 0 0 0 := ⟨_, rfl⟩
        rw [← hu55]
        have hb55 := k_isWord_b ((u35).2) 16 1 25 0 0 0 0
        rw [← hu55] at hb55
        have hm55 : MR c (u55).2 (0) (0) := by rw [hu55]; exact MR_le (MR_E hm35 (Ea_isWord (Ea_r hm35.1) (by decide)).1) (by omega)
        have hR_hm55 : RdV (u55).2 := hm55.1
        obtain ⟨rahm55, rbhm55, rchm55⟩ : RdV (u55).2 := hR_hm55
        have hohm55 : (u55).2 0 50 = c 0 50 + (0) := hm55.2.2.2.1
        have hnhm55 := hm55.2.2.1
        have hghm55 := MR_at hm55
        have hyhm55 := hm55.2.1.1
        have hf55 : (u55).2 0 5 = (u35).2 0 5 := by rw [hu55]; exact k_isWord_5 _ _ _ _ _ _ _ _
        have h47hm55 : (u55).2 0 47 = c 0 47 := MR_47 hm55
        have K58 : ∀ (t58 : Int), ∀ (c58 : am_F), t58 = (if (u55).1 = 0 then (let u77 : Int × am_F := k_isWord ((u55).2) 13 15 19 20 0 0 0; (if (u77).1 = 0 then (-1) else 3)) else 2) → c58 = (if (u55).1 = 0 then (let u77 : Int × am_F := k_isWord ((u55).2) 13 15 19 20 0 0 0; ((u77).2)) else ((u55).2)) →  am_T S zX12_partHere d u Q 88 [some (aR b), none] [aI t58] (mdW w b c58 q) := by
          intro t58 c58 ht58 hc58 
          have hxt58 := ht58
          dsimp only at hxt58
          exact K38 _ _ (by have s9 := hu55.symm; subst s9; have s9 := ht58.symm; subst s9; have s9 := hc58.symm; subst s9; exact (if_pos h38).symm) (by have s9 := hu55.symm; subst s9; have s9 := ht58.symm; subst s9; have s9 := hc58.symm; subst s9; exact (if_pos h38).symm) 
        refine T_if_eq 65 (am_dec tX12_partHere_0 33 rfl) rfl (fun h58 => ?_) (fun h58 => ?_)
        · refine T_aload_n (am_dec tX12_partHere_0 36 rfl) rfl ?_
          refine T_bipush 13 (am_dec tX12_partHere_0 37 rfl) rfl ⟨by decide, by decide⟩ ?_
          refine T_bipush 15 (am_dec tX12_partHere_0 38 rfl) rfl ⟨by decide, by decide⟩ ?_
          refine T_bipush 19 (am_dec tX12_partHere_0 39 rfl) rfl ⟨by decide, by decide⟩ ?_
          refine T_bipush 20 (am_dec tX12_partHere_1 0 rfl) rfl ⟨by decide, by decide⟩ ?_
          refine T_iconst 0 (am_dec tX12_partHere_1 1 rfl) rfl ⟨by decide, by decide⟩ ?_
          refine T_iconst 0 (am_dec tX12_partHere_1 2 rfl) rfl ⟨by decide, by decide⟩ ?_
          refine T_iconst 0 (am_dec tX12_partHere_1 3 rfl) rfl ⟨by decide, by decide⟩ ?_
          refine T_callV (as := [aI 13, aI 15, aI 19, aI 20, aI 0, aI 0, aI 0]) rfl (am_dec tX12_partHere_1 4 rfl) lkX12_215 (md_obj hl) rfl rfl (Nat.le_of_ble_eq_true rfl) (by omega) (mk_isWord (d := d - 1) hl 13 15 19 20 0 0 0  hm55.1 (by omega) (by omega) (by omega) (by omega) (by omega) (by omega) (by omega) (by omega)) (fun _ => ?_)
          obtain ⟨u77, hu77⟩ : ∃ x9, x9 = k_isWord ((u55).2) 13 15 19 20 0 0 0 := ⟨_, rfl⟩
          rw [← hu77]
          have hb77 := k_isWord_b ((u55).2) 13 15 19 20 0 0 0
          rw [← hu77] at hb77
          have hm77 : MR c (u77).2 (0) (0) := by rw [hu77]; exact MR_le (MR_E hm55 (Ea_isWord (Ea_r hm55.1) (by decide)).1) (by omega)
          have hR_hm77 : RdV (u77).2 := hm77.1
          obtain ⟨rahm77, rbhm77, rchm77⟩ : RdV (u77).2 := hR_hm77
          have hohm77 : (u77).2 0 50 = c 0 50 + (0) := hm77.2.2.2.1
          have hnhm77 := hm77.2.2.1
          have hghm77 := MR_at hm77
          have hyhm77 := hm77.2.1.1
          have hf77 : (u77).2 0 5 = (u55).2 0 5 := by rw [hu77]; exact k_isWord_5 _ _ _ _ _ _ _ _
          have h47hm77 : (u77).2 0 47 = c 0 47 := MR_47 hm77
          have K80 : ∀ (t80 : Int), t80 = (if (u77).1 = 0 then (-1) else 3) →  am_T S zX12_partHere d u Q 88 [some (aR b), none] [aI t80] (mdW w b (u77).2 q) := by
            intro t80 ht80 
            exact K58 _ _ (by have s9 := hu77.symm; subst s9; have s9 := ht80.symm; subst s9; exact (if_pos h58).symm) (by have s9 := hu77.symm; subst s9; have s9 := ht80.symm; subst s9; exact (if_pos h58).symm) 
          refine T_if_eq 87 (am_dec tX12_partHere_1 5 rfl) rfl (fun h80 => ?_) (fun h80 => ?_)
          · refine T_iconst (-1) (am_dec tX12_partHere_1 8 rfl) rfl ⟨by decide, by decide⟩ ?_
            exact K80 _ (if_pos h80).symm 
          · refine T_iconst 3 (am_dec tX12_partHere_1 6 rfl) rfl ⟨by decide, by decide⟩ ?_
            refine T_goto 88 (am_dec tX12_partHere_1 7 rfl) rfl ?_
            exact K80 _ (if_neg h80).symm 
        · refine T_iconst 2 (am_dec tX12_partHere_0 34 rfl) rfl ⟨by decide, by decide⟩ ?_
          refine T_goto 88 (am_dec tX12_partHere_0 35 rfl) rfl ?_
          exact K58 _ _ (if_neg h58).symm (if_neg h58).symm 
      · refine T_iconst 1 (am_dec tX12_partHere_0 22 rfl) rfl ⟨by decide, by decide⟩ ?_
        refine T_goto 88 (am_dec tX12_partHere_0 23 rfl) rfl ?_
        exact K38 _ _ (if_neg h38).symm (if_neg h38).symm 
    · refine T_iconst 0 (am_dec tX12_partHere_0 10 rfl) rfl ⟨by decide, by decide⟩ ?_
      refine T_goto 88 (am_dec tX12_partHere_0 11 rfl) rfl ?_
      exact K15 _ _ (if_neg h15).symm (if_neg h15).symm 
  exact key _ ⟨rfl, rfl⟩
