/-! the port reader: lots, walks -/
theorem c_fine_0 {p : am_F} (h : p 0 4 ≠ 0) : c_fine p = 0 := if_neg h
theorem c_fine_1 {p : am_F} (h : p 0 4 = 0) : c_fine p = 1 := if_pos h
theorem fine_k {p : am_F} (h : ¬ c_fine p = 0) : p 0 4 = 0 := by
  by_cases e : p 0 4 = 0
  · exact e
  · exact absurd (c_fine_0 e) h
theorem wrong_s {p : am_F} (h : p 0 4 ≠ 0) (a b : Int) : c_wrong p a b = p := if_neg h
theorem wrong_k {p : am_F} {a b : Int} (ha : a ≠ 0) : c_wrong p a b 0 4 ≠ 0 := by
  unfold c_wrong
  split
  · exact ha
  · assumption
theorem number_s {ee p : am_F} (h : p 0 4 ≠ 0) (lo hi : Int) : c_number ee p lo hi = (lo, p) := by
  unfold c_number
  exact if_pos (c_fine_0 h)
theorem word_s {ee p : am_F} (h : p 0 4 ≠ 0) : c_word ee p = (0, p) := by
  unfold c_word
  exact if_pos (c_fine_0 h)
theorem needSign_s {ee p : am_F} (h : p 0 4 ≠ 0) (g : Int) : c_needSign ee p g = p := by
  unfold c_needSign
  exact if_pos (c_fine_0 h)
theorem takesSign_s {ee p : am_F} (h : p 0 4 ≠ 0) (g : Int) : c_takesSign ee p g = (0, p) := by
  unfold c_takesSign
  exact if_pos (c_fine_0 h)
theorem takesWord_s {ee p : am_F} (h : p 0 4 ≠ 0) (j : Nat) : c_takesWord ee p j = (0, p) := by
  unfold c_takesWord
  exact if_pos (c_fine_0 h)
theorem readBlock_s {ee ss p : am_F} (h : p 0 4 ≠ 0) : c_readBlock ee ss p 0 4 = p 0 4 ∧ c_readBlock ee ss p 0 5 = p 0 5 := by
  unfold c_readBlock
  try dsimp only
  rw [number_s h]
  try dsimp only
  rw [number_s (p := am_put p 0 7 0) h]
  try dsimp only
  rw [number_s (p := am_put (am_put p 0 7 0) 0 8 0) h]
  try dsimp only
  rw [number_s (p := am_put (am_put (am_put p 0 7 0) 0 8 0) 0 9 _) h]
  exact ⟨rfl, rfl⟩
theorem c_word_0 {ee b : am_F} (q : RdI b) (t : TpI ee) : 0 ≤ (c_word ee b).1 := by
  have x1 := c_peek_x q t
  unfold c_word
  try dsimp only
  split
  · exact Int.le_refl _
  · split
    · exact Int.le_refl _
    · have h := am_wh_iv (P := fun (x : am_F) => x 0 3 ≤ x 0 2) (f := w_c_word_40 ee) (fun x y hx hf => by
        unfold w_c_word_40 at hf
        dsimp only at hf
        split at hf
        · cases hf
        · split at hf
          · cases hf
          · cases hf
            show x 0 3 ≤ x 0 2 + 1
            omega) (fun x y hx hf => by
        unfold w_c_word_40 at hf
        dsimp only at hf
        split at hf
        · cases hf; exact hx
        · split at hf
          · cases hf; exact hx
          · cases hf) 601 (am_put (c_peek ee b).2 0 3 ((c_peek ee b).2 0 2)) (by show (c_peek ee b).2 0 2 ≤ (c_peek ee b).2 0 2; omega)
      dsimp only at h ⊢
      omega
theorem needRoom0_s {ss p : am_F} (h : p 0 4 ≠ 0) : c_needRoom0 ss p = p := by
  unfold c_needRoom0
  try dsimp only
  repeat' split
  all_goals first | rfl | exact wrong_s h _ _
theorem needRoom0_k {ss p : am_F} (h : 12 ≤ ss 0 3) : c_needRoom0 ss p 0 4 ≠ 0 := by
  unfold c_needRoom0
  try dsimp only
  rw [if_pos h, if_neg (by decide)]
  exact wrong_k (by decide)
theorem needRoom1_s {ss p : am_F} (h : p 0 4 ≠ 0) : c_needRoom1 ss p = p := by
  unfold c_needRoom1
  try dsimp only
  repeat' split
  all_goals first | rfl | exact wrong_s h _ _
theorem needRoom1_k {ss p : am_F} (h : 12 ≤ ss 0 4) : c_needRoom1 ss p 0 4 ≠ 0 := by
  unfold c_needRoom1
  try dsimp only
  rw [if_pos h, if_neg (by decide)]
  exact wrong_k (by decide)
theorem needRoom2_s {ss p : am_F} (h : p 0 4 ≠ 0) : c_needRoom2 ss p = p := by
  unfold c_needRoom2
  try dsimp only
  repeat' split
  all_goals first | rfl | exact wrong_s h _ _
theorem needRoom2_k {ss p : am_F} (h : 6 ≤ ss 0 5) : c_needRoom2 ss p 0 4 ≠ 0 := by
  unfold c_needRoom2
  try dsimp only
  rw [if_pos h, if_neg (by decide)]
  exact wrong_k (by decide)
theorem needRoom3_s {ss p : am_F} (h : p 0 4 ≠ 0) : c_needRoom3 ss p = p := by
  unfold c_needRoom3
  try dsimp only
  repeat' split
  all_goals first | rfl | exact wrong_s h _ _
theorem needRoom3_k {ss p : am_F} (h : 6 ≤ ss 0 6) : c_needRoom3 ss p 0 4 ≠ 0 := by
  unfold c_needRoom3
  try dsimp only
  rw [if_pos h, if_neg (by decide)]
  exact wrong_k (by decide)
theorem needRoom4_s {ss p : am_F} (h : p 0 4 ≠ 0) : c_needRoom4 ss p = p := by
  unfold c_needRoom4
  try dsimp only
  repeat' split
  all_goals first | rfl | exact wrong_s h _ _
theorem needRoom4_k {ss p : am_F} (h : 6 ≤ ss 0 7) : c_needRoom4 ss p 0 4 ≠ 0 := by
  unfold c_needRoom4
  try dsimp only
  rw [if_pos h, if_neg (by decide)]
  exact wrong_k (by decide)
theorem needRoom5_s {ss p : am_F} (h : p 0 4 ≠ 0) : c_needRoom5 ss p = p := by
  unfold c_needRoom5
  try dsimp only
  repeat' split
  all_goals first | rfl | exact wrong_s h _ _
theorem needRoom5_k {ss p : am_F} (h : 4 ≤ ss 0 8) : c_needRoom5 ss p 0 4 ≠ 0 := by
  unfold c_needRoom5
  try dsimp only
  rw [if_pos h, if_neg (by decide)]
  exact wrong_k (by decide)
theorem needRoom6_s {ss p : am_F} (h : p 0 4 ≠ 0) : c_needRoom6 ss p = p := by
  unfold c_needRoom6
  try dsimp only
  repeat' split
  all_goals first | rfl | exact wrong_s h _ _
theorem needRoom6_k {ss p : am_F} (h : 4 ≤ ss 0 9) : c_needRoom6 ss p 0 4 ≠ 0 := by
  unfold c_needRoom6
  try dsimp only
  rw [if_pos h, if_neg (by decide)]
  exact wrong_k (by decide)
theorem needRoom7_s {ss p : am_F} (h : p 0 4 ≠ 0) : c_needRoom7 ss p = p := by
  unfold c_needRoom7
  try dsimp only
  repeat' split
  all_goals first | rfl | exact wrong_s h _ _
theorem needRoom7_k {ss p : am_F} (h : 4 ≤ ss 0 10) : c_needRoom7 ss p 0 4 ≠ 0 := by
  unfold c_needRoom7
  try dsimp only
  rw [if_pos h, if_neg (by decide)]
  exact wrong_k (by decide)
theorem am_mul9r {a b : Int} (ha : 0 ≤ a ∧ a ≤ 9) (hb : 0 ≤ b ∧ b ≤ 9) : am_i32 (a * b) := by
  have h1 : 0 ≤ a * b := Int.mul_nonneg ha.1 hb.1
  have h2 : a * b ≤ 9 * 9 := Int.mul_le_mul ha.2 hb.2 hb.1 (by decide)
  exact ⟨by omega, by omega⟩
theorem c_ownBlock_I {ss pp : am_F} (q : SpI ss) (hl : ss 0 7 < 6) : SpI (c_ownBlock ss pp) ∧ ∀ r j, r ≠ 10 → c_ownBlock ss pp r j = ss r j := by
  have h7 : 0 ≤ ss 0 7 := by
    obtain ⟨v1, v2, v3, v4, v5, v6, v7, v8, v9, v10, v11, v12, v13, v14, v15, v16⟩ := (HbI_A q.1).1
    exact v15
  unfold c_ownBlock
  exact am_fold_inv (P := fun (_ : Int) (x : am_F) => SpI x ∧ ∀ r j, r ≠ 10 → x r j = ss r j) _ _ ss ⟨q, fun _ _ _ => rfl⟩ (fun i x _ _ hx => by
    unfold g_c_ownBlock_5
    exact am_fold_inv (P := fun (_ : Int) (x : am_F) => SpI x ∧ ∀ r j, r ≠ 10 → x r j = ss r j) _ _ x hx (fun i x _ _ hx => by
      unfold g_c_ownBlock_18
      have e := hx.2 0 7 (by decide)
      exact ⟨c_giveToS_I hx.1 _ _ ⟨by omega, by omega⟩, fun r j hr => (c_giveToS_0 _ _ _ _ _ hr).trans (hx.2 r j hr)⟩))
def c_readLot (ee : am_F) (ss : am_F) (pp : am_F) : am_F × am_F := (let pp8 : am_F := c_needRoom4 ss pp; (let pp12 : am_F := c_readBlock ee ss pp8; (let z16 : Int := (c_fine pp12); (let pp19 : am_F := (if z16 = 0 then pp12 else (if (c_blockIsOwned ss pp12) = 0 then pp12 else c_wrong pp12 2 (pp12 0 3))); (let u42 : Int × am_F := c_number ee pp19 0 9; (let u50 : Int × am_F := c_number ee ((u42).2) 0 9; (let z55 : Int := (c_fine ((u50).2)); (let ss58 : am_F := (if z55 = 0 then ss else (let ss62 : am_F := c_ownBlock ss ((u50).2); c_addS4 ss62 ((u42).1) ((u50).1) (((((u50).2 0 9) - ((u50).2 0 7)) + 1) * ((((u50).2 0 10) - ((u50).2 0 8)) + 1)) 0)); (ss58, (u50).2)))))))))
theorem mc_readLot {S : am_S} {d u : Nat} {w : AH} {hb sp rb rs : Nat} {ro : AV} (hl : 109 ≤ w.length) (hp : hb = 1 ∧ sp = 21 ∨ hb = 21 ∧ sp = 1) (hr : rb = 41 ∧ rs = 46 ∨ rb = 46 ∧ rs = 41) {ee : am_F} {hh : am_F} {ss : am_F} {uu : am_F} {vv : am_F} {pp : am_F} {kk : am_F} {rr : am_F} {tt : am_F} {gg : am_F} {aa : am_F} {dd : am_F} {bd : am_F} {ga : am_F} {im : am_F}  (hP : RdI pp) (hTp : TpI ee) (hS : SpI ss)  (hd : 4 ≤ d) : am_Out S zX5_readLot d u [aR 52] (hfW w hb sp rb rs hb (aR sp) ro ee hh ss uu vv pp kk rr tt gg aa dd bd ga im) (.inl none) (hfW w hb sp rb rs hb (aR sp) ro ee hh ((c_readLot ee ss pp).1) uu vv ((c_readLot ee ss pp).2) kk rr tt gg aa dd bd ga im) := by
  have key : ∀ Q : AO → AH → Prop, Q (.inl none) (hfW w hb sp rb rs hb (aR sp) ro ee hh ((c_readLot ee ss pp).1) uu vv ((c_readLot ee ss pp).2) kk rr tt gg aa dd bd ga im) → am_M S zX5_readLot d u [aR 52] (hfW w hb sp rb rs hb (aR sp) ro ee hh ss uu vv pp kk rr tt gg aa dd bd ga im) Q := by
    intro Q hQ
    refine am_body rfl (by decide +kernel) rfl (am_cats_cons rfl (am_cats_nil)) (Nat.le_of_ble_eq_true rfl) (?_ : am_T _ _ _ _ _ 0 [some (aR 52), none, none] [] (hfW w hb sp rb rs hb (aR sp) ro ee hh ss uu vv pp kk rr tt gg aa dd bd ga im))
    have hP9 := hP
    obtain ⟨⟨vr1, vr2⟩, vr3, vr4, vr5⟩ := hP9
    obtain ⟨vs1, vs2, vs3, vs4, vs5, vs6, vs7, vs8, vs9, vs10, vs11, vs12, vs13, vs14, vs15, vs16, vs17, vs18, vs19, vs20, vs21, vs22⟩ := (HbI_A hS.1).1
    refine T_aload_n (am_dec tX5_readLot_0 0 rfl) rfl ?_
    refine T_aload_n (am_dec tX5_readLot_0 1 rfl) rfl ?_
    refine T_getfield 5 6 (am_dec tX5_readLot_0 2 rfl) flX5_9_5 (show (hfW w hb sp rb rs hb (aR sp) ro ee hh ss uu vv pp kk rr tt gg aa dd bd ga im)[52]? = some (cO 5 [aR 51, aI (pp 0 1), aI (pp 0 2), aI (pp 0 3), aI (pp 0 4), aI (pp 0 5), aR sp, aI (pp 0 7), aI (pp 0 8), aI (pp 0 9), aI (pp 0 10)]) from (hfW_c hl 52 (by decide))) rfl ?_
    refine T_getfield 3 7 (am_dec tX5_readLot_0 3 rfl) flX5_183_3 (show (hfW w hb sp rb rs hb (aR sp) ro ee hh ss uu vv pp kk rr tt gg aa dd bd ga im)[sp]? = some (cO 3 [aI (ss 0 0), aI (ss 0 1), aI (ss 0 2), aR (sp + 1), aR (sp + 3), aR (sp + 5), aR (sp + 7), aR (sp + 9), aR (sp + 11), aR (sp + 13), aR (sp + 15), aR (sp + 17), aR (sp + 18), aR (sp + 19)]) from ((hf_S hl hp) 0 (by decide))) rfl ?_
    refine T_callV (as := [aR (sp + 9)]) rfl (am_dec tX5_readLot_0 4 rfl) lkX5_160 (show (hfW w hb sp rb rs hb (aR sp) ro ee hh ss uu vv pp kk rr tt gg aa dd bd ga im)[52]? = some (cO 5 [aR 51, aI (pp 0 1), aI (pp 0 2), aI (pp 0 3), aI (pp 0 4), aI (pp 0 5), aR sp, aI (pp 0 7), aI (pp 0 8), aI (pp 0 9), aI (pp 0 10)]) from (hfW_c hl 52 (by decide))) rfl rfl (Nat.le_of_ble_eq_true rfl) (by omega) (mc_needRoom4 (d := d - 1) hl hp hr   hP hTp hS (by omega)) (fun _ => ?_)
    refine T_nmH (W := fun x9 => hfW w hb sp rb rs hb (aR sp) ro ee hh ss uu vv x9 kk rr tt gg aa dd bd ga im) (v := c_needRoom4 ss pp) (fun pp8 hpp8 => ?_)
    have hxpp8 : Rd2 pp pp8 := by rw [hpp8]; exact (Rd2.rf hP).needRoom4
    have hIpp8 := hxpp8.1
    have hepp8_7 : pp8 0 7 = pp 0 7 := hxpp8.2 0 7 (by decide)
    have hepp8_8 : pp8 0 8 = pp 0 8 := hxpp8.2 0 8 (by decide)
    have hepp8_9 : pp8 0 9 = pp 0 9 := hxpp8.2 0 9 (by decide)
    have hepp8_10 : pp8 0 10 = pp 0 10 := hxpp8.2 0 10 (by decide)
    refine T_aload_n (am_dec tX5_readLot_0 5 rfl) rfl ?_
    refine T_callV (as := []) rfl (am_dec tX5_readLot_0 6 rfl) lkX5_140 (show (hfW w hb sp rb rs hb (aR sp) ro ee hh ss uu vv pp8 kk rr tt gg aa dd bd ga im)[52]? = some (cO 5 [aR 51, aI (pp8 0 1), aI (pp8 0 2), aI (pp8 0 3), aI (pp8 0 4), aI (pp8 0 5), aR sp, aI (pp8 0 7), aI (pp8 0 8), aI (pp8 0 9), aI (pp8 0 10)]) from (hfW_c hl 52 (by decide))) rfl rfl (Nat.le_of_ble_eq_true rfl) (by omega) (mc_readBlock (d := d - 1) hl hp hr   hIpp8 hTp hS (by omega)) (fun _ => ?_)
    refine T_nmH (W := fun x9 => hfW w hb sp rb rs hb (aR sp) ro ee hh ss uu vv x9 kk rr tt gg aa dd bd ga im) (v := c_readBlock ee ss pp8) (fun pp12 hpp12 => ?_)
    have hypp12 : RdI pp12 ∧ (0 ≤ pp12 0 7 ∧ pp12 0 7 ≤ pp12 0 9 ∧ pp12 0 9 < ss 0 0) ∧ (0 ≤ pp12 0 8 ∧ pp12 0 8 ≤ pp12 0 10 ∧ pp12 0 10 < ss 0 1) := by rw [hpp12]; have z9 := c_readBlock_x hIpp8 hTp hS; exact ⟨z9.1, z9.2.1, z9.2.2.1⟩
    have hIpp12 := hypp12.1
    refine T_aload_n (am_dec tX5_readLot_0 7 rfl) rfl ?_
    refine T_callU (as := []) rfl (am_dec tX5_readLot_0 8 rfl) lkX5_21_X5 (show (hfW w hb sp rb rs hb (aR sp) ro ee hh ss uu vv pp12 kk rr tt gg aa dd bd ga im)[52]? = some (cO 5 [aR 51, aI (pp12 0 1), aI (pp12 0 2), aI (pp12 0 3), aI (pp12 0 4), aI (pp12 0 5), aR sp, aI (pp12 0 7), aI (pp12 0 8), aI (pp12 0 9), aI (pp12 0 10)]) from (hfW_c hl 52 (by decide))) rfl rfl (Nat.le_of_ble_eq_true rfl) (by omega) (mc_fine (d := d - 1) hl hp hr    (by omega)) (fun _ => ?_)
    refine T_nm (fun z16 hz16 => ?_)
    have hb16 := c_fine_b pp12
    rw [← hz16] at hb16
    have K19 : ∀ (pp19 : am_F), pp19 = (if z16 = 0 then pp12 else (if (c_blockIsOwned ss pp12) = 0 then pp12 else c_wrong pp12 2 (pp12 0 3))) →  am_T S zX5_readLot d u Q 38 [some (aR 52), none, none] [] (hfW w hb sp rb rs hb (aR sp) ro ee hh ss uu vv pp19 kk rr tt gg aa dd bd ga im) := by
      intro pp19 hpp19 
      have hxpp19 : Rd2 pp12 pp19 := by
        rw [hpp19]
        try dsimp only
        repeat' split
        all_goals first | exact Rd2.rf hIpp12 | exact (Rd2.rf hIpp12).wrong _ _
      have hIpp19 := hxpp19.1
      have hepp19_7 : pp19 0 7 = pp12 0 7 := hxpp19.2 0 7 (by decide)
      have hepp19_8 : pp19 0 8 = pp12 0 8 := hxpp19.2 0 8 (by decide)
      have hepp19_9 : pp19 0 9 = pp12 0 9 := hxpp19.2 0 9 (by decide)
      have hepp19_10 : pp19 0 10 = pp12 0 10 := hxpp19.2 0 10 (by decide)
      refine T_aload_n (am_dec tX5_readLot_0 18 rfl) rfl ?_
      refine T_iconst 0 (am_dec tX5_readLot_0 19 rfl) rfl ⟨by decide, by decide⟩ ?_
      refine T_bipush 9 (am_dec tX5_readLot_0 20 rfl) rfl ⟨by decide, by decide⟩ ?_
      refine T_callU (as := [aI 0, aI 9]) rfl (am_dec tX5_readLot_0 21 rfl) lkX5_109_X5 (show (hfW w hb sp rb rs hb (aR sp) ro ee hh ss uu vv pp19 kk rr tt gg aa dd bd ga im)[52]? = some (cO 5 [aR 51, aI (pp19 0 1), aI (pp19 0 2), aI (pp19 0 3), aI (pp19 0 4), aI (pp19 0 5), aR sp, aI (pp19 0 7), aI (pp19 0 8), aI (pp19 0 9), aI (pp19 0 10)]) from (hfW_c hl 52 (by decide))) rfl rfl (Nat.le_of_ble_eq_true rfl) (by omega) (mc_number (d := d - 1) hl hp hr 0 9  hIpp19 hTp (by omega)) (fun _ => ?_)
      obtain ⟨u42, hu42⟩ : ∃ x9, x9 = c_number ee pp19 0 9 := ⟨_, rfl⟩
      rw [← hu42]
      have hxu42 : Rd2 pp19 u42.2 := by rw [hu42]; exact (Rd2.rf hIpp19).number hTp _ _
      have hIu42 := hxu42.1
      have hgu42 := hIu42
      obtain ⟨⟨yr421, yr422⟩, yr423, yr424, yr425⟩ := hgu42
      have heu42_7 : u42.2 0 7 = pp19 0 7 := hxu42.2 0 7 (by decide)
      have heu42_8 : u42.2 0 8 = pp19 0 8 := hxu42.2 0 8 (by decide)
      have heu42_9 : u42.2 0 9 = pp19 0 9 := hxu42.2 0 9 (by decide)
      have heu42_10 : u42.2 0 10 = pp19 0 10 := hxu42.2 0 10 (by decide)
      have hbu42 : 0 ≤ u42.1 ∧ u42.1 ≤ 9 := by rw [hu42]; exact c_number_b _ _ (by omega)
      refine T_istore_n (ls' := [some (aR 52), some (aI ((u42).1)), none]) (am_dec tX5_readLot_0 22 rfl) (by decide) rfl ?_
      refine T_aload_n (am_dec tX5_readLot_0 23 rfl) rfl ?_
      refine T_iconst 0 (am_dec tX5_readLot_0 24 rfl) rfl ⟨by decide, by decide⟩ ?_
      refine T_bipush 9 (am_dec tX5_readLot_0 25 rfl) rfl ⟨by decide, by decide⟩ ?_
      refine T_callU (as := [aI 0, aI 9]) rfl (am_dec tX5_readLot_0 26 rfl) lkX5_109_X5 (show (hfW w hb sp rb rs hb (aR sp) ro ee hh ss uu vv ((u42).2) kk rr tt gg aa dd bd ga im)[52]? = some (cO 5 [aR 51, aI ((u42).2 0 1), aI ((u42).2 0 2), aI ((u42).2 0 3), aI ((u42).2 0 4), aI ((u42).2 0 5), aR sp, aI ((u42).2 0 7), aI ((u42).2 0 8), aI ((u42).2 0 9), aI ((u42).2 0 10)]) from (hfW_c hl 52 (by decide))) rfl rfl (Nat.le_of_ble_eq_true rfl) (by omega) (mc_number (d := d - 1) hl hp hr 0 9  hIu42 hTp (by omega)) (fun _ => ?_)
      obtain ⟨u50, hu50⟩ : ∃ x9, x9 = c_number ee ((u42).2) 0 9 := ⟨_, rfl⟩
      rw [← hu50]
      have hxu50 : Rd2 ((u42).2) u50.2 := by rw [hu50]; exact (Rd2.rf hIu42).number hTp _ _
      have hIu50 := hxu50.1
      have hgu50 := hIu50
      obtain ⟨⟨yr501, yr502⟩, yr503, yr504, yr505⟩ := hgu50
      have heu50_7 : u50.2 0 7 = (u42).2 0 7 := hxu50.2 0 7 (by decide)
      have heu50_8 : u50.2 0 8 = (u42).2 0 8 := hxu50.2 0 8 (by decide)
      have heu50_9 : u50.2 0 9 = (u42).2 0 9 := hxu50.2 0 9 (by decide)
      have heu50_10 : u50.2 0 10 = (u42).2 0 10 := hxu50.2 0 10 (by decide)
      have hbu50 : 0 ≤ u50.1 ∧ u50.1 ≤ 9 := by rw [hu50]; exact c_number_b _ _ (by omega)
      refine T_istore_n (ls' := [some (aR 52), some (aI ((u42).1)), some (aI ((u50).1))]) (am_dec tX5_readLot_0 27 rfl) (by decide) rfl ?_
      refine T_aload_n (am_dec tX5_readLot_0 28 rfl) rfl ?_
      refine T_callU (as := []) rfl (am_dec tX5_readLot_0 29 rfl) lkX5_21_X5 (show (hfW w hb sp rb rs hb (aR sp) ro ee hh ss uu vv ((u50).2) kk rr tt gg aa dd bd ga im)[52]? = some (cO 5 [aR 51, aI ((u50).2 0 1), aI ((u50).2 0 2), aI ((u50).2 0 3), aI ((u50).2 0 4), aI ((u50).2 0 5), aR sp, aI ((u50).2 0 7), aI ((u50).2 0 8), aI ((u50).2 0 9), aI ((u50).2 0 10)]) from (hfW_c hl 52 (by decide))) rfl rfl (Nat.le_of_ble_eq_true rfl) (by omega) (mc_fine (d := d - 1) hl hp hr    (by omega)) (fun _ => ?_)
      refine T_nm (fun z55 hz55 => ?_)
      have hb55 := c_fine_b ((u50).2)
      rw [← hz55] at hb55
      have hl6 : ¬ z55 = 0 → ss 0 7 < 6 := by
        intro h58
        apply Int.not_le.mp; intro h6
        have s1 : pp8 0 4 ≠ 0 := by rw [hpp8]; exact needRoom4_k h6
        have s2 : pp12 0 4 ≠ 0 := by rw [hpp12, (readBlock_s s1).1]; exact s1
        have s3 : pp19 0 4 ≠ 0 := by
          rw [hpp19]
          try dsimp only
          repeat' split
          all_goals first | exact s2 | (rw [wrong_s s2]; exact s2)
        have s4 : u42.2 0 4 ≠ 0 := by rw [hu42, number_s s3]; exact s3
        have s5 : u50.2 0 4 ≠ 0 := by rw [hu50, number_s s4]; exact s4
        exact h58 (by rw [hz55]; exact c_fine_0 s5)
      have K58 : ∀ (ss58 : am_F), ss58 = (if z55 = 0 then ss else (let ss62 : am_F := c_ownBlock ss ((u50).2); c_addS4 ss62 ((u42).1) ((u50).1) (((((u50).2 0 9) - ((u50).2 0 7)) + 1) * ((((u50).2 0 10) - ((u50).2 0 8)) + 1)) 0)) →  am_T S zX5_readLot d u Q 101 [none, none, none] [] (hfW w hb sp rb rs hb (aR sp) ro ee hh ss58 uu vv ((u50).2) kk rr tt gg aa dd bd ga im) := by
        intro ss58 hss58 
        have hSss58 : SpI ss58 := by
          rw [hss58]
          try dsimp only
          split
          · exact hS
          · rename_i h9; exact c_addS4_I (c_ownBlock_I hS (hl6 h9)).1 _ _ _ _ (by omega) (by omega)
        exact T_return (am_dec tX5_readLot_1 15 rfl) rfl (am_tr (fun (x9 : am_F × am_F) => Q (.inl none) (hfW w hb sp rb rs hb (aR sp) ro ee hh x9.1 uu vv x9.2 kk rr tt gg aa dd bd ga im)) (y := (ss58, (u50).2)) (show (c_readLot ee ss pp) = (ss58, (u50).2) from (by have s9 := hpp8.symm; subst s9; have s9 := hpp12.symm; subst s9; have s9 := hz16.symm; subst s9; have s9 := hpp19.symm; subst s9; have s9 := hu42.symm; subst s9; have s9 := hu50.symm; subst s9; have s9 := hz55.symm; subst s9; have s9 := hss58.symm; subst s9; exact rfl)) hQ)
      refine T_if_eq 101 (am_dec tX5_readLot_0 30 rfl) rfl (fun h58 => ?_) (fun h58 => ?_)
      · refine T_weak (ls' := [none, none, none]) (am_sub_n (am_sub_n (am_sub_n am_sub_nil))) ?_
        exact K58 _ (if_pos h58).symm 
      · have hl7 := hl6 h58
        refine T_aload_n (am_dec tX5_readLot_0 31 rfl) rfl ?_
        refine T_callV (as := []) rfl (am_dec tX5_readLot_0 32 rfl) lkX5_189 (show (hfW w hb sp rb rs hb (aR sp) ro ee hh ss uu vv ((u50).2) kk rr tt gg aa dd bd ga im)[52]? = some (cO 5 [aR 51, aI ((u50).2 0 1), aI ((u50).2 0 2), aI ((u50).2 0 3), aI ((u50).2 0 4), aI ((u50).2 0 5), aR sp, aI ((u50).2 0 7), aI ((u50).2 0 8), aI ((u50).2 0 9), aI ((u50).2 0 10)]) from (hfW_c hl 52 (by decide))) rfl rfl (Nat.le_of_ble_eq_true rfl) (by omega) (mc_ownBlock (d := d - 1) hl hp hr   hS (by omega) (by omega) (by omega)) (fun _ => ?_)
        refine T_nmH (W := fun x9 => hfW w hb sp rb rs hb (aR sp) ro ee hh x9 uu vv ((u50).2) kk rr tt gg aa dd bd ga im) (v := c_ownBlock ss ((u50).2)) (fun ss62 hss62 => ?_)
        have hwss62 : SpI ss62 ∧ ∀ r j, r ≠ 10 → ss62 r j = ss r j := by rw [hss62]; exact c_ownBlock_I hS hl7
        have hSss62 := hwss62.1
        have hqss62 := hwss62.2 0 7 (by decide)
        refine T_aload_n (am_dec tX5_readLot_0 33 rfl) rfl ?_
        refine T_getfield 5 6 (am_dec tX5_readLot_0 34 rfl) flX5_9_5 (show (hfW w hb sp rb rs hb (aR sp) ro ee hh ss62 uu vv ((u50).2) kk rr tt gg aa dd bd ga im)[52]? = some (cO 5 [aR 51, aI ((u50).2 0 1), aI ((u50).2 0 2), aI ((u50).2 0 3), aI ((u50).2 0 4), aI ((u50).2 0 5), aR sp, aI ((u50).2 0 7), aI ((u50).2 0 8), aI ((u50).2 0 9), aI ((u50).2 0 10)]) from (hfW_c hl 52 (by decide))) rfl ?_
        refine T_getfield 3 7 (am_dec tX5_readLot_0 35 rfl) flX5_183_3 (show (hfW w hb sp rb rs hb (aR sp) ro ee hh ss62 uu vv ((u50).2) kk rr tt gg aa dd bd ga im)[sp]? = some (cO 3 [aI (ss62 0 0), aI (ss62 0 1), aI (ss62 0 2), aR (sp + 1), aR (sp + 3), aR (sp + 5), aR (sp + 7), aR (sp + 9), aR (sp + 11), aR (sp + 13), aR (sp + 15), aR (sp + 17), aR (sp + 18), aR (sp + 19)]) from ((hf_S hl hp) 0 (by decide))) rfl ?_
        refine T_iload_n (am_dec tX5_readLot_0 36 rfl) rfl ?_
        refine T_iload_n (am_dec tX5_readLot_0 37 rfl) rfl ?_
        refine T_aload_n (am_dec tX5_readLot_0 38 rfl) rfl ?_
        refine T_getfield 5 9 (am_dec tX5_readLot_0 39 rfl) flX5_134_5 (show (hfW w hb sp rb rs hb (aR sp) ro ee hh ss62 uu vv ((u50).2) kk rr tt gg aa dd bd ga im)[52]? = some (cO 5 [aR 51, aI ((u50).2 0 1), aI ((u50).2 0 2), aI ((u50).2 0 3), aI ((u50).2 0 4), aI ((u50).2 0 5), aR sp, aI ((u50).2 0 7), aI ((u50).2 0 8), aI ((u50).2 0 9), aI ((u50).2 0 10)]) from (hfW_c hl 52 (by decide))) rfl ?_
        refine T_aload_n (am_dec tX5_readLot_1 0 rfl) rfl ?_
        refine T_getfield 5 7 (am_dec tX5_readLot_1 1 rfl) flX5_128_5 (show (hfW w hb sp rb rs hb (aR sp) ro ee hh ss62 uu vv ((u50).2) kk rr tt gg aa dd bd ga im)[52]? = some (cO 5 [aR 51, aI ((u50).2 0 1), aI ((u50).2 0 2), aI ((u50).2 0 3), aI ((u50).2 0 4), aI ((u50).2 0 5), aR sp, aI ((u50).2 0 7), aI ((u50).2 0 8), aI ((u50).2 0 9), aI ((u50).2 0 10)]) from (hfW_c hl 52 (by decide))) rfl ?_
        refine T_isub (((u50).2 0 9) - ((u50).2 0 7)) (am_dec tX5_readLot_1 2 rfl) rfl ⟨by omega, by omega⟩ ?_
        refine T_iconst 1 (am_dec tX5_readLot_1 3 rfl) rfl ⟨by decide, by decide⟩ ?_
        refine T_iadd ((((u50).2 0 9) - ((u50).2 0 7)) + 1) (am_dec tX5_readLot_1 4 rfl) rfl ⟨by omega, by omega⟩ ?_
        refine T_aload_n (am_dec tX5_readLot_1 5 rfl) rfl ?_
        refine T_getfield 5 10 (am_dec tX5_readLot_1 6 rfl) flX5_137_5 (show (hfW w hb sp rb rs hb (aR sp) ro ee hh ss62 uu vv ((u50).2) kk rr tt gg aa dd bd ga im)[52]? = some (cO 5 [aR 51, aI ((u50).2 0 1), aI ((u50).2 0 2), aI ((u50).2 0 3), aI ((u50).2 0 4), aI ((u50).2 0 5), aR sp, aI ((u50).2 0 7), aI ((u50).2 0 8), aI ((u50).2 0 9), aI ((u50).2 0 10)]) from (hfW_c hl 52 (by decide))) rfl ?_
        refine T_aload_n (am_dec tX5_readLot_1 7 rfl) rfl ?_
        refine T_getfield 5 8 (am_dec tX5_readLot_1 8 rfl) flX5_131_5 (show (hfW w hb sp rb rs hb (aR sp) ro ee hh ss62 uu vv ((u50).2) kk rr tt gg aa dd bd ga im)[52]? = some (cO 5 [aR 51, aI ((u50).2 0 1), aI ((u50).2 0 2), aI ((u50).2 0 3), aI ((u50).2 0 4), aI ((u50).2 0 5), aR sp, aI ((u50).2 0 7), aI ((u50).2 0 8), aI ((u50).2 0 9), aI ((u50).2 0 10)]) from (hfW_c hl 52 (by decide))) rfl ?_
        refine T_isub (((u50).2 0 10) - ((u50).2 0 8)) (am_dec tX5_readLot_1 9 rfl) rfl ⟨by omega, by omega⟩ ?_
        refine T_iconst 1 (am_dec tX5_readLot_1 10 rfl) rfl ⟨by decide, by decide⟩ ?_
        refine T_iadd ((((u50).2 0 10) - ((u50).2 0 8)) + 1) (am_dec tX5_readLot_1 11 rfl) rfl ⟨by omega, by omega⟩ ?_
        refine T_imul (((((u50).2 0 9) - ((u50).2 0 7)) + 1) * ((((u50).2 0 10) - ((u50).2 0 8)) + 1)) (am_dec tX5_readLot_1 12 rfl) rfl (am_mul9r (by omega) (by omega)) ?_
        refine T_iconst 0 (am_dec tX5_readLot_1 13 rfl) rfl ⟨by decide, by decide⟩ ?_
        refine T_callV (as := [aI ((u42).1), aI ((u50).1), aI (((((u50).2 0 9) - ((u50).2 0 7)) + 1) * ((((u50).2 0 10) - ((u50).2 0 8)) + 1)), aI 0]) rfl (am_dec tX5_readLot_1 14 rfl) lkX5_124 (show (hfW w hb sp rb rs hb (aR sp) ro ee hh ss62 uu vv ((u50).2) kk rr tt gg aa dd bd ga im)[sp + 9]? = some (cO 9 [aI 6, aR (sp + 10), aI (ss62 0 7)]) from ((hf_S hl hp) 9 (by decide))) rfl rfl (Nat.le_of_ble_eq_true rfl) (by omega) (mc_addS4 (d := d - 1) hl hp hr ((u42).1) ((u50).1) (((((u50).2 0 9) - ((u50).2 0 7)) + 1) * ((((u50).2 0 10) - ((u50).2 0 8)) + 1)) 0  hSss62 (by omega)) (fun _ => ?_)
        refine T_nmH (W := fun x9 => hfW w hb sp rb rs hb (aR sp) ro ee hh x9 uu vv ((u50).2) kk rr tt gg aa dd bd ga im) (v := c_addS4 ss62 ((u42).1) ((u50).1) (((((u50).2 0 9) - ((u50).2 0 7)) + 1) * ((((u50).2 0 10) - ((u50).2 0 8)) + 1)) 0) (fun ss98 hss98 => ?_)
        have hSss98 : SpI ss98 := by rw [hss98]; exact c_addS4_I hSss62 _ _ _ _ (by omega) (by omega)
        refine T_weak (ls' := [none, none, none]) (am_sub_n (am_sub_n (am_sub_n am_sub_nil))) ?_
        exact K58 _ (by have s9 := hss62.symm; subst s9; have s9 := hss98.symm; subst s9; exact (if_neg h58).symm) 
    refine T_if_eq 38 (am_dec tX5_readLot_0 9 rfl) rfl (fun h19 => ?_) (fun h19 => ?_)
    · exact K19 _ (if_pos h19).symm 
    · refine T_aload_n (am_dec tX5_readLot_0 10 rfl) rfl ?_
      refine T_callV (as := []) rfl (am_dec tX5_readLot_0 11 rfl) lkX5_186 (show (hfW w hb sp rb rs hb (aR sp) ro ee hh ss uu vv pp12 kk rr tt gg aa dd bd ga im)[52]? = some (cO 5 [aR 51, aI (pp12 0 1), aI (pp12 0 2), aI (pp12 0 3), aI (pp12 0 4), aI (pp12 0 5), aR sp, aI (pp12 0 7), aI (pp12 0 8), aI (pp12 0 9), aI (pp12 0 10)]) from (hfW_c hl 52 (by decide))) rfl rfl (Nat.le_of_ble_eq_true rfl) (by omega) (mc_blockIsOwned (d := d - 1) hl hp hr   hS (by omega) (by omega)) (fun _ => ?_)
      have K26 : ∀ (pp26 : am_F), pp26 = (if (c_blockIsOwned ss pp12) = 0 then pp12 else c_wrong pp12 2 (pp12 0 3)) →  am_T S zX5_readLot d u Q 38 [some (aR 52), none, none] [] (hfW w hb sp rb rs hb (aR sp) ro ee hh ss uu vv pp26 kk rr tt gg aa dd bd ga im) := by
        intro pp26 hpp26 
        exact K19 _ (by have s9 := hpp26.symm; subst s9; exact (if_neg h19).symm) 
      refine T_if_eq 38 (am_dec tX5_readLot_0 12 rfl) rfl (fun h26 => ?_) (fun h26 => ?_)
      · exact K26 _ (if_pos h26).symm 
      · refine T_aload_n (am_dec tX5_readLot_0 13 rfl) rfl ?_
        refine T_iconst 2 (am_dec tX5_readLot_0 14 rfl) rfl ⟨by decide, by decide⟩ ?_
        refine T_aload_n (am_dec tX5_readLot_0 15 rfl) rfl ?_
        refine T_getfield 5 3 (am_dec tX5_readLot_0 16 rfl) flX5_39_5 (show (hfW w hb sp rb rs hb (aR sp) ro ee hh ss uu vv pp12 kk rr tt gg aa dd bd ga im)[52]? = some (cO 5 [aR 51, aI (pp12 0 1), aI (pp12 0 2), aI (pp12 0 3), aI (pp12 0 4), aI (pp12 0 5), aR sp, aI (pp12 0 7), aI (pp12 0 8), aI (pp12 0 9), aI (pp12 0 10)]) from (hfW_c hl 52 (by decide))) rfl ?_
        refine T_callU (as := [aI 2, aI (pp12 0 3)]) rfl (am_dec tX5_readLot_0 17 rfl) lkX5_43_X5 (show (hfW w hb sp rb rs hb (aR sp) ro ee hh ss uu vv pp12 kk rr tt gg aa dd bd ga im)[52]? = some (cO 5 [aR 51, aI (pp12 0 1), aI (pp12 0 2), aI (pp12 0 3), aI (pp12 0 4), aI (pp12 0 5), aR sp, aI (pp12 0 7), aI (pp12 0 8), aI (pp12 0 9), aI (pp12 0 10)]) from (hfW_c hl 52 (by decide))) rfl rfl (Nat.le_of_ble_eq_true rfl) (by omega) (mc_wrong (d := d - 1) hl hp hr 2 (pp12 0 3)   (by omega)) (fun _ => ?_)
        refine T_nmH (W := fun x9 => hfW w hb sp rb rs hb (aR sp) ro ee hh ss uu vv x9 kk rr tt gg aa dd bd ga im) (v := c_wrong pp12 2 (pp12 0 3)) (fun pp35 hpp35 => ?_)
        have hIpp35 : RdI pp35 := by rw [hpp35]; exact c_wrong_I hIpp12 _ _
        exact K26 _ (by have s9 := hpp35.symm; subst s9; exact (if_neg h26).symm) 
  exact key _ ⟨rfl, rfl⟩
