/-! the model: a clause -/
theorem k_isFull_y {c d : am_F} (h3 : d 3 = c 3) (h56 : d 0 56 = c 0 56) (h57 : d 0 57 = c 0 57) (k : Int) : k_isFull d k = k_isFull c k := by
  unfold k_isFull
  rw [h3, h56, h57]
theorem k_isFull_s {c : am_F} {k : Int} (h : k_isFull c k = 0) : (k = 2 → c 3 2 ≠ 6) ∧ (k = 3 → c 3 3 ≠ 6) ∧ (k = 4 → c 3 4 ≠ 4) ∧ (k = 5 → c 3 5 ≠ 4) ∧ (k = 6 → c 3 6 ≠ 4) ∧ (k = 8 → c 0 56 ≠ 12) ∧ (k = 9 → c 0 57 ≠ 12) ∧ (k = 10 → c 3 10 ≠ 6) := by
  refine ⟨?_, ?_, ?_, ?_, ?_, ?_, ?_, ?_⟩ <;>
  · intro hk
    subst hk
    revert h
    simp only [k_isFull]
    simp
theorem k_kindHere_x {c : am_F} (h : RdV c) : RdV (k_kindHere c).2 ∧ Lx c (k_kindHere c).2 ∧ (-1 ≤ (k_kindHere c).1 ∧ (k_kindHere c).1 ≤ 11 ∧ (k_kindHere c).1 ≠ 1) := by
  unfold k_kindHere
  dsimp only
  have st : ∀ {d : am_F} {a b e f g i j : Int}, RdV d ∧ Lx c d → RdV (k_isWord d a b e f g i j).2 ∧ Lx c (k_isWord d a b e f g i j).2 := fun hd => ⟨(k_isWord_x hd.1).1, Lx_t hd.2 (k_isWord_x hd.1).2⟩
  have h0 : RdV c ∧ Lx c c := ⟨h, Lx_r⟩
  obtain ⟨u0, hu0⟩ : ∃ x9, x9 = k_isWord c 16 15 18 20 0 0 0 := ⟨_, rfl⟩
  have su0 : RdV u0.2 ∧ Lx c u0.2 := by rw [hu0]; exact st h0
  rw [← hu0]
  by_cases eu0 : u0.1 = 0
  case neg => rw [if_neg eu0]; exact ⟨su0.1, su0.2, (show (-1 : Int) ≤ 0 ∧ (0 : Int) ≤ 11 ∧ (0 : Int) ≠ 1 by decide)⟩
  rw [if_pos eu0]
  obtain ⟨u1, hu1⟩ : ∃ x9, x9 = k_isWord u0.2 12 1 13 16 0 0 0 := ⟨_, rfl⟩
  have su1 : RdV u1.2 ∧ Lx c u1.2 := by rw [hu1]; exact st su0
  rw [← hu1]
  by_cases eu1 : u1.1 = 0
  case neg => rw [if_neg eu1]; exact ⟨su1.1, su1.2, (show (-1 : Int) ≤ 2 ∧ (2 : Int) ≤ 11 ∧ (2 : Int) ≠ 1 by decide)⟩
  rw [if_pos eu1]
  obtain ⟨u2, hu2⟩ : ∃ x9, x9 = k_isWord u1.2 12 15 20 0 0 0 0 := ⟨_, rfl⟩
  have su2 : RdV u2.2 ∧ Lx c u2.2 := by rw [hu2]; exact st su1
  rw [← hu2]
  by_cases eu2 : u2.1 = 0
  case neg => rw [if_neg eu2]; exact ⟨su2.1, su2.2, (show (-1 : Int) ≤ 3 ∧ (3 : Int) ≤ 11 ∧ (3 : Int) ≠ 1 by decide)⟩
  rw [if_pos eu2]
  obtain ⟨u3, hu3⟩ : ∃ x9, x9 = k_isWord u2.2 23 1 12 11 0 0 0 := ⟨_, rfl⟩
  have su3 : RdV u3.2 ∧ Lx c u3.2 := by rw [hu3]; exact st su2
  rw [← hu3]
  by_cases eu3 : u3.1 = 0
  case neg => rw [if_neg eu3]; exact ⟨su3.1, su3.2, (show (-1 : Int) ≤ 4 ∧ (4 : Int) ≤ 11 ∧ (4 : Int) ≠ 1 by decide)⟩
  rw [if_pos eu3]
  obtain ⟨u4, hu4⟩ : ∃ x9, x9 = k_isWord u3.2 23 1 20 3 8 0 0 := ⟨_, rfl⟩
  have su4 : RdV u4.2 ∧ Lx c u4.2 := by rw [hu4]; exact st su3
  rw [← hu4]
  by_cases eu4 : u4.1 = 0
  case neg => rw [if_neg eu4]; exact ⟨su4.1, su4.2, (show (-1 : Int) ≤ 5 ∧ (5 : Int) ≤ 11 ∧ (5 : Int) ≠ 1 by decide)⟩
  rw [if_pos eu4]
  obtain ⟨u5, hu5⟩ : ∃ x9, x9 = k_isWord u4.2 19 8 9 16 0 0 0 := ⟨_, rfl⟩
  have su5 : RdV u5.2 ∧ Lx c u5.2 := by rw [hu5]; exact st su4
  rw [← hu5]
  by_cases eu5 : u5.1 = 0
  case neg => rw [if_neg eu5]; exact ⟨su5.1, su5.2, (show (-1 : Int) ≤ 6 ∧ (6 : Int) ≤ 11 ∧ (6 : Int) ≠ 1 by decide)⟩
  rw [if_pos eu5]
  obtain ⟨u6, hu6⟩ : ∃ x9, x9 = k_isWord u5.2 19 9 7 8 20 0 0 := ⟨_, rfl⟩
  have su6 : RdV u6.2 ∧ Lx c u6.2 := by rw [hu6]; exact st su5
  rw [← hu6]
  by_cases eu6 : u6.1 = 0
  case neg => rw [if_neg eu6]; exact ⟨su6.1, su6.2, (show (-1 : Int) ≤ 7 ∧ (7 : Int) ≤ 11 ∧ (7 : Int) ≠ 1 by decide)⟩
  rw [if_pos eu6]
  obtain ⟨u7, hu7⟩ : ∃ x9, x9 = k_isWord u6.2 23 9 14 4 0 0 0 := ⟨_, rfl⟩
  have su7 : RdV u7.2 ∧ Lx c u7.2 := by rw [hu7]; exact st su6
  rw [← hu7]
  by_cases eu7 : u7.1 = 0
  case neg => rw [if_neg eu7]; exact ⟨su7.1, su7.2, (show (-1 : Int) ≤ 8 ∧ (8 : Int) ≤ 11 ∧ (8 : Int) ≠ 1 by decide)⟩
  rw [if_pos eu7]
  obtain ⟨u8, hu8⟩ : ∃ x9, x9 = k_isWord u7.2 20 8 9 14 0 0 0 := ⟨_, rfl⟩
  have su8 : RdV u8.2 ∧ Lx c u8.2 := by rw [hu8]; exact st su7
  rw [← hu8]
  by_cases eu8 : u8.1 = 0
  case neg => rw [if_neg eu8]; exact ⟨su8.1, su8.2, (show (-1 : Int) ≤ 9 ∧ (9 : Int) ≤ 11 ∧ (9 : Int) ≠ 1 by decide)⟩
  rw [if_pos eu8]
  obtain ⟨u9, hu9⟩ : ∃ x9, x9 = k_isWord u8.2 19 20 5 1 13 5 18 := ⟨_, rfl⟩
  have su9 : RdV u9.2 ∧ Lx c u9.2 := by rw [hu9]; exact st su8
  rw [← hu9]
  by_cases eu9 : u9.1 = 0
  case neg => rw [if_neg eu9]; exact ⟨su9.1, su9.2, (show (-1 : Int) ≤ 10 ∧ (10 : Int) ≤ 11 ∧ (10 : Int) ≠ 1 by decide)⟩
  rw [if_pos eu9]
  obtain ⟨u10, hu10⟩ : ∃ x9, x9 = k_isWord u9.2 6 15 7 0 0 0 0 := ⟨_, rfl⟩
  have su10 : RdV u10.2 ∧ Lx c u10.2 := by rw [hu10]; exact st su9
  rw [← hu10]
  by_cases eu10 : u10.1 = 0
  · rw [if_pos eu10]; exact ⟨su10.1, su10.2, (show (-1 : Int) ≤ -1 ∧ (-1 : Int) ≤ 11 ∧ (-1 : Int) ≠ 1 by decide)⟩
  · rw [if_neg eu10]; exact ⟨su10.1, su10.2, (show (-1 : Int) ≤ 11 ∧ (11 : Int) ≤ 11 ∧ (11 : Int) ≠ 1 by decide)⟩
theorem RdV_h {c : am_F} {j : Nat} {v : Int} (hj : j ≠ 2 ∧ j ≠ 4) (h : RdV c) : RdV (am_put c 0 j v) := by
  unfold RdV
  rw [am_put_i (by omega), am_put_i (by omega)]
  exact h
theorem RW_p7 {c : am_F} (h : RW c) (h7 : c 0 7 ≠ 60) : RW (am_put c 0 7 (c 0 7 + 1)) := by
  unfold RW at h ⊢
  rw [am_put0 (by decide), am_put_i (by decide), am_put_i (by decide), am_put_s]
  omega
theorem k_isFull_7 {c : am_F} {k v : Int} (h : k_isFull c k = 0) : k_isFull (am_put c 0 7 v) k = 0 := (k_isFull_y (am_put0 (by decide)) (am_put_i (by decide)) (am_put_i (by decide)) k).trans h
def k_clause_152 (c : am_F) : am_F := (let u161 : Int × am_F := k_number c 2 9; (let u174 : Int × am_F := k_number (am_put (u161).2 3 0 ((u161).1)) 2 9; k_sign (am_put (u174).2 3 1 ((u174).1)) 59))
set_option maxHeartbeats 4000000 in
theorem S_k_clause_152 {S : am_S} {d u : Nat} {Q : AO → AH → Prop} {w : AH} {b : Nat} (hl : b + 735 ≤ w.length) (c : am_F) (q : am_F) (k : Int) (hR : RdV c) (hRW : RW c) (hfu : k_isFull c k = 0) (hk9 : k = 0) (hd : 5 ≤ d) (hQ : Q (.inl none) (mdW w b (k_clause_152 c) q)) : am_T S zX12_clause d u Q 152 [some (aR b), some (aI k), none] [] (mdW w b c q) := by
    have hR9 := hR
    obtain ⟨r1, r2, r3⟩ := hR9
    have w9 := hRW
    obtain ⟨w0, w1, w2, w3, w4, w5, w6, w8, w7, w10, w11⟩ := w9
    refine T_aload_n (am_dec tX12_clause_1 10 rfl) rfl ?_
    refine T_getfield 11 10 (am_dec tX12_clause_1 11 rfl) flX12_20_11 (md_obj hl) rfl ?_
    refine T_iconst 0 (am_dec tX12_clause_1 12 rfl) rfl ⟨by decide, by decide⟩ ?_
    refine T_aload_n (am_dec tX12_clause_1 13 rfl) rfl ?_
    refine T_iconst 2 (am_dec tX12_clause_1 14 rfl) rfl ⟨by decide, by decide⟩ ?_
    refine T_bipush 9 (am_dec tX12_clause_1 15 rfl) rfl ⟨by decide, by decide⟩ ?_
    refine T_callV (as := [aI 2, aI 9]) rfl (am_dec tX12_clause_1 16 rfl) lkX12_231 (md_obj hl) rfl rfl (Nat.le_of_ble_eq_true rfl) (by omega) (mk_number (d := d - 1) hl 2 9  hR (by omega)) (fun _ => ?_)
    obtain ⟨u161, hu161⟩ : ∃ x9, x9 = k_number c 2 9 := ⟨_, rfl⟩
    rw [← hu161]
    have hR161 : RdV (u161).2 := by rw [hu161]; exact (k_number_x hR).1
    have hR9 := hR161
    obtain ⟨ra161, rb161, rc161⟩ := hR9
    have hx161 : Ly c (u161).2 := Ly_t Ly_r (Ly_x (by rw [hu161]; exact (k_number_x hR).2.1))
    have hz161 : (u161).2 0 2 = c 0 2 := hx161.2 2 (by decide) (by decide) (by decide)
    have ht161_0 : (u161).2 3 0 = c 3 0 := congrFun hx161.1 0
    have ht161_1 : (u161).2 3 1 = c 3 1 := congrFun hx161.1 1
    have ht161_2 : (u161).2 3 2 = c 3 2 := congrFun hx161.1 2
    have ht161_3 : (u161).2 3 3 = c 3 3 := congrFun hx161.1 3
    have ht161_4 : (u161).2 3 4 = c 3 4 := congrFun hx161.1 4
    have ht161_5 : (u161).2 3 5 = c 3 5 := congrFun hx161.1 5
    have ht161_6 : (u161).2 3 6 = c 3 6 := congrFun hx161.1 6
    have ht161_8 : (u161).2 3 8 = c 3 8 := congrFun hx161.1 8
    have ht161_9 : (u161).2 3 9 = c 3 9 := congrFun hx161.1 9
    have ht161_10 : (u161).2 3 10 = c 3 10 := congrFun hx161.1 10
    have hv161 : ((u161).2 0 5 = 0 ∧ 2 ≤ (u161).1 ∧ (u161).1 ≤ 9) ∨ ((u161).2 0 5 ≠ 0 ∧ (u161).1 = 0) := by rw [hu161]; have q9 := (k_number_x (lo := 2) (hi := 9) hR).2.2; exact q9
    have hf161 : (u161).2 0 5 = 0 → c 0 5 = 0 := by rw [hu161]; exact fun h9 => (k_number_5 h9)
    refine T_iastore (am_dec tX12_clause_1 17 rfl) (md_readTold hl) (by omega) (by omega) ?_
    refine am_wE (w2 := mdW w b (am_put (u161).2 3 0 ((u161).1)) q) (md_pc (Nat.le_of_ble_eq_true rfl) (fun _ _ => rfl)) ?_
    refine T_aload_n (am_dec tX12_clause_1 18 rfl) rfl ?_
    refine T_getfield 11 10 (am_dec tX12_clause_1 19 rfl) flX12_20_11 (md_obj hl) rfl ?_
    refine T_iconst 1 (am_dec tX12_clause_1 20 rfl) rfl ⟨by decide, by decide⟩ ?_
    refine T_aload_n (am_dec tX12_clause_1 21 rfl) rfl ?_
    refine T_iconst 2 (am_dec tX12_clause_1 22 rfl) rfl ⟨by decide, by decide⟩ ?_
    refine T_bipush 9 (am_dec tX12_clause_1 23 rfl) rfl ⟨by decide, by decide⟩ ?_
    refine T_callV (as := [aI 2, aI 9]) rfl (am_dec tX12_clause_1 24 rfl) lkX12_231 (md_obj hl) rfl rfl (Nat.le_of_ble_eq_true rfl) (by omega) (mk_number (d := d - 1) hl 2 9  (RdV_k (k := 3) (i := 0) (v := ((u161).1)) (by decide) (by decide) hR161) (by omega)) (fun _ => ?_)
    obtain ⟨u174, hu174⟩ : ∃ x9, x9 = k_number (am_put (u161).2 3 0 ((u161).1)) 2 9 := ⟨_, rfl⟩
    rw [← hu174]
    have hR174 : RdV (u174).2 := by rw [hu174]; exact (k_number_x (RdV_k (k := 3) (i := 0) (v := ((u161).1)) (by decide) (by decide) hR161)).1
    have hR9 := hR174
    obtain ⟨ra174, rb174, rc174⟩ := hR9
    have hv174 : ((u174).2 0 5 = 0 ∧ 2 ≤ (u174).1 ∧ (u174).1 ≤ 9) ∨ ((u174).2 0 5 ≠ 0 ∧ (u174).1 = 0) := by rw [hu174]; have q9 := (k_number_x (lo := 2) (hi := 9) (RdV_k (k := 3) (i := 0) (v := ((u161).1)) (by decide) (by decide) hR161)).2.2; exact q9
    have hf174 : (u174).2 0 5 = 0 → (u161).2 0 5 = 0 := by rw [hu174]; exact fun h9 => (show (am_put (u161).2 3 0 ((u161).1)) 0 5 = (u161).2 0 5 from (am_put_k (by decide))).symm.trans (k_number_5 h9)
    refine T_iastore (am_dec tX12_clause_1 25 rfl) (md_readTold hl) (by omega) (by omega) ?_
    refine am_wE (w2 := mdW w b (am_put (u174).2 3 1 ((u174).1)) q) (md_pc (Nat.le_of_ble_eq_true rfl) (fun _ _ => rfl)) ?_
    refine T_goto 410 (am_dec tX12_clause_1 26 rfl) rfl ?_
    refine T_iload_n (am_dec tX12_clause_5 4 rfl) rfl ?_
    refine T_iconst 1 (am_dec tX12_clause_5 5 rfl) rfl ⟨by decide, by decide⟩ ?_
    refine T_icmp_le 421 (am_dec tX12_clause_5 6 rfl) rfl (fun h412 => ?_) (fun h412 => by exfalso; omega)
    refine T_iload_n (am_dec tX12_clause_5 10 rfl) rfl ?_
    refine T_bipush 10 (am_dec tX12_clause_5 11 rfl) rfl ⟨by decide, by decide⟩ ?_
    refine T_icmp_ne 448 (am_dec tX12_clause_5 12 rfl) rfl (fun h424 => ?_) (fun h424 => by exfalso; omega)
    refine T_aload_n (am_dec tX12_clause_5 26 rfl) rfl ?_
    refine T_bipush 59 (am_dec tX12_clause_5 27 rfl) rfl ⟨by decide, by decide⟩ ?_
    refine T_callV (as := [aI 59]) rfl (am_dec tX12_clause_5 28 rfl) lkX12_264 (md_obj hl) rfl rfl (Nat.le_of_ble_eq_true rfl) (by omega) (mk_sign (d := d - 1) hl 59  (RdV_k (k := 3) (i := 1) (v := ((u174).1)) (by decide) (by decide) hR174) (by omega) (by omega)) (fun _ => ?_)
    refine T_nmH (W := fun x9 => mdW w b x9 q) (v := k_sign (am_put (u174).2 3 1 ((u174).1)) 59) (fun c451 hc451 => ?_)
    have hR451 : RdV c451 := by rw [hc451]; exact (k_sign_x (RdV_k (k := 3) (i := 1) (v := ((u174).1)) (by decide) (by decide) hR174) (by omega)).1
    have hR9 := hR451
    obtain ⟨ra451, rb451, rc451⟩ := hR9
    exact T_return (am_dec tX12_clause_5 29 rfl) rfl (am_tr (fun (x9 : am_F) => Q (.inl none) (mdW w b x9 q)) (y := c451) (show (k_clause_152 c) = c451 from (by have s9 := hu161.symm; subst s9; have s9 := hu174.symm; subst s9; have s9 := hc451.symm; subst s9; exact rfl)) hQ)
def k_clause_406 (c : am_F) : am_F := (let c407 : am_F := k_fogHere c; k_sign c407 59)
set_option maxHeartbeats 4000000 in
theorem S_k_clause_406 {S : am_S} {d u : Nat} {Q : AO → AH → Prop} {w : AH} {b : Nat} (hl : b + 735 ≤ w.length) (c : am_F) (q : am_F) (k : Int) (hR : RdV c) (hRW : RW c) (hfu : k_isFull c k = 0) (hk9 : k = 11) (hd : 5 ≤ d) (hQ : Q (.inl none) (mdW w b (k_clause_406 c) q)) : am_T S zX12_clause d u Q 406 [some (aR b), some (aI k), none] [] (mdW w b c q) := by
    have hR9 := hR
    obtain ⟨r1, r2, r3⟩ := hR9
    have w9 := hRW
    obtain ⟨w0, w1, w2, w3, w4, w5, w6, w8, w7, w10, w11⟩ := w9
    refine T_aload_n (am_dec tX12_clause_5 2 rfl) rfl ?_
    refine T_callV (as := []) rfl (am_dec tX12_clause_5 3 rfl) lkX12_261 (md_obj hl) rfl rfl (Nat.le_of_ble_eq_true rfl) (by omega) (mk_fogHere (d := d - 1) hl   hR (RW_y Ly_r hRW) (by omega)) (fun _ => ?_)
    refine T_nmH (W := fun x9 => mdW w b x9 q) (v := k_fogHere c) (fun c407 hc407 => ?_)
    have hR407 : RdV c407 := by rw [hc407]; exact (k_fogHere_x hR).1
    have hR9 := hR407
    obtain ⟨ra407, rb407, rc407⟩ := hR9
    have hx407 : Ly c c407 := Ly_t Ly_r (by rw [hc407]; exact (k_fogHere_x hR).2)
    have ht407_0 : c407 3 0 = c 3 0 := congrFun hx407.1 0
    have ht407_1 : c407 3 1 = c 3 1 := congrFun hx407.1 1
    have ht407_2 : c407 3 2 = c 3 2 := congrFun hx407.1 2
    have ht407_3 : c407 3 3 = c 3 3 := congrFun hx407.1 3
    have ht407_4 : c407 3 4 = c 3 4 := congrFun hx407.1 4
    have ht407_5 : c407 3 5 = c 3 5 := congrFun hx407.1 5
    have ht407_6 : c407 3 6 = c 3 6 := congrFun hx407.1 6
    have ht407_8 : c407 3 8 = c 3 8 := congrFun hx407.1 8
    have ht407_9 : c407 3 9 = c 3 9 := congrFun hx407.1 9
    have ht407_10 : c407 3 10 = c 3 10 := congrFun hx407.1 10
    refine T_iload_n (am_dec tX12_clause_5 4 rfl) rfl ?_
    refine T_iconst 1 (am_dec tX12_clause_5 5 rfl) rfl ⟨by decide, by decide⟩ ?_
    refine T_icmp_le 421 (am_dec tX12_clause_5 6 rfl) rfl (fun h412 => by exfalso; omega) (fun h412 => ?_)
    refine T_iload_n (am_dec tX12_clause_5 7 rfl) rfl ?_
    refine T_bipush 7 (am_dec tX12_clause_5 8 rfl) rfl ⟨by decide, by decide⟩ ?_
    refine T_icmp_lt 427 (am_dec tX12_clause_5 9 rfl) rfl (fun h418 => by exfalso; omega) (fun h418 => ?_)
    refine T_iload_n (am_dec tX12_clause_5 10 rfl) rfl ?_
    refine T_bipush 10 (am_dec tX12_clause_5 11 rfl) rfl ⟨by decide, by decide⟩ ?_
    refine T_icmp_ne 448 (am_dec tX12_clause_5 12 rfl) rfl (fun h424 => ?_) (fun h424 => by exfalso; omega)
    refine T_aload_n (am_dec tX12_clause_5 26 rfl) rfl ?_
    refine T_bipush 59 (am_dec tX12_clause_5 27 rfl) rfl ⟨by decide, by decide⟩ ?_
    refine T_callV (as := [aI 59]) rfl (am_dec tX12_clause_5 28 rfl) lkX12_264 (md_obj hl) rfl rfl (Nat.le_of_ble_eq_true rfl) (by omega) (mk_sign (d := d - 1) hl 59  hR407 (by omega) (by omega)) (fun _ => ?_)
    refine T_nmH (W := fun x9 => mdW w b x9 q) (v := k_sign c407 59) (fun c451 hc451 => ?_)
    have hR451 : RdV c451 := by rw [hc451]; exact (k_sign_x hR407 (by omega)).1
    have hR9 := hR451
    obtain ⟨ra451, rb451, rc451⟩ := hR9
    have hx451 : Ly c c451 := Ly_t hx407 (Ly_x (by rw [hc451]; exact (k_sign_x hR407 (by omega)).2))
    have hz451 : c451 0 2 = c 0 2 := hx451.2 2 (by decide) (by decide) (by decide)
    have ht451_0 : c451 3 0 = c 3 0 := congrFun hx451.1 0
    have ht451_1 : c451 3 1 = c 3 1 := congrFun hx451.1 1
    have ht451_2 : c451 3 2 = c 3 2 := congrFun hx451.1 2
    have ht451_3 : c451 3 3 = c 3 3 := congrFun hx451.1 3
    have ht451_4 : c451 3 4 = c 3 4 := congrFun hx451.1 4
    have ht451_5 : c451 3 5 = c 3 5 := congrFun hx451.1 5
    have ht451_6 : c451 3 6 = c 3 6 := congrFun hx451.1 6
    have ht451_8 : c451 3 8 = c 3 8 := congrFun hx451.1 8
    have ht451_9 : c451 3 9 = c 3 9 := congrFun hx451.1 9
    have ht451_10 : c451 3 10 = c 3 10 := congrFun hx451.1 10
    exact T_return (am_dec tX12_clause_5 29 rfl) rfl (am_tr (fun (x9 : am_F) => Q (.inl none) (mdW w b x9 q)) (y := c451) (show (k_clause_406 c) = c451 from (by have s9 := hc407.symm; subst s9; have s9 := hc451.symm; subst s9; exact rfl)) hQ)
def k_clause_181 (c : am_F) (k : Int) : am_F := (let u196 : Int × am_F := k_acrossHere c; (let u203 : Int × am_F := k_downHere (am_put (u196).2 (60 + (c 3 2).toNat) 0 ((u196).1)); (let u213 : Int × am_F := k_number (am_put (u203).2 (60 + (c 3 2).toNat) 1 ((u203).1)) 1 20; (let t438 : Int := (if (u213).2 0 5 = 0 then 1 else 0); k_sign (am_put (am_put (u213).2 (60 + (c 3 2).toNat) 2 ((u213).1)) 3 k.toNat (((u213).2 3 k.toNat) + t438)) 59))))
set_option maxHeartbeats 4000000 in
theorem S_k_clause_181 {S : am_S} {d u : Nat} {Q : AO → AH → Prop} {w : AH} {b : Nat} (hl : b + 735 ≤ w.length) (c : am_F) (q : am_F) (k : Int) (hR : RdV c) (hRW : RW c) (hfu : k_isFull c k = 0) (hk9 : k = 2) (hd : 5 ≤ d) (hQ : Q (.inl none) (mdW w b (k_clause_181 c k) q)) : am_T S zX12_clause d u Q 181 [some (aR b), some (aI k), none] [] (mdW w b c q) := by
    have hR9 := hR
    obtain ⟨r1, r2, r3⟩ := hR9
    have w9 := hRW
    obtain ⟨w0, w1, w2, w3, w4, w5, w6, w8, w7, w10, w11⟩ := w9
    have hfl := (k_isFull_s hfu).1 hk9
    refine T_aload_n (am_dec tX12_clause_1 27 rfl) rfl ?_
    refine T_getfield 11 18 (am_dec tX12_clause_1 28 rfl) flX12_46_11 (md_obj hl) rfl ?_
    refine T_aload_n (am_dec tX12_clause_1 29 rfl) rfl ?_
    refine T_getfield 11 10 (am_dec tX12_clause_1 30 rfl) flX12_20_11 (md_obj hl) rfl ?_
    refine T_iconst 2 (am_dec tX12_clause_1 31 rfl) rfl ⟨by decide, by decide⟩ ?_
    refine T_ialoadE (x := c 3 2) (am_dec tX12_clause_1 32 rfl) (md_readTold hl) (by omega) (by omega) rfl ?_
    refine T_aaloadR (r := b + (60 + (c 3 2).toNat)) (am_dec tX12_clause_1 33 rfl) (by decide) (mh_readLamp hl) (by omega) (by omega) (if_pos (by omega)) ?_
    refine T_astore_n (ls' := [some (aR b), some (aI k), some (aR (b + (60 + (c 3 2).toNat)))]) (am_dec tX12_clause_1 34 rfl) (by decide) rfl ?_
    refine T_aload_n (am_dec tX12_clause_1 35 rfl) rfl ?_
    refine T_iconst 0 (am_dec tX12_clause_1 36 rfl) rfl ⟨by decide, by decide⟩ ?_
    refine T_aload_n (am_dec tX12_clause_1 37 rfl) rfl ?_
    refine T_callV (as := []) rfl (am_dec tX12_clause_1 38 rfl) lkX12_242 (md_obj hl) rfl rfl (Nat.le_of_ble_eq_true rfl) (by omega) (mk_acrossHere (d := d - 1) hl   hR (RW_y Ly_r hRW).1 (by omega)) (fun _ => ?_)
    obtain ⟨u196, hu196⟩ : ∃ x9, x9 = k_acrossHere c := ⟨_, rfl⟩
    rw [← hu196]
    have hR196 : RdV (u196).2 := by rw [hu196]; exact (k_across_x hR).1
    have hR9 := hR196
    obtain ⟨ra196, rb196, rc196⟩ := hR9
    have hx196 : Ly c (u196).2 := Ly_t Ly_r (Ly_x (by rw [hu196]; exact (k_across_x hR).2.1))
    have hz196 : (u196).2 0 2 = c 0 2 := hx196.2 2 (by decide) (by decide) (by decide)
    have ht196_0 : (u196).2 3 0 = c 3 0 := congrFun hx196.1 0
    have ht196_1 : (u196).2 3 1 = c 3 1 := congrFun hx196.1 1
    have ht196_2 : (u196).2 3 2 = c 3 2 := congrFun hx196.1 2
    have ht196_3 : (u196).2 3 3 = c 3 3 := congrFun hx196.1 3
    have ht196_4 : (u196).2 3 4 = c 3 4 := congrFun hx196.1 4
    have ht196_5 : (u196).2 3 5 = c 3 5 := congrFun hx196.1 5
    have ht196_6 : (u196).2 3 6 = c 3 6 := congrFun hx196.1 6
    have ht196_8 : (u196).2 3 8 = c 3 8 := congrFun hx196.1 8
    have ht196_9 : (u196).2 3 9 = c 3 9 := congrFun hx196.1 9
    have ht196_10 : (u196).2 3 10 = c 3 10 := congrFun hx196.1 10
    have hv196 : ((u196).2 0 5 = 0 ∧ 0 ≤ (u196).1 ∧ (u196).1 ≤ (c 3 0 - 1)) ∨ ((u196).2 0 5 ≠ 0 ∧ (u196).1 = 0) := by rw [hu196]; have q9 := (k_across_x hR).2.2; exact q9
    have hf196 : (u196).2 0 5 = 0 → c 0 5 = 0 := by rw [hu196]; exact fun h9 => (k_across_5 h9)
    refine T_iastore (am_dec tX12_clause_1 39 rfl) (mr_readLamp hl (i := (c 3 2)) (by omega) (by omega)) (by omega) (by omega) ?_
    refine am_wE (w2 := mdW w b (am_put (u196).2 (60 + (c 3 2).toNat) 0 ((u196).1)) q) (md_pc (by omega) (fun f g => md_t_readLamp f g (by omega))) ?_
    refine T_aload_n (am_dec tX12_clause_2 0 rfl) rfl ?_
    refine T_iconst 1 (am_dec tX12_clause_2 1 rfl) rfl ⟨by decide, by decide⟩ ?_
    refine T_aload_n (am_dec tX12_clause_2 2 rfl) rfl ?_
    refine T_callV (as := []) rfl (am_dec tX12_clause_2 3 rfl) lkX12_245 (md_obj hl) rfl rfl (Nat.le_of_ble_eq_true rfl) (by omega) (mk_downHere (d := d - 1) hl   (RdV_k (k := (60 + (c 3 2).toNat)) (i := 0) (v := ((u196).1)) (by omega) (by omega) hR196) (RW_y (Ly_t hx196 (Ly_k (k := (60 + (c 3 2).toNat)) (i := 0) (v := ((u196).1)) (by omega) (by omega))) hRW).2.1 (by omega)) (fun _ => ?_)
    obtain ⟨u203, hu203⟩ : ∃ x9, x9 = k_downHere (am_put (u196).2 (60 + (c 3 2).toNat) 0 ((u196).1)) := ⟨_, rfl⟩
    rw [← hu203]
    have hR203 : RdV (u203).2 := by rw [hu203]; exact (k_down_x (RdV_k (k := (60 + (c 3 2).toNat)) (i := 0) (v := ((u196).1)) (by omega) (by omega) hR196)).1
    have hR9 := hR203
    obtain ⟨ra203, rb203, rc203⟩ := hR9
    have hx203 : Ly c (u203).2 := Ly_t (Ly_t hx196 (Ly_k (k := (60 + (c 3 2).toNat)) (i := 0) (v := ((u196).1)) (by omega) (by omega))) (Ly_x (by rw [hu203]; exact (k_down_x (RdV_k (k := (60 + (c 3 2).toNat)) (i := 0) (v := ((u196).1)) (by omega) (by omega) hR196)).2.1))
    have hz203 : (u203).2 0 2 = c 0 2 := hx203.2 2 (by decide) (by decide) (by decide)
    have ht203_0 : (u203).2 3 0 = c 3 0 := congrFun hx203.1 0
    have ht203_1 : (u203).2 3 1 = c 3 1 := congrFun hx203.1 1
    have ht203_2 : (u203).2 3 2 = c 3 2 := congrFun hx203.1 2
    have ht203_3 : (u203).2 3 3 = c 3 3 := congrFun hx203.1 3
    have ht203_4 : (u203).2 3 4 = c 3 4 := congrFun hx203.1 4
    have ht203_5 : (u203).2 3 5 = c 3 5 := congrFun hx203.1 5
    have ht203_6 : (u203).2 3 6 = c 3 6 := congrFun hx203.1 6
    have ht203_8 : (u203).2 3 8 = c 3 8 := congrFun hx203.1 8
    have ht203_9 : (u203).2 3 9 = c 3 9 := congrFun hx203.1 9
    have ht203_10 : (u203).2 3 10 = c 3 10 := congrFun hx203.1 10
    have hv203 : ((u203).2 0 5 = 0 ∧ 0 ≤ (u203).1 ∧ (u203).1 ≤ ((u196).2 3 1 - 1)) ∨ ((u203).2 0 5 ≠ 0 ∧ (u203).1 = 0) := by rw [hu203]; have q9 := (k_down_x (RdV_k (k := (60 + (c 3 2).toNat)) (i := 0) (v := ((u196).1)) (by omega) (by omega) hR196)).2.2; rw [show (am_put (u196).2 (60 + (c 3 2).toNat) 0 ((u196).1)) 3 1 = (u196).2 3 1 from (am_put_k (by omega))] at q9; exact q9
    have hf203 : (u203).2 0 5 = 0 → (u196).2 0 5 = 0 := by rw [hu203]; exact fun h9 => (show (am_put (u196).2 (60 + (c 3 2).toNat) 0 ((u196).1)) 0 5 = (u196).2 0 5 from (am_put_k (by omega))).symm.trans (k_down_5 h9)
    refine T_iastore (am_dec tX12_clause_2 4 rfl) (mr_readLamp hl (i := (c 3 2)) (by omega) (by omega)) (by omega) (by omega) ?_
    refine am_wE (w2 := mdW w b (am_put (u203).2 (60 + (c 3 2).toNat) 1 ((u203).1)) q) (md_pc (by omega) (fun f g => md_t_readLamp f g (by omega))) ?_
    refine T_aload_n (am_dec tX12_clause_2 5 rfl) rfl ?_
    refine T_iconst 2 (am_dec tX12_clause_2 6 rfl) rfl ⟨by decide, by decide⟩ ?_
    refine T_aload_n (am_dec tX12_clause_2 7 rfl) rfl ?_
    refine T_iconst 1 (am_dec tX12_clause_2 8 rfl) rfl ⟨by decide, by decide⟩ ?_
    refine T_bipush 20 (am_dec tX12_clause_2 9 rfl) rfl ⟨by decide, by decide⟩ ?_
    refine T_callV (as := [aI 1, aI 20]) rfl (am_dec tX12_clause_2 10 rfl) lkX12_231 (md_obj hl) rfl rfl (Nat.le_of_ble_eq_true rfl) (by omega) (mk_number (d := d - 1) hl 1 20  (RdV_k (k := (60 + (c 3 2).toNat)) (i := 1) (v := ((u203).1)) (by omega) (by omega) hR203) (by omega)) (fun _ => ?_)
    obtain ⟨u213, hu213⟩ : ∃ x9, x9 = k_number (am_put (u203).2 (60 + (c 3 2).toNat) 1 ((u203).1)) 1 20 := ⟨_, rfl⟩
    rw [← hu213]
    have hR213 : RdV (u213).2 := by rw [hu213]; exact (k_number_x (RdV_k (k := (60 + (c 3 2).toNat)) (i := 1) (v := ((u203).1)) (by omega) (by omega) hR203)).1
    have hR9 := hR213
    obtain ⟨ra213, rb213, rc213⟩ := hR9
    have hx213 : Ly c (u213).2 := Ly_t (Ly_t hx203 (Ly_k (k := (60 + (c 3 2).toNat)) (i := 1) (v := ((u203).1)) (by omega) (by omega))) (Ly_x (by rw [hu213]; exact (k_number_x (RdV_k (k := (60 + (c 3 2).toNat)) (i := 1) (v := ((u203).1)) (by omega) (by omega) hR203)).2.1))
    have hz213 : (u213).2 0 2 = c 0 2 := hx213.2 2 (by decide) (by decide) (by decide)
    have ht213_0 : (u213).2 3 0 = c 3 0 := congrFun hx213.1 0
    have ht213_1 : (u213).2 3 1 = c 3 1 := congrFun hx213.1 1
    have ht213_2 : (u213).2 3 2 = c 3 2 := congrFun hx213.1 2
    have ht213_3 : (u213).2 3 3 = c 3 3 := congrFun hx213.1 3
    have ht213_4 : (u213).2 3 4 = c 3 4 := congrFun hx213.1 4
    have ht213_5 : (u213).2 3 5 = c 3 5 := congrFun hx213.1 5
    have ht213_6 : (u213).2 3 6 = c 3 6 := congrFun hx213.1 6
    have ht213_8 : (u213).2 3 8 = c 3 8 := congrFun hx213.1 8
    have ht213_9 : (u213).2 3 9 = c 3 9 := congrFun hx213.1 9
    have ht213_10 : (u213).2 3 10 = c 3 10 := congrFun hx213.1 10
    have hv213 : ((u213).2 0 5 = 0 ∧ 1 ≤ (u213).1 ∧ (u213).1 ≤ 20) ∨ ((u213).2 0 5 ≠ 0 ∧ (u213).1 = 0) := by rw [hu213]; have q9 := (k_number_x (lo := 1) (hi := 20) (RdV_k (k := (60 + (c 3 2).toNat)) (i := 1) (v := ((u203).1)) (by omega) (by omega) hR203)).2.2; exact q9
    have hf213 : (u213).2 0 5 = 0 → (u203).2 0 5 = 0 := by rw [hu213]; exact fun h9 => (show (am_put (u203).2 (60 + (c 3 2).toNat) 1 ((u203).1)) 0 5 = (u203).2 0 5 from (am_put_k (by omega))).symm.trans (k_number_5 h9)
    refine T_iastore (am_dec tX12_clause_2 11 rfl) (mr_readLamp hl (i := (c 3 2)) (by omega) (by omega)) (by omega) (by omega) ?_
    refine am_wE (w2 := mdW w b (am_put (u213).2 (60 + (c 3 2).toNat) 2 ((u213).1)) q) (md_pc (by omega) (fun f g => md_t_readLamp f g (by omega))) ?_
    refine T_goto 410 (am_dec tX12_clause_2 12 rfl) rfl ?_
    refine T_iload_n (am_dec tX12_clause_5 4 rfl) rfl ?_
    refine T_iconst 1 (am_dec tX12_clause_5 5 rfl) rfl ⟨by decide, by decide⟩ ?_
    refine T_icmp_le 421 (am_dec tX12_clause_5 6 rfl) rfl (fun h412 => by exfalso; omega) (fun h412 => ?_)
    refine T_iload_n (am_dec tX12_clause_5 7 rfl) rfl ?_
    refine T_bipush 7 (am_dec tX12_clause_5 8 rfl) rfl ⟨by decide, by decide⟩ ?_
    refine T_icmp_lt 427 (am_dec tX12_clause_5 9 rfl) rfl (fun h418 => ?_) (fun h418 => by exfalso; omega)
    refine T_aload_n (am_dec tX12_clause_5 13 rfl) rfl ?_
    refine T_getfield 11 10 (am_dec tX12_clause_5 14 rfl) flX12_20_11 (md_obj hl) rfl ?_
    refine T_iload_n (am_dec tX12_clause_5 15 rfl) rfl ?_
    refine T_dup2 (am_dec tX12_clause_5 16 rfl) rfl rfl ?_
    refine T_ialoadE (x := (u213).2 3 k.toNat) (am_dec tX12_clause_5 17 rfl) (md_readTold hl) (by omega) (by omega) (am_put_k (by omega)) ?_
    refine T_aload_n (am_dec tX12_clause_5 18 rfl) rfl ?_
    refine T_getfield 11 5 (am_dec tX12_clause_5 19 rfl) flX12_176_11 (md_obj hl) (md_fe rfl (am_put_k (by omega))) ?_
    have K438 : ∀ (t438 : Int), t438 = (if (u213).2 0 5 = 0 then 1 else 0) →  am_T S zX12_clause d u Q 446 [some (aR b), none, none] [aI t438, aI ((u213).2 3 k.toNat), aI k, aR (b + 3)] (mdW w b (am_put (u213).2 (60 + (c 3 2).toNat) 2 ((u213).1)) q) := by
      intro t438 ht438 
      have hbt438 : t438 = 0 ∨ t438 = 1 := by
        rw [ht438]
        try dsimp only
        repeat' split
        all_goals first | exact Or.inl rfl | exact Or.inr rfl | apply k_in_b | apply k_isDigit_b | apply k_isSmall_b | apply k_bad_b | apply k_isIn_b | apply k_isStep_b | apply k_isFirst_b | apply k_isLine_b | apply k_seesBy_b | apply k_isWalker_b | apply k_seesOne_b | apply k_badTwo_b | apply k_sees_b | apply k_isCode_b | apply k_isLot_b | apply k_isShip_b | apply k_areRight_b | apply k_right_b | apply k_areSeeds_b | apply k_badBid_b | apply k_isWord_b | apply k_takes_b | apply k_takesSign_b | apply k_isFull_b | omega
      have e8 : (u213).2 3 k.toNat = (u213).2 3 2 := by rw [show k.toNat = 2 by omega]
      refine T_iadd (((u213).2 3 k.toNat) + t438) (am_dec tX12_clause_5 24 rfl) rfl ⟨by omega, by omega⟩ ?_
      refine T_iastore (am_dec tX12_clause_5 25 rfl) (md_readTold hl) (by omega) (by omega) ?_
      refine am_wE (w2 := mdW w b (am_put (am_put (u213).2 (60 + (c 3 2).toNat) 2 ((u213).1)) 3 k.toNat (((u213).2 3 k.toNat) + t438)) q) (md_pc (Nat.le_of_ble_eq_true rfl) (fun _ _ => rfl)) ?_
      refine T_aload_n (am_dec tX12_clause_5 26 rfl) rfl ?_
      refine T_bipush 59 (am_dec tX12_clause_5 27 rfl) rfl ⟨by decide, by decide⟩ ?_
      refine T_callV (as := [aI 59]) rfl (am_dec tX12_clause_5 28 rfl) lkX12_264 (md_obj hl) rfl rfl (Nat.le_of_ble_eq_true rfl) (by omega) (mk_sign (d := d - 1) hl 59  (RdV_k (k := 3) (i := k.toNat) (v := (((u213).2 3 k.toNat) + t438)) (by decide) (by decide) (RdV_k (k := (60 + (c 3 2).toNat)) (i := 2) (v := ((u213).1)) (by omega) (by omega) hR213)) (by omega) (by omega)) (fun _ => ?_)
      refine T_nmH (W := fun x9 => mdW w b x9 q) (v := k_sign (am_put (am_put (u213).2 (60 + (c 3 2).toNat) 2 ((u213).1)) 3 k.toNat (((u213).2 3 k.toNat) + t438)) 59) (fun c451 hc451 => ?_)
      have hR451 : RdV c451 := by rw [hc451]; exact (k_sign_x (RdV_k (k := 3) (i := k.toNat) (v := (((u213).2 3 k.toNat) + t438)) (by decide) (by decide) (RdV_k (k := (60 + (c 3 2).toNat)) (i := 2) (v := ((u213).1)) (by omega) (by omega) hR213)) (by omega)).1
      have hR9 := hR451
      obtain ⟨ra451, rb451, rc451⟩ := hR9
      exact T_return (am_dec tX12_clause_5 29 rfl) rfl (am_tr (fun (x9 : am_F) => Q (.inl none) (mdW w b x9 q)) (y := c451) (show (k_clause_181 c k) = c451 from (by have s9 := hu196.symm; subst s9; have s9 := hu203.symm; subst s9; have s9 := hu213.symm; subst s9; have s9 := ht438.symm; subst s9; have s9 := hc451.symm; subst s9; exact rfl)) hQ)
    refine T_if_ne 445 (am_dec tX12_clause_5 20 rfl) rfl (fun h438 => ?_) (fun h438 => ?_)
    · refine T_iconst 0 (am_dec tX12_clause_5 23 rfl) rfl ⟨by decide, by decide⟩ ?_
      refine T_weak (ls' := [some (aR b), none, none]) (am_sub_s (am_sub_n (am_sub_n am_sub_nil))) ?_
      exact K438 _ (if_neg h438).symm 
    · refine T_iconst 1 (am_dec tX12_clause_5 21 rfl) rfl ⟨by decide, by decide⟩ ?_
      refine T_goto 446 (am_dec tX12_clause_5 22 rfl) rfl ?_
      refine T_weak (ls' := [some (aR b), none, none]) (am_sub_s (am_sub_n (am_sub_n am_sub_nil))) ?_
      exact K438 _ (if_pos h438).symm 
def k_clause_220 (c : am_F) (k : Int) : am_F := (let c232 : am_F := k_lotHere c (c 3 3); (let t438 : Int := (if c232 0 5 = 0 then 1 else 0); k_sign (am_put c232 3 k.toNat ((c232 3 k.toNat) + t438)) 59))
set_option maxHeartbeats 4000000 in
theorem S_k_clause_220 {S : am_S} {d u : Nat} {Q : AO → AH → Prop} {w : AH} {b : Nat} (hl : b + 735 ≤ w.length) (c : am_F) (q : am_F) (k : Int) (hR : RdV c) (hRW : RW c) (hfu : k_isFull c k = 0) (hk9 : k = 3) (hd : 5 ≤ d) (hQ : Q (.inl none) (mdW w b (k_clause_220 c k) q)) : am_T S zX12_clause d u Q 220 [some (aR b), some (aI k), none] [] (mdW w b c q) := by
    have hR9 := hR
    obtain ⟨r1, r2, r3⟩ := hR9
    have w9 := hRW
    obtain ⟨w0, w1, w2, w3, w4, w5, w6, w8, w7, w10, w11⟩ := w9
    have hfl := (k_isFull_s hfu).2.1 hk9
    refine T_aload_n (am_dec tX12_clause_2 13 rfl) rfl ?_
    refine T_aload_n (am_dec tX12_clause_2 14 rfl) rfl ?_
    refine T_getfield 11 22 (am_dec tX12_clause_2 15 rfl) flX12_58_11 (md_obj hl) rfl ?_
    refine T_aload_n (am_dec tX12_clause_2 16 rfl) rfl ?_
    refine T_getfield 11 10 (am_dec tX12_clause_2 17 rfl) flX12_20_11 (md_obj hl) rfl ?_
    refine T_iconst 3 (am_dec tX12_clause_2 18 rfl) rfl ⟨by decide, by decide⟩ ?_
    refine T_ialoadE (x := c 3 3) (am_dec tX12_clause_2 19 rfl) (md_readTold hl) (by omega) (by omega) rfl ?_
    refine T_aaloadR (r := b + (89 + (c 3 3).toNat)) (am_dec tX12_clause_2 20 rfl) (by decide) (mh_readLot hl) (by omega) (by omega) (if_pos (by omega)) ?_
    refine T_callV (as := [aR (b + (89 + (c 3 3).toNat))]) rfl (am_dec tX12_clause_2 21 rfl) lkX12_248 (md_obj hl) rfl rfl (Nat.le_of_ble_eq_true rfl) (by omega) (mk_lotHere (d := d - 1) hl  (c 3 3) hR (RW_y Ly_r hRW) (by omega) (by omega)) (fun _ => ?_)
    refine T_nmH (W := fun x9 => mdW w b x9 q) (v := k_lotHere c (c 3 3)) (fun c232 hc232 => ?_)
    have hR232 : RdV c232 := by rw [hc232]; exact (k_lotHere_x hR).1
    have hR9 := hR232
    obtain ⟨ra232, rb232, rc232⟩ := hR9
    have hx232 : Ly c c232 := Ly_t Ly_r (by rw [hc232]; exact (k_lotHere_x hR).2)
    have ht232_0 : c232 3 0 = c 3 0 := congrFun hx232.1 0
    have ht232_1 : c232 3 1 = c 3 1 := congrFun hx232.1 1
    have ht232_2 : c232 3 2 = c 3 2 := congrFun hx232.1 2
    have ht232_3 : c232 3 3 = c 3 3 := congrFun hx232.1 3
    have ht232_4 : c232 3 4 = c 3 4 := congrFun hx232.1 4
    have ht232_5 : c232 3 5 = c 3 5 := congrFun hx232.1 5
    have ht232_6 : c232 3 6 = c 3 6 := congrFun hx232.1 6
    have ht232_8 : c232 3 8 = c 3 8 := congrFun hx232.1 8
    have ht232_9 : c232 3 9 = c 3 9 := congrFun hx232.1 9
    have ht232_10 : c232 3 10 = c 3 10 := congrFun hx232.1 10
    refine T_goto 410 (am_dec tX12_clause_2 22 rfl) rfl ?_
    refine T_iload_n (am_dec tX12_clause_5 4 rfl) rfl ?_
    refine T_iconst 1 (am_dec tX12_clause_5 5 rfl) rfl ⟨by decide, by decide⟩ ?_
    refine T_icmp_le 421 (am_dec tX12_clause_5 6 rfl) rfl (fun h412 => by exfalso; omega) (fun h412 => ?_)
    refine T_iload_n (am_dec tX12_clause_5 7 rfl) rfl ?_
    refine T_bipush 7 (am_dec tX12_clause_5 8 rfl) rfl ⟨by decide, by decide⟩ ?_
    refine T_icmp_lt 427 (am_dec tX12_clause_5 9 rfl) rfl (fun h418 => ?_) (fun h418 => by exfalso; omega)
    refine T_aload_n (am_dec tX12_clause_5 13 rfl) rfl ?_
    refine T_getfield 11 10 (am_dec tX12_clause_5 14 rfl) flX12_20_11 (md_obj hl) rfl ?_
    refine T_iload_n (am_dec tX12_clause_5 15 rfl) rfl ?_
    refine T_dup2 (am_dec tX12_clause_5 16 rfl) rfl rfl ?_
    refine T_ialoadE (x := c232 3 k.toNat) (am_dec tX12_clause_5 17 rfl) (md_readTold hl) (by omega) (by omega) rfl ?_
    refine T_aload_n (am_dec tX12_clause_5 18 rfl) rfl ?_
    refine T_getfield 11 5 (am_dec tX12_clause_5 19 rfl) flX12_176_11 (md_obj hl) rfl ?_
    have K438 : ∀ (t438 : Int), t438 = (if c232 0 5 = 0 then 1 else 0) →  am_T S zX12_clause d u Q 446 [some (aR b), none, none] [aI t438, aI (c232 3 k.toNat), aI k, aR (b + 3)] (mdW w b c232 q) := by
      intro t438 ht438 
      have hbt438 : t438 = 0 ∨ t438 = 1 := by
        rw [ht438]
        try dsimp only
        repeat' split
        all_goals first | exact Or.inl rfl | exact Or.inr rfl | apply k_in_b | apply k_isDigit_b | apply k_isSmall_b | apply k_bad_b | apply k_isIn_b | apply k_isStep_b | apply k_isFirst_b | apply k_isLine_b | apply k_seesBy_b | apply k_isWalker_b | apply k_seesOne_b | apply k_badTwo_b | apply k_sees_b | apply k_isCode_b | apply k_isLot_b | apply k_isShip_b | apply k_areRight_b | apply k_right_b | apply k_areSeeds_b | apply k_badBid_b | apply k_isWord_b | apply k_takes_b | apply k_takesSign_b | apply k_isFull_b | omega
      have e8 : c232 3 k.toNat = c232 3 3 := by rw [show k.toNat = 3 by omega]
      refine T_iadd ((c232 3 k.toNat) + t438) (am_dec tX12_clause_5 24 rfl) rfl ⟨by omega, by omega⟩ ?_
      refine T_iastore (am_dec tX12_clause_5 25 rfl) (md_readTold hl) (by omega) (by omega) ?_
      refine am_wE (w2 := mdW w b (am_put c232 3 k.toNat ((c232 3 k.toNat) + t438)) q) (md_pc (Nat.le_of_ble_eq_true rfl) (fun _ _ => rfl)) ?_
      refine T_aload_n (am_dec tX12_clause_5 26 rfl) rfl ?_
      refine T_bipush 59 (am_dec tX12_clause_5 27 rfl) rfl ⟨by decide, by decide⟩ ?_
      refine T_callV (as := [aI 59]) rfl (am_dec tX12_clause_5 28 rfl) lkX12_264 (md_obj hl) rfl rfl (Nat.le_of_ble_eq_true rfl) (by omega) (mk_sign (d := d - 1) hl 59  (RdV_k (k := 3) (i := k.toNat) (v := ((c232 3 k.toNat) + t438)) (by decide) (by decide) hR232) (by omega) (by omega)) (fun _ => ?_)
      refine T_nmH (W := fun x9 => mdW w b x9 q) (v := k_sign (am_put c232 3 k.toNat ((c232 3 k.toNat) + t438)) 59) (fun c451 hc451 => ?_)
      have hR451 : RdV c451 := by rw [hc451]; exact (k_sign_x (RdV_k (k := 3) (i := k.toNat) (v := ((c232 3 k.toNat) + t438)) (by decide) (by decide) hR232) (by omega)).1
      have hR9 := hR451
      obtain ⟨ra451, rb451, rc451⟩ := hR9
      exact T_return (am_dec tX12_clause_5 29 rfl) rfl (am_tr (fun (x9 : am_F) => Q (.inl none) (mdW w b x9 q)) (y := c451) (show (k_clause_220 c k) = c451 from (by have s9 := hc232.symm; subst s9; have s9 := ht438.symm; subst s9; have s9 := hc451.symm; subst s9; exact rfl)) hQ)
    refine T_if_ne 445 (am_dec tX12_clause_5 20 rfl) rfl (fun h438 => ?_) (fun h438 => ?_)
    · refine T_iconst 0 (am_dec tX12_clause_5 23 rfl) rfl ⟨by decide, by decide⟩ ?_
      refine T_weak (ls' := [some (aR b), none, none]) (am_sub_s (am_sub_n (am_sub_n am_sub_nil))) ?_
      exact K438 _ (if_neg h438).symm 
    · refine T_iconst 1 (am_dec tX12_clause_5 21 rfl) rfl ⟨by decide, by decide⟩ ?_
      refine T_goto 446 (am_dec tX12_clause_5 22 rfl) rfl ?_
      refine T_weak (ls' := [some (aR b), none, none]) (am_sub_s (am_sub_n (am_sub_n am_sub_nil))) ?_
      exact K438 _ (if_pos h438).symm 
def k_clause_238 (c : am_F) (k : Int) : am_F := (let c250 : am_F := k_walkHere c (c 3 4); (let t438 : Int := (if c250 0 5 = 0 then 1 else 0); k_sign (am_put c250 3 k.toNat ((c250 3 k.toNat) + t438)) 59))
set_option maxHeartbeats 4000000 in
theorem S_k_clause_238 {S : am_S} {d u : Nat} {Q : AO → AH → Prop} {w : AH} {b : Nat} (hl : b + 735 ≤ w.length) (c : am_F) (q : am_F) (k : Int) (hR : RdV c) (hRW : RW c) (hfu : k_isFull c k = 0) (hk9 : k = 4) (hd : 5 ≤ d) (hQ : Q (.inl none) (mdW w b (k_clause_238 c k) q)) : am_T S zX12_clause d u Q 238 [some (aR b), some (aI k), none] [] (mdW w b c q) := by
    have hR9 := hR
    obtain ⟨r1, r2, r3⟩ := hR9
    have w9 := hRW
    obtain ⟨w0, w1, w2, w3, w4, w5, w6, w8, w7, w10, w11⟩ := w9
    have hfl := (k_isFull_s hfu).2.2.1 hk9
    refine T_aload_n (am_dec tX12_clause_2 23 rfl) rfl ?_
    refine T_aload_n (am_dec tX12_clause_2 24 rfl) rfl ?_
    refine T_getfield 11 24 (am_dec tX12_clause_2 25 rfl) flX12_64_11 (md_obj hl) rfl ?_
    refine T_aload_n (am_dec tX12_clause_2 26 rfl) rfl ?_
    refine T_getfield 11 10 (am_dec tX12_clause_2 27 rfl) flX12_20_11 (md_obj hl) rfl ?_
    refine T_iconst 4 (am_dec tX12_clause_2 28 rfl) rfl ⟨by decide, by decide⟩ ?_
    refine T_ialoadE (x := c 3 4) (am_dec tX12_clause_2 29 rfl) (md_readTold hl) (by omega) (by omega) rfl ?_
    refine T_aaloadR (r := b + (103 + (c 3 4).toNat)) (am_dec tX12_clause_2 30 rfl) (by decide) (mh_readWalker hl) (by omega) (by omega) (if_pos (by omega)) ?_
    refine T_callV (as := [aR (b + (103 + (c 3 4).toNat))]) rfl (am_dec tX12_clause_2 31 rfl) lkX12_252 (md_obj hl) rfl rfl (Nat.le_of_ble_eq_true rfl) (by omega) (mk_walkHere (d := d - 1) hl  (c 3 4) hR (RW_y Ly_r hRW) (by omega) (by omega)) (fun _ => ?_)
    refine T_nmH (W := fun x9 => mdW w b x9 q) (v := k_walkHere c (c 3 4)) (fun c250 hc250 => ?_)
    have hR250 : RdV c250 := by rw [hc250]; exact (k_walkHere_x hR).1
    have hR9 := hR250
    obtain ⟨ra250, rb250, rc250⟩ := hR9
    have hx250 : Ly c c250 := Ly_t Ly_r (by rw [hc250]; exact (k_walkHere_x hR).2)
    have ht250_0 : c250 3 0 = c 3 0 := congrFun hx250.1 0
    have ht250_1 : c250 3 1 = c 3 1 := congrFun hx250.1 1
    have ht250_2 : c250 3 2 = c 3 2 := congrFun hx250.1 2
    have ht250_3 : c250 3 3 = c 3 3 := congrFun hx250.1 3
    have ht250_4 : c250 3 4 = c 3 4 := congrFun hx250.1 4
    have ht250_5 : c250 3 5 = c 3 5 := congrFun hx250.1 5
    have ht250_6 : c250 3 6 = c 3 6 := congrFun hx250.1 6
    have ht250_8 : c250 3 8 = c 3 8 := congrFun hx250.1 8
    have ht250_9 : c250 3 9 = c 3 9 := congrFun hx250.1 9
    have ht250_10 : c250 3 10 = c 3 10 := congrFun hx250.1 10
    refine T_goto 410 (am_dec tX12_clause_2 32 rfl) rfl ?_
    refine T_iload_n (am_dec tX12_clause_5 4 rfl) rfl ?_
    refine T_iconst 1 (am_dec tX12_clause_5 5 rfl) rfl ⟨by decide, by decide⟩ ?_
    refine T_icmp_le 421 (am_dec tX12_clause_5 6 rfl) rfl (fun h412 => by exfalso; omega) (fun h412 => ?_)
    refine T_iload_n (am_dec tX12_clause_5 7 rfl) rfl ?_
    refine T_bipush 7 (am_dec tX12_clause_5 8 rfl) rfl ⟨by decide, by decide⟩ ?_
    refine T_icmp_lt 427 (am_dec tX12_clause_5 9 rfl) rfl (fun h418 => ?_) (fun h418 => by exfalso; omega)
    refine T_aload_n (am_dec tX12_clause_5 13 rfl) rfl ?_
    refine T_getfield 11 10 (am_dec tX12_clause_5 14 rfl) flX12_20_11 (md_obj hl) rfl ?_
    refine T_iload_n (am_dec tX12_clause_5 15 rfl) rfl ?_
    refine T_dup2 (am_dec tX12_clause_5 16 rfl) rfl rfl ?_
    refine T_ialoadE (x := c250 3 k.toNat) (am_dec tX12_clause_5 17 rfl) (md_readTold hl) (by omega) (by omega) rfl ?_
    refine T_aload_n (am_dec tX12_clause_5 18 rfl) rfl ?_
    refine T_getfield 11 5 (am_dec tX12_clause_5 19 rfl) flX12_176_11 (md_obj hl) rfl ?_
    have K438 : ∀ (t438 : Int), t438 = (if c250 0 5 = 0 then 1 else 0) →  am_T S zX12_clause d u Q 446 [some (aR b), none, none] [aI t438, aI (c250 3 k.toNat), aI k, aR (b + 3)] (mdW w b c250 q) := by
      intro t438 ht438 
      have hbt438 : t438 = 0 ∨ t438 = 1 := by
        rw [ht438]
        try dsimp only
        repeat' split
        all_goals first | exact Or.inl rfl | exact Or.inr rfl | apply k_in_b | apply k_isDigit_b | apply k_isSmall_b | apply k_bad_b | apply k_isIn_b | apply k_isStep_b | apply k_isFirst_b | apply k_isLine_b | apply k_seesBy_b | apply k_isWalker_b | apply k_seesOne_b | apply k_badTwo_b | apply k_sees_b | apply k_isCode_b | apply k_isLot_b | apply k_isShip_b | apply k_areRight_b | apply k_right_b | apply k_areSeeds_b | apply k_badBid_b | apply k_isWord_b | apply k_takes_b | apply k_takesSign_b | apply k_isFull_b | omega
      have e8 : c250 3 k.toNat = c250 3 4 := by rw [show k.toNat = 4 by omega]
      refine T_iadd ((c250 3 k.toNat) + t438) (am_dec tX12_clause_5 24 rfl) rfl ⟨by omega, by omega⟩ ?_
      refine T_iastore (am_dec tX12_clause_5 25 rfl) (md_readTold hl) (by omega) (by omega) ?_
      refine am_wE (w2 := mdW w b (am_put c250 3 k.toNat ((c250 3 k.toNat) + t438)) q) (md_pc (Nat.le_of_ble_eq_true rfl) (fun _ _ => rfl)) ?_
      refine T_aload_n (am_dec tX12_clause_5 26 rfl) rfl ?_
      refine T_bipush 59 (am_dec tX12_clause_5 27 rfl) rfl ⟨by decide, by decide⟩ ?_
      refine T_callV (as := [aI 59]) rfl (am_dec tX12_clause_5 28 rfl) lkX12_264 (md_obj hl) rfl rfl (Nat.le_of_ble_eq_true rfl) (by omega) (mk_sign (d := d - 1) hl 59  (RdV_k (k := 3) (i := k.toNat) (v := ((c250 3 k.toNat) + t438)) (by decide) (by decide) hR250) (by omega) (by omega)) (fun _ => ?_)
      refine T_nmH (W := fun x9 => mdW w b x9 q) (v := k_sign (am_put c250 3 k.toNat ((c250 3 k.toNat) + t438)) 59) (fun c451 hc451 => ?_)
      have hR451 : RdV c451 := by rw [hc451]; exact (k_sign_x (RdV_k (k := 3) (i := k.toNat) (v := ((c250 3 k.toNat) + t438)) (by decide) (by decide) hR250) (by omega)).1
      have hR9 := hR451
      obtain ⟨ra451, rb451, rc451⟩ := hR9
      exact T_return (am_dec tX12_clause_5 29 rfl) rfl (am_tr (fun (x9 : am_F) => Q (.inl none) (mdW w b x9 q)) (y := c451) (show (k_clause_238 c k) = c451 from (by have s9 := hc250.symm; subst s9; have s9 := ht438.symm; subst s9; have s9 := hc451.symm; subst s9; exact rfl)) hQ)
    refine T_if_ne 445 (am_dec tX12_clause_5 20 rfl) rfl (fun h438 => ?_) (fun h438 => ?_)
    · refine T_iconst 0 (am_dec tX12_clause_5 23 rfl) rfl ⟨by decide, by decide⟩ ?_
      refine T_weak (ls' := [some (aR b), none, none]) (am_sub_s (am_sub_n (am_sub_n am_sub_nil))) ?_
      exact K438 _ (if_neg h438).symm 
    · refine T_iconst 1 (am_dec tX12_clause_5 21 rfl) rfl ⟨by decide, by decide⟩ ?_
      refine T_goto 446 (am_dec tX12_clause_5 22 rfl) rfl ?_
      refine T_weak (ls' := [some (aR b), none, none]) (am_sub_s (am_sub_n (am_sub_n am_sub_nil))) ?_
      exact K438 _ (if_pos h438).symm 
def k_clause_256 (c : am_F) (k : Int) : am_F := (let u269 : Int × am_F := k_acrossHere c; (let u286 : Int × am_F := k_downHere (am_put (u269).2 (113 + (c 3 5).toNat) 0 ((u269).1)); (let t438 : Int := (if (u286).2 0 5 = 0 then 1 else 0); k_sign (am_put (am_put (u286).2 (113 + ((u269).2 3 5).toNat) 1 ((u286).1)) 3 k.toNat (((u286).2 3 k.toNat) + t438)) 59)))
set_option maxHeartbeats 4000000 in
theorem S_k_clause_256 {S : am_S} {d u : Nat} {Q : AO → AH → Prop} {w : AH} {b : Nat} (hl : b + 735 ≤ w.length) (c : am_F) (q : am_F) (k : Int) (hR : RdV c) (hRW : RW c) (hfu : k_isFull c k = 0) (hk9 : k = 5) (hd : 5 ≤ d) (hQ : Q (.inl none) (mdW w b (k_clause_256 c k) q)) : am_T S zX12_clause d u Q 256 [some (aR b), some (aI k), none] [] (mdW w b c q) := by
    have hR9 := hR
    obtain ⟨r1, r2, r3⟩ := hR9
    have w9 := hRW
    obtain ⟨w0, w1, w2, w3, w4, w5, w6, w8, w7, w10, w11⟩ := w9
    have hfl := (k_isFull_s hfu).2.2.2.1 hk9
    refine T_aload_n (am_dec tX12_clause_2 33 rfl) rfl ?_
    refine T_getfield 11 26 (am_dec tX12_clause_2 34 rfl) flX12_70_11 (md_obj hl) rfl ?_
    refine T_aload_n (am_dec tX12_clause_2 35 rfl) rfl ?_
    refine T_getfield 11 10 (am_dec tX12_clause_2 36 rfl) flX12_20_11 (md_obj hl) rfl ?_
    refine T_iconst 5 (am_dec tX12_clause_2 37 rfl) rfl ⟨by decide, by decide⟩ ?_
    refine T_ialoadE (x := c 3 5) (am_dec tX12_clause_2 38 rfl) (md_readTold hl) (by omega) (by omega) rfl ?_
    refine T_aaloadR (r := b + (113 + (c 3 5).toNat)) (am_dec tX12_clause_2 39 rfl) (by decide) (mh_readWatch hl) (by omega) (by omega) (if_pos (by omega)) ?_
    refine T_iconst 0 (am_dec tX12_clause_3 0 rfl) rfl ⟨by decide, by decide⟩ ?_
    refine T_aload_n (am_dec tX12_clause_3 1 rfl) rfl ?_
    refine T_callV (as := []) rfl (am_dec tX12_clause_3 2 rfl) lkX12_242 (md_obj hl) rfl rfl (Nat.le_of_ble_eq_true rfl) (by omega) (mk_acrossHere (d := d - 1) hl   hR (RW_y Ly_r hRW).1 (by omega)) (fun _ => ?_)
    obtain ⟨u269, hu269⟩ : ∃ x9, x9 = k_acrossHere c := ⟨_, rfl⟩
    rw [← hu269]
    have hR269 : RdV (u269).2 := by rw [hu269]; exact (k_across_x hR).1
    have hR9 := hR269
    obtain ⟨ra269, rb269, rc269⟩ := hR9
    have hx269 : Ly c (u269).2 := Ly_t Ly_r (Ly_x (by rw [hu269]; exact (k_across_x hR).2.1))
    have hz269 : (u269).2 0 2 = c 0 2 := hx269.2 2 (by decide) (by decide) (by decide)
    have ht269_0 : (u269).2 3 0 = c 3 0 := congrFun hx269.1 0
    have ht269_1 : (u269).2 3 1 = c 3 1 := congrFun hx269.1 1
    have ht269_2 : (u269).2 3 2 = c 3 2 := congrFun hx269.1 2
    have ht269_3 : (u269).2 3 3 = c 3 3 := congrFun hx269.1 3
    have ht269_4 : (u269).2 3 4 = c 3 4 := congrFun hx269.1 4
    have ht269_5 : (u269).2 3 5 = c 3 5 := congrFun hx269.1 5
    have ht269_6 : (u269).2 3 6 = c 3 6 := congrFun hx269.1 6
    have ht269_8 : (u269).2 3 8 = c 3 8 := congrFun hx269.1 8
    have ht269_9 : (u269).2 3 9 = c 3 9 := congrFun hx269.1 9
    have ht269_10 : (u269).2 3 10 = c 3 10 := congrFun hx269.1 10
    have hv269 : ((u269).2 0 5 = 0 ∧ 0 ≤ (u269).1 ∧ (u269).1 ≤ (c 3 0 - 1)) ∨ ((u269).2 0 5 ≠ 0 ∧ (u269).1 = 0) := by rw [hu269]; have q9 := (k_across_x hR).2.2; exact q9
    have hf269 : (u269).2 0 5 = 0 → c 0 5 = 0 := by rw [hu269]; exact fun h9 => (k_across_5 h9)
    refine T_iastore (am_dec tX12_clause_3 3 rfl) (mr_readWatch hl (i := (c 3 5)) (by omega) (by omega)) (by omega) (by omega) ?_
    refine am_wE (w2 := mdW w b (am_put (u269).2 (113 + (c 3 5).toNat) 0 ((u269).1)) q) (md_pc (by omega) (fun f g => md_t_readWatch f g (by omega))) ?_
    refine T_aload_n (am_dec tX12_clause_3 4 rfl) rfl ?_
    refine T_getfield 11 26 (am_dec tX12_clause_3 5 rfl) flX12_70_11 (md_obj hl) rfl ?_
    refine T_aload_n (am_dec tX12_clause_3 6 rfl) rfl ?_
    refine T_getfield 11 10 (am_dec tX12_clause_3 7 rfl) flX12_20_11 (md_obj hl) rfl ?_
    refine T_iconst 5 (am_dec tX12_clause_3 8 rfl) rfl ⟨by decide, by decide⟩ ?_
    refine T_ialoadE (x := (u269).2 3 5) (am_dec tX12_clause_3 9 rfl) (md_readTold hl) (by omega) (by omega) (am_put_k (by omega)) ?_
    refine T_aaloadR (r := b + (113 + ((u269).2 3 5).toNat)) (am_dec tX12_clause_3 10 rfl) (by decide) (mh_readWatch hl) (by omega) (by omega) (if_pos (by omega)) ?_
    refine T_iconst 1 (am_dec tX12_clause_3 11 rfl) rfl ⟨by decide, by decide⟩ ?_
    refine T_aload_n (am_dec tX12_clause_3 12 rfl) rfl ?_
    refine T_callV (as := []) rfl (am_dec tX12_clause_3 13 rfl) lkX12_245 (md_obj hl) rfl rfl (Nat.le_of_ble_eq_true rfl) (by omega) (mk_downHere (d := d - 1) hl   (RdV_k (k := (113 + (c 3 5).toNat)) (i := 0) (v := ((u269).1)) (by omega) (by omega) hR269) (RW_y (Ly_t hx269 (Ly_k (k := (113 + (c 3 5).toNat)) (i := 0) (v := ((u269).1)) (by omega) (by omega))) hRW).2.1 (by omega)) (fun _ => ?_)
    obtain ⟨u286, hu286⟩ : ∃ x9, x9 = k_downHere (am_put (u269).2 (113 + (c 3 5).toNat) 0 ((u269).1)) := ⟨_, rfl⟩
    rw [← hu286]
    have hR286 : RdV (u286).2 := by rw [hu286]; exact (k_down_x (RdV_k (k := (113 + (c 3 5).toNat)) (i := 0) (v := ((u269).1)) (by omega) (by omega) hR269)).1
    have hR9 := hR286
    obtain ⟨ra286, rb286, rc286⟩ := hR9
    have hx286 : Ly c (u286).2 := Ly_t (Ly_t hx269 (Ly_k (k := (113 + (c 3 5).toNat)) (i := 0) (v := ((u269).1)) (by omega) (by omega))) (Ly_x (by rw [hu286]; exact (k_down_x (RdV_k (k := (113 + (c 3 5).toNat)) (i := 0) (v := ((u269).1)) (by omega) (by omega) hR269)).2.1))
    have hz286 : (u286).2 0 2 = c 0 2 := hx286.2 2 (by decide) (by decide) (by decide)
    have ht286_0 : (u286).2 3 0 = c 3 0 := congrFun hx286.1 0
    have ht286_1 : (u286).2 3 1 = c 3 1 := congrFun hx286.1 1
    have ht286_2 : (u286).2 3 2 = c 3 2 := congrFun hx286.1 2
    have ht286_3 : (u286).2 3 3 = c 3 3 := congrFun hx286.1 3
    have ht286_4 : (u286).2 3 4 = c 3 4 := congrFun hx286.1 4
    have ht286_5 : (u286).2 3 5 = c 3 5 := congrFun hx286.1 5
    have ht286_6 : (u286).2 3 6 = c 3 6 := congrFun hx286.1 6
    have ht286_8 : (u286).2 3 8 = c 3 8 := congrFun hx286.1 8
    have ht286_9 : (u286).2 3 9 = c 3 9 := congrFun hx286.1 9
    have ht286_10 : (u286).2 3 10 = c 3 10 := congrFun hx286.1 10
    have hv286 : ((u286).2 0 5 = 0 ∧ 0 ≤ (u286).1 ∧ (u286).1 ≤ ((u269).2 3 1 - 1)) ∨ ((u286).2 0 5 ≠ 0 ∧ (u286).1 = 0) := by rw [hu286]; have q9 := (k_down_x (RdV_k (k := (113 + (c 3 5).toNat)) (i := 0) (v := ((u269).1)) (by omega) (by omega) hR269)).2.2; rw [show (am_put (u269).2 (113 + (c 3 5).toNat) 0 ((u269).1)) 3 1 = (u269).2 3 1 from (am_put_k (by omega))] at q9; exact q9
    have hf286 : (u286).2 0 5 = 0 → (u269).2 0 5 = 0 := by rw [hu286]; exact fun h9 => (show (am_put (u269).2 (113 + (c 3 5).toNat) 0 ((u269).1)) 0 5 = (u269).2 0 5 from (am_put_k (by omega))).symm.trans (k_down_5 h9)
    refine T_iastore (am_dec tX12_clause_3 14 rfl) (mr_readWatch hl (i := ((u269).2 3 5)) (by omega) (by omega)) (by omega) (by omega) ?_
    refine am_wE (w2 := mdW w b (am_put (u286).2 (113 + ((u269).2 3 5).toNat) 1 ((u286).1)) q) (md_pc (by omega) (fun f g => md_t_readWatch f g (by omega))) ?_
    refine T_goto 410 (am_dec tX12_clause_3 15 rfl) rfl ?_
    refine T_iload_n (am_dec tX12_clause_5 4 rfl) rfl ?_
    refine T_iconst 1 (am_dec tX12_clause_5 5 rfl) rfl ⟨by decide, by decide⟩ ?_
    refine T_icmp_le 421 (am_dec tX12_clause_5 6 rfl) rfl (fun h412 => by exfalso; omega) (fun h412 => ?_)
    refine T_iload_n (am_dec tX12_clause_5 7 rfl) rfl ?_
    refine T_bipush 7 (am_dec tX12_clause_5 8 rfl) rfl ⟨by decide, by decide⟩ ?_
    refine T_icmp_lt 427 (am_dec tX12_clause_5 9 rfl) rfl (fun h418 => ?_) (fun h418 => by exfalso; omega)
    refine T_aload_n (am_dec tX12_clause_5 13 rfl) rfl ?_
    refine T_getfield 11 10 (am_dec tX12_clause_5 14 rfl) flX12_20_11 (md_obj hl) rfl ?_
    refine T_iload_n (am_dec tX12_clause_5 15 rfl) rfl ?_
    refine T_dup2 (am_dec tX12_clause_5 16 rfl) rfl rfl ?_
    refine T_ialoadE (x := (u286).2 3 k.toNat) (am_dec tX12_clause_5 17 rfl) (md_readTold hl) (by omega) (by omega) (am_put_k (by omega)) ?_
    refine T_aload_n (am_dec tX12_clause_5 18 rfl) rfl ?_
    refine T_getfield 11 5 (am_dec tX12_clause_5 19 rfl) flX12_176_11 (md_obj hl) (md_fe rfl (am_put_k (by omega))) ?_
    have K438 : ∀ (t438 : Int), t438 = (if (u286).2 0 5 = 0 then 1 else 0) →  am_T S zX12_clause d u Q 446 [some (aR b), none, none] [aI t438, aI ((u286).2 3 k.toNat), aI k, aR (b + 3)] (mdW w b (am_put (u286).2 (113 + ((u269).2 3 5).toNat) 1 ((u286).1)) q) := by
      intro t438 ht438 
      have hbt438 : t438 = 0 ∨ t438 = 1 := by
        rw [ht438]
        try dsimp only
        repeat' split
        all_goals first | exact Or.inl rfl | exact Or.inr rfl | apply k_in_b | apply k_isDigit_b | apply k_isSmall_b | apply k_bad_b | apply k_isIn_b | apply k_isStep_b | apply k_isFirst_b | apply k_isLine_b | apply k_seesBy_b | apply k_isWalker_b | apply k_seesOne_b | apply k_badTwo_b | apply k_sees_b | apply k_isCode_b | apply k_isLot_b | apply k_isShip_b | apply k_areRight_b | apply k_right_b | apply k_areSeeds_b | apply k_badBid_b | apply k_isWord_b | apply k_takes_b | apply k_takesSign_b | apply k_isFull_b | omega
      have e8 : (u286).2 3 k.toNat = (u286).2 3 5 := by rw [show k.toNat = 5 by omega]
      refine T_iadd (((u286).2 3 k.toNat) + t438) (am_dec tX12_clause_5 24 rfl) rfl ⟨by omega, by omega⟩ ?_
      refine T_iastore (am_dec tX12_clause_5 25 rfl) (md_readTold hl) (by omega) (by omega) ?_
      refine am_wE (w2 := mdW w b (am_put (am_put (u286).2 (113 + ((u269).2 3 5).toNat) 1 ((u286).1)) 3 k.toNat (((u286).2 3 k.toNat) + t438)) q) (md_pc (Nat.le_of_ble_eq_true rfl) (fun _ _ => rfl)) ?_
      refine T_aload_n (am_dec tX12_clause_5 26 rfl) rfl ?_
      refine T_bipush 59 (am_dec tX12_clause_5 27 rfl) rfl ⟨by decide, by decide⟩ ?_
      refine T_callV (as := [aI 59]) rfl (am_dec tX12_clause_5 28 rfl) lkX12_264 (md_obj hl) rfl rfl (Nat.le_of_ble_eq_true rfl) (by omega) (mk_sign (d := d - 1) hl 59  (RdV_k (k := 3) (i := k.toNat) (v := (((u286).2 3 k.toNat) + t438)) (by decide) (by decide) (RdV_k (k := (113 + ((u269).2 3 5).toNat)) (i := 1) (v := ((u286).1)) (by omega) (by omega) hR286)) (by omega) (by omega)) (fun _ => ?_)
      refine T_nmH (W := fun x9 => mdW w b x9 q) (v := k_sign (am_put (am_put (u286).2 (113 + ((u269).2 3 5).toNat) 1 ((u286).1)) 3 k.toNat (((u286).2 3 k.toNat) + t438)) 59) (fun c451 hc451 => ?_)
      have hR451 : RdV c451 := by rw [hc451]; exact (k_sign_x (RdV_k (k := 3) (i := k.toNat) (v := (((u286).2 3 k.toNat) + t438)) (by decide) (by decide) (RdV_k (k := (113 + ((u269).2 3 5).toNat)) (i := 1) (v := ((u286).1)) (by omega) (by omega) hR286)) (by omega)).1
      have hR9 := hR451
      obtain ⟨ra451, rb451, rc451⟩ := hR9
      exact T_return (am_dec tX12_clause_5 29 rfl) rfl (am_tr (fun (x9 : am_F) => Q (.inl none) (mdW w b x9 q)) (y := c451) (show (k_clause_256 c k) = c451 from (by have s9 := hu269.symm; subst s9; have s9 := hu286.symm; subst s9; have s9 := ht438.symm; subst s9; have s9 := hc451.symm; subst s9; exact rfl)) hQ)
    refine T_if_ne 445 (am_dec tX12_clause_5 20 rfl) rfl (fun h438 => ?_) (fun h438 => ?_)
    · refine T_iconst 0 (am_dec tX12_clause_5 23 rfl) rfl ⟨by decide, by decide⟩ ?_
      refine T_weak (ls' := [some (aR b), none, none]) (am_sub_s (am_sub_n (am_sub_n am_sub_nil))) ?_
      exact K438 _ (if_neg h438).symm 
    · refine T_iconst 1 (am_dec tX12_clause_5 21 rfl) rfl ⟨by decide, by decide⟩ ?_
      refine T_goto 446 (am_dec tX12_clause_5 22 rfl) rfl ?_
      refine T_weak (ls' := [some (aR b), none, none]) (am_sub_s (am_sub_n (am_sub_n am_sub_nil))) ?_
      exact K438 _ (if_pos h438).symm 
def k_clause_293 (c : am_F) (k : Int) : am_F := (let u307 : Int × am_F := k_acrossHere c; (let u328 : Int × am_F := k_number (am_put (u307).2 (123 + (c 3 6).toNat) 0 ((u307).1)) 0 99; (let t438 : Int := (if (u328).2 0 5 = 0 then 1 else 0); k_sign (am_put (am_put (u328).2 (123 + ((u307).2 3 6).toNat) 1 ((u328).1)) 3 k.toNat (((u328).2 3 k.toNat) + t438)) 59)))
set_option maxHeartbeats 4000000 in
theorem S_k_clause_293 {S : am_S} {d u : Nat} {Q : AO → AH → Prop} {w : AH} {b : Nat} (hl : b + 735 ≤ w.length) (c : am_F) (q : am_F) (k : Int) (hR : RdV c) (hRW : RW c) (hfu : k_isFull c k = 0) (hk9 : k = 6) (hd : 5 ≤ d) (hQ : Q (.inl none) (mdW w b (k_clause_293 c k) q)) : am_T S zX12_clause d u Q 293 [some (aR b), some (aI k), none] [] (mdW w b c q) := by
    have hR9 := hR
    obtain ⟨r1, r2, r3⟩ := hR9
    have w9 := hRW
    obtain ⟨w0, w1, w2, w3, w4, w5, w6, w8, w7, w10, w11⟩ := w9
    have hfl := (k_isFull_s hfu).2.2.2.2.1 hk9
    refine T_aload_n (am_dec tX12_clause_3 16 rfl) rfl ?_
    refine T_getfield 11 28 (am_dec tX12_clause_3 17 rfl) flX12_76_11 (md_obj hl) rfl ?_
    refine T_aload_n (am_dec tX12_clause_3 18 rfl) rfl ?_
    refine T_getfield 11 10 (am_dec tX12_clause_3 19 rfl) flX12_20_11 (md_obj hl) rfl ?_
    refine T_bipush 6 (am_dec tX12_clause_3 20 rfl) rfl ⟨by decide, by decide⟩ ?_
    refine T_ialoadE (x := c 3 6) (am_dec tX12_clause_3 21 rfl) (md_readTold hl) (by omega) (by omega) rfl ?_
    refine T_aaloadR (r := b + (123 + (c 3 6).toNat)) (am_dec tX12_clause_3 22 rfl) (by decide) (mh_readShip hl) (by omega) (by omega) (if_pos (by omega)) ?_
    refine T_iconst 0 (am_dec tX12_clause_3 23 rfl) rfl ⟨by decide, by decide⟩ ?_
    refine T_aload_n (am_dec tX12_clause_3 24 rfl) rfl ?_
    refine T_callV (as := []) rfl (am_dec tX12_clause_3 25 rfl) lkX12_242 (md_obj hl) rfl rfl (Nat.le_of_ble_eq_true rfl) (by omega) (mk_acrossHere (d := d - 1) hl   hR (RW_y Ly_r hRW).1 (by omega)) (fun _ => ?_)
    obtain ⟨u307, hu307⟩ : ∃ x9, x9 = k_acrossHere c := ⟨_, rfl⟩
    rw [← hu307]
    have hR307 : RdV (u307).2 := by rw [hu307]; exact (k_across_x hR).1
    have hR9 := hR307
    obtain ⟨ra307, rb307, rc307⟩ := hR9
    have hx307 : Ly c (u307).2 := Ly_t Ly_r (Ly_x (by rw [hu307]; exact (k_across_x hR).2.1))
    have hz307 : (u307).2 0 2 = c 0 2 := hx307.2 2 (by decide) (by decide) (by decide)
    have ht307_0 : (u307).2 3 0 = c 3 0 := congrFun hx307.1 0
    have ht307_1 : (u307).2 3 1 = c 3 1 := congrFun hx307.1 1
    have ht307_2 : (u307).2 3 2 = c 3 2 := congrFun hx307.1 2
    have ht307_3 : (u307).2 3 3 = c 3 3 := congrFun hx307.1 3
    have ht307_4 : (u307).2 3 4 = c 3 4 := congrFun hx307.1 4
    have ht307_5 : (u307).2 3 5 = c 3 5 := congrFun hx307.1 5
    have ht307_6 : (u307).2 3 6 = c 3 6 := congrFun hx307.1 6
    have ht307_8 : (u307).2 3 8 = c 3 8 := congrFun hx307.1 8
    have ht307_9 : (u307).2 3 9 = c 3 9 := congrFun hx307.1 9
    have ht307_10 : (u307).2 3 10 = c 3 10 := congrFun hx307.1 10
    have hv307 : ((u307).2 0 5 = 0 ∧ 0 ≤ (u307).1 ∧ (u307).1 ≤ (c 3 0 - 1)) ∨ ((u307).2 0 5 ≠ 0 ∧ (u307).1 = 0) := by rw [hu307]; have q9 := (k_across_x hR).2.2; exact q9
    have hf307 : (u307).2 0 5 = 0 → c 0 5 = 0 := by rw [hu307]; exact fun h9 => (k_across_5 h9)
    refine T_iastore (am_dec tX12_clause_3 26 rfl) (mr_readShip hl (i := (c 3 6)) (by omega) (by omega)) (by omega) (by omega) ?_
    refine am_wE (w2 := mdW w b (am_put (u307).2 (123 + (c 3 6).toNat) 0 ((u307).1)) q) (md_pc (by omega) (fun f g => md_t_readShip f g (by omega))) ?_
    refine T_aload_n (am_dec tX12_clause_3 27 rfl) rfl ?_
    refine T_getfield 11 28 (am_dec tX12_clause_3 28 rfl) flX12_76_11 (md_obj hl) rfl ?_
    refine T_aload_n (am_dec tX12_clause_3 29 rfl) rfl ?_
    refine T_getfield 11 10 (am_dec tX12_clause_3 30 rfl) flX12_20_11 (md_obj hl) rfl ?_
    refine T_bipush 6 (am_dec tX12_clause_3 31 rfl) rfl ⟨by decide, by decide⟩ ?_
    refine T_ialoadE (x := (u307).2 3 6) (am_dec tX12_clause_3 32 rfl) (md_readTold hl) (by omega) (by omega) (am_put_k (by omega)) ?_
    refine T_aaloadR (r := b + (123 + ((u307).2 3 6).toNat)) (am_dec tX12_clause_3 33 rfl) (by decide) (mh_readShip hl) (by omega) (by omega) (if_pos (by omega)) ?_
    refine T_iconst 1 (am_dec tX12_clause_3 34 rfl) rfl ⟨by decide, by decide⟩ ?_
    refine T_aload_n (am_dec tX12_clause_3 35 rfl) rfl ?_
    refine T_iconst 0 (am_dec tX12_clause_3 36 rfl) rfl ⟨by decide, by decide⟩ ?_
    refine T_bipush 99 (am_dec tX12_clause_3 37 rfl) rfl ⟨by decide, by decide⟩ ?_
    refine T_callV (as := [aI 0, aI 99]) rfl (am_dec tX12_clause_3 38 rfl) lkX12_231 (md_obj hl) rfl rfl (Nat.le_of_ble_eq_true rfl) (by omega) (mk_number (d := d - 1) hl 0 99  (RdV_k (k := (123 + (c 3 6).toNat)) (i := 0) (v := ((u307).1)) (by omega) (by omega) hR307) (by omega)) (fun _ => ?_)
    obtain ⟨u328, hu328⟩ : ∃ x9, x9 = k_number (am_put (u307).2 (123 + (c 3 6).toNat) 0 ((u307).1)) 0 99 := ⟨_, rfl⟩
    rw [← hu328]
    have hR328 : RdV (u328).2 := by rw [hu328]; exact (k_number_x (RdV_k (k := (123 + (c 3 6).toNat)) (i := 0) (v := ((u307).1)) (by omega) (by omega) hR307)).1
    have hR9 := hR328
    obtain ⟨ra328, rb328, rc328⟩ := hR9
    have hx328 : Ly c (u328).2 := Ly_t (Ly_t hx307 (Ly_k (k := (123 + (c 3 6).toNat)) (i := 0) (v := ((u307).1)) (by omega) (by omega))) (Ly_x (by rw [hu328]; exact (k_number_x (RdV_k (k := (123 + (c 3 6).toNat)) (i := 0) (v := ((u307).1)) (by omega) (by omega) hR307)).2.1))
    have hz328 : (u328).2 0 2 = c 0 2 := hx328.2 2 (by decide) (by decide) (by decide)
    have ht328_0 : (u328).2 3 0 = c 3 0 := congrFun hx328.1 0
    have ht328_1 : (u328).2 3 1 = c 3 1 := congrFun hx328.1 1
    have ht328_2 : (u328).2 3 2 = c 3 2 := congrFun hx328.1 2
    have ht328_3 : (u328).2 3 3 = c 3 3 := congrFun hx328.1 3
    have ht328_4 : (u328).2 3 4 = c 3 4 := congrFun hx328.1 4
    have ht328_5 : (u328).2 3 5 = c 3 5 := congrFun hx328.1 5
    have ht328_6 : (u328).2 3 6 = c 3 6 := congrFun hx328.1 6
    have ht328_8 : (u328).2 3 8 = c 3 8 := congrFun hx328.1 8
    have ht328_9 : (u328).2 3 9 = c 3 9 := congrFun hx328.1 9
    have ht328_10 : (u328).2 3 10 = c 3 10 := congrFun hx328.1 10
    have hv328 : ((u328).2 0 5 = 0 ∧ 0 ≤ (u328).1 ∧ (u328).1 ≤ 99) ∨ ((u328).2 0 5 ≠ 0 ∧ (u328).1 = 0) := by rw [hu328]; have q9 := (k_number_x (lo := 0) (hi := 99) (RdV_k (k := (123 + (c 3 6).toNat)) (i := 0) (v := ((u307).1)) (by omega) (by omega) hR307)).2.2; exact q9
    have hf328 : (u328).2 0 5 = 0 → (u307).2 0 5 = 0 := by rw [hu328]; exact fun h9 => (show (am_put (u307).2 (123 + (c 3 6).toNat) 0 ((u307).1)) 0 5 = (u307).2 0 5 from (am_put_k (by omega))).symm.trans (k_number_5 h9)
    refine T_iastore (am_dec tX12_clause_3 39 rfl) (mr_readShip hl (i := ((u307).2 3 6)) (by omega) (by omega)) (by omega) (by omega) ?_
    refine am_wE (w2 := mdW w b (am_put (u328).2 (123 + ((u307).2 3 6).toNat) 1 ((u328).1)) q) (md_pc (by omega) (fun f g => md_t_readShip f g (by omega))) ?_
    refine T_goto 410 (am_dec tX12_clause_4 0 rfl) rfl ?_
    refine T_iload_n (am_dec tX12_clause_5 4 rfl) rfl ?_
    refine T_iconst 1 (am_dec tX12_clause_5 5 rfl) rfl ⟨by decide, by decide⟩ ?_
    refine T_icmp_le 421 (am_dec tX12_clause_5 6 rfl) rfl (fun h412 => by exfalso; omega) (fun h412 => ?_)
    refine T_iload_n (am_dec tX12_clause_5 7 rfl) rfl ?_
    refine T_bipush 7 (am_dec tX12_clause_5 8 rfl) rfl ⟨by decide, by decide⟩ ?_
    refine T_icmp_lt 427 (am_dec tX12_clause_5 9 rfl) rfl (fun h418 => ?_) (fun h418 => by exfalso; omega)
    refine T_aload_n (am_dec tX12_clause_5 13 rfl) rfl ?_
    refine T_getfield 11 10 (am_dec tX12_clause_5 14 rfl) flX12_20_11 (md_obj hl) rfl ?_
    refine T_iload_n (am_dec tX12_clause_5 15 rfl) rfl ?_
    refine T_dup2 (am_dec tX12_clause_5 16 rfl) rfl rfl ?_
    refine T_ialoadE (x := (u328).2 3 k.toNat) (am_dec tX12_clause_5 17 rfl) (md_readTold hl) (by omega) (by omega) (am_put_k (by omega)) ?_
    refine T_aload_n (am_dec tX12_clause_5 18 rfl) rfl ?_
    refine T_getfield 11 5 (am_dec tX12_clause_5 19 rfl) flX12_176_11 (md_obj hl) (md_fe rfl (am_put_k (by omega))) ?_
    have K438 : ∀ (t438 : Int), t438 = (if (u328).2 0 5 = 0 then 1 else 0) →  am_T S zX12_clause d u Q 446 [some (aR b), none, none] [aI t438, aI ((u328).2 3 k.toNat), aI k, aR (b + 3)] (mdW w b (am_put (u328).2 (123 + ((u307).2 3 6).toNat) 1 ((u328).1)) q) := by
      intro t438 ht438 
      have hbt438 : t438 = 0 ∨ t438 = 1 := by
        rw [ht438]
        try dsimp only
        repeat' split
        all_goals first | exact Or.inl rfl | exact Or.inr rfl | apply k_in_b | apply k_isDigit_b | apply k_isSmall_b | apply k_bad_b | apply k_isIn_b | apply k_isStep_b | apply k_isFirst_b | apply k_isLine_b | apply k_seesBy_b | apply k_isWalker_b | apply k_seesOne_b | apply k_badTwo_b | apply k_sees_b | apply k_isCode_b | apply k_isLot_b | apply k_isShip_b | apply k_areRight_b | apply k_right_b | apply k_areSeeds_b | apply k_badBid_b | apply k_isWord_b | apply k_takes_b | apply k_takesSign_b | apply k_isFull_b | omega
      have e8 : (u328).2 3 k.toNat = (u328).2 3 6 := by rw [show k.toNat = 6 by omega]
      refine T_iadd (((u328).2 3 k.toNat) + t438) (am_dec tX12_clause_5 24 rfl) rfl ⟨by omega, by omega⟩ ?_
      refine T_iastore (am_dec tX12_clause_5 25 rfl) (md_readTold hl) (by omega) (by omega) ?_
      refine am_wE (w2 := mdW w b (am_put (am_put (u328).2 (123 + ((u307).2 3 6).toNat) 1 ((u328).1)) 3 k.toNat (((u328).2 3 k.toNat) + t438)) q) (md_pc (Nat.le_of_ble_eq_true rfl) (fun _ _ => rfl)) ?_
      refine T_aload_n (am_dec tX12_clause_5 26 rfl) rfl ?_
      refine T_bipush 59 (am_dec tX12_clause_5 27 rfl) rfl ⟨by decide, by decide⟩ ?_
      refine T_callV (as := [aI 59]) rfl (am_dec tX12_clause_5 28 rfl) lkX12_264 (md_obj hl) rfl rfl (Nat.le_of_ble_eq_true rfl) (by omega) (mk_sign (d := d - 1) hl 59  (RdV_k (k := 3) (i := k.toNat) (v := (((u328).2 3 k.toNat) + t438)) (by decide) (by decide) (RdV_k (k := (123 + ((u307).2 3 6).toNat)) (i := 1) (v := ((u328).1)) (by omega) (by omega) hR328)) (by omega) (by omega)) (fun _ => ?_)
      refine T_nmH (W := fun x9 => mdW w b x9 q) (v := k_sign (am_put (am_put (u328).2 (123 + ((u307).2 3 6).toNat) 1 ((u328).1)) 3 k.toNat (((u328).2 3 k.toNat) + t438)) 59) (fun c451 hc451 => ?_)
      have hR451 : RdV c451 := by rw [hc451]; exact (k_sign_x (RdV_k (k := 3) (i := k.toNat) (v := (((u328).2 3 k.toNat) + t438)) (by decide) (by decide) (RdV_k (k := (123 + ((u307).2 3 6).toNat)) (i := 1) (v := ((u328).1)) (by omega) (by omega) hR328)) (by omega)).1
      have hR9 := hR451
      obtain ⟨ra451, rb451, rc451⟩ := hR9
      exact T_return (am_dec tX12_clause_5 29 rfl) rfl (am_tr (fun (x9 : am_F) => Q (.inl none) (mdW w b x9 q)) (y := c451) (show (k_clause_293 c k) = c451 from (by have s9 := hu307.symm; subst s9; have s9 := hu328.symm; subst s9; have s9 := ht438.symm; subst s9; have s9 := hc451.symm; subst s9; exact rfl)) hQ)
    refine T_if_ne 445 (am_dec tX12_clause_5 20 rfl) rfl (fun h438 => ?_) (fun h438 => ?_)
    · refine T_iconst 0 (am_dec tX12_clause_5 23 rfl) rfl ⟨by decide, by decide⟩ ?_
      refine T_weak (ls' := [some (aR b), none, none]) (am_sub_s (am_sub_n (am_sub_n am_sub_nil))) ?_
      exact K438 _ (if_neg h438).symm 
    · refine T_iconst 1 (am_dec tX12_clause_5 21 rfl) rfl ⟨by decide, by decide⟩ ?_
      refine T_goto 446 (am_dec tX12_clause_5 22 rfl) rfl ?_
      refine T_weak (ls' := [some (aR b), none, none]) (am_sub_s (am_sub_n (am_sub_n am_sub_nil))) ?_
      exact K438 _ (if_pos h438).symm 
def k_clause_335 (c : am_F) : am_F := (let u345 : Int × am_F := k_number c 1 99; k_sign (am_put (u345).2 3 7 ((u345).1)) 59)
set_option maxHeartbeats 4000000 in
theorem S_k_clause_335 {S : am_S} {d u : Nat} {Q : AO → AH → Prop} {w : AH} {b : Nat} (hl : b + 735 ≤ w.length) (c : am_F) (q : am_F) (k : Int) (hR : RdV c) (hRW : RW c) (hfu : k_isFull c k = 0) (hk9 : k = 7) (hd : 5 ≤ d) (hQ : Q (.inl none) (mdW w b (k_clause_335 c) q)) : am_T S zX12_clause d u Q 335 [some (aR b), some (aI k), none] [] (mdW w b c q) := by
    have hR9 := hR
    obtain ⟨r1, r2, r3⟩ := hR9
    have w9 := hRW
    obtain ⟨w0, w1, w2, w3, w4, w5, w6, w8, w7, w10, w11⟩ := w9
    refine T_aload_n (am_dec tX12_clause_4 1 rfl) rfl ?_
    refine T_getfield 11 10 (am_dec tX12_clause_4 2 rfl) flX12_20_11 (md_obj hl) rfl ?_
    refine T_bipush 7 (am_dec tX12_clause_4 3 rfl) rfl ⟨by decide, by decide⟩ ?_
    refine T_aload_n (am_dec tX12_clause_4 4 rfl) rfl ?_
    refine T_iconst 1 (am_dec tX12_clause_4 5 rfl) rfl ⟨by decide, by decide⟩ ?_
    refine T_bipush 99 (am_dec tX12_clause_4 6 rfl) rfl ⟨by decide, by decide⟩ ?_
    refine T_callV (as := [aI 1, aI 99]) rfl (am_dec tX12_clause_4 7 rfl) lkX12_231 (md_obj hl) rfl rfl (Nat.le_of_ble_eq_true rfl) (by omega) (mk_number (d := d - 1) hl 1 99  hR (by omega)) (fun _ => ?_)
    obtain ⟨u345, hu345⟩ : ∃ x9, x9 = k_number c 1 99 := ⟨_, rfl⟩
    rw [← hu345]
    have hR345 : RdV (u345).2 := by rw [hu345]; exact (k_number_x hR).1
    have hR9 := hR345
    obtain ⟨ra345, rb345, rc345⟩ := hR9
    have hx345 : Ly c (u345).2 := Ly_t Ly_r (Ly_x (by rw [hu345]; exact (k_number_x hR).2.1))
    have hz345 : (u345).2 0 2 = c 0 2 := hx345.2 2 (by decide) (by decide) (by decide)
    have ht345_0 : (u345).2 3 0 = c 3 0 := congrFun hx345.1 0
    have ht345_1 : (u345).2 3 1 = c 3 1 := congrFun hx345.1 1
    have ht345_2 : (u345).2 3 2 = c 3 2 := congrFun hx345.1 2
    have ht345_3 : (u345).2 3 3 = c 3 3 := congrFun hx345.1 3
    have ht345_4 : (u345).2 3 4 = c 3 4 := congrFun hx345.1 4
    have ht345_5 : (u345).2 3 5 = c 3 5 := congrFun hx345.1 5
    have ht345_6 : (u345).2 3 6 = c 3 6 := congrFun hx345.1 6
    have ht345_8 : (u345).2 3 8 = c 3 8 := congrFun hx345.1 8
    have ht345_9 : (u345).2 3 9 = c 3 9 := congrFun hx345.1 9
    have ht345_10 : (u345).2 3 10 = c 3 10 := congrFun hx345.1 10
    have hv345 : ((u345).2 0 5 = 0 ∧ 1 ≤ (u345).1 ∧ (u345).1 ≤ 99) ∨ ((u345).2 0 5 ≠ 0 ∧ (u345).1 = 0) := by rw [hu345]; have q9 := (k_number_x (lo := 1) (hi := 99) hR).2.2; exact q9
    have hf345 : (u345).2 0 5 = 0 → c 0 5 = 0 := by rw [hu345]; exact fun h9 => (k_number_5 h9)
    refine T_iastore (am_dec tX12_clause_4 8 rfl) (md_readTold hl) (by omega) (by omega) ?_
    refine am_wE (w2 := mdW w b (am_put (u345).2 3 7 ((u345).1)) q) (md_pc (Nat.le_of_ble_eq_true rfl) (fun _ _ => rfl)) ?_
    refine T_goto 410 (am_dec tX12_clause_4 9 rfl) rfl ?_
    refine T_iload_n (am_dec tX12_clause_5 4 rfl) rfl ?_
    refine T_iconst 1 (am_dec tX12_clause_5 5 rfl) rfl ⟨by decide, by decide⟩ ?_
    refine T_icmp_le 421 (am_dec tX12_clause_5 6 rfl) rfl (fun h412 => by exfalso; omega) (fun h412 => ?_)
    refine T_iload_n (am_dec tX12_clause_5 7 rfl) rfl ?_
    refine T_bipush 7 (am_dec tX12_clause_5 8 rfl) rfl ⟨by decide, by decide⟩ ?_
    refine T_icmp_lt 427 (am_dec tX12_clause_5 9 rfl) rfl (fun h418 => by exfalso; omega) (fun h418 => ?_)
    refine T_iload_n (am_dec tX12_clause_5 10 rfl) rfl ?_
    refine T_bipush 10 (am_dec tX12_clause_5 11 rfl) rfl ⟨by decide, by decide⟩ ?_
    refine T_icmp_ne 448 (am_dec tX12_clause_5 12 rfl) rfl (fun h424 => ?_) (fun h424 => by exfalso; omega)
    refine T_aload_n (am_dec tX12_clause_5 26 rfl) rfl ?_
    refine T_bipush 59 (am_dec tX12_clause_5 27 rfl) rfl ⟨by decide, by decide⟩ ?_
    refine T_callV (as := [aI 59]) rfl (am_dec tX12_clause_5 28 rfl) lkX12_264 (md_obj hl) rfl rfl (Nat.le_of_ble_eq_true rfl) (by omega) (mk_sign (d := d - 1) hl 59  (RdV_k (k := 3) (i := 7) (v := ((u345).1)) (by decide) (by decide) hR345) (by omega) (by omega)) (fun _ => ?_)
    refine T_nmH (W := fun x9 => mdW w b x9 q) (v := k_sign (am_put (u345).2 3 7 ((u345).1)) 59) (fun c451 hc451 => ?_)
    have hR451 : RdV c451 := by rw [hc451]; exact (k_sign_x (RdV_k (k := 3) (i := 7) (v := ((u345).1)) (by decide) (by decide) hR345) (by omega)).1
    have hR9 := hR451
    obtain ⟨ra451, rb451, rc451⟩ := hR9
    exact T_return (am_dec tX12_clause_5 29 rfl) rfl (am_tr (fun (x9 : am_F) => Q (.inl none) (mdW w b x9 q)) (y := c451) (show (k_clause_335 c) = c451 from (by have s9 := hu345.symm; subst s9; have s9 := hc451.symm; subst s9; exact rfl)) hQ)
def k_clause_352 (c : am_F) : am_F := (let c353 : am_F := k_windHere c; k_sign c353 59)
set_option maxHeartbeats 4000000 in
theorem S_k_clause_352 {S : am_S} {d u : Nat} {Q : AO → AH → Prop} {w : AH} {b : Nat} (hl : b + 735 ≤ w.length) (c : am_F) (q : am_F) (k : Int) (hR : RdV c) (hRW : RW c) (hfu : k_isFull c k = 0) (hk9 : k = 8) (hd : 5 ≤ d) (hQ : Q (.inl none) (mdW w b (k_clause_352 c) q)) : am_T S zX12_clause d u Q 352 [some (aR b), some (aI k), none] [] (mdW w b c q) := by
    have hR9 := hR
    obtain ⟨r1, r2, r3⟩ := hR9
    have w9 := hRW
    obtain ⟨w0, w1, w2, w3, w4, w5, w6, w8, w7, w10, w11⟩ := w9
    have hfl := (k_isFull_s hfu).2.2.2.2.2.1 hk9
    refine T_aload_n (am_dec tX12_clause_4 10 rfl) rfl ?_
    refine T_callV (as := []) rfl (am_dec tX12_clause_4 11 rfl) lkX12_255 (md_obj hl) rfl rfl (Nat.le_of_ble_eq_true rfl) (by omega) (mk_windHere (d := d - 1) hl   hR (RW_y Ly_r hRW) (by omega) (by omega)) (fun _ => ?_)
    refine T_nmH (W := fun x9 => mdW w b x9 q) (v := k_windHere c) (fun c353 hc353 => ?_)
    have hR353 : RdV c353 := by rw [hc353]; exact (k_windHere_x hR)
    have hR9 := hR353
    obtain ⟨ra353, rb353, rc353⟩ := hR9
    refine T_goto 410 (am_dec tX12_clause_4 12 rfl) rfl ?_
    refine T_iload_n (am_dec tX12_clause_5 4 rfl) rfl ?_
    refine T_iconst 1 (am_dec tX12_clause_5 5 rfl) rfl ⟨by decide, by decide⟩ ?_
    refine T_icmp_le 421 (am_dec tX12_clause_5 6 rfl) rfl (fun h412 => by exfalso; omega) (fun h412 => ?_)
    refine T_iload_n (am_dec tX12_clause_5 7 rfl) rfl ?_
    refine T_bipush 7 (am_dec tX12_clause_5 8 rfl) rfl ⟨by decide, by decide⟩ ?_
    refine T_icmp_lt 427 (am_dec tX12_clause_5 9 rfl) rfl (fun h418 => by exfalso; omega) (fun h418 => ?_)
    refine T_iload_n (am_dec tX12_clause_5 10 rfl) rfl ?_
    refine T_bipush 10 (am_dec tX12_clause_5 11 rfl) rfl ⟨by decide, by decide⟩ ?_
    refine T_icmp_ne 448 (am_dec tX12_clause_5 12 rfl) rfl (fun h424 => ?_) (fun h424 => by exfalso; omega)
    refine T_aload_n (am_dec tX12_clause_5 26 rfl) rfl ?_
    refine T_bipush 59 (am_dec tX12_clause_5 27 rfl) rfl ⟨by decide, by decide⟩ ?_
    refine T_callV (as := [aI 59]) rfl (am_dec tX12_clause_5 28 rfl) lkX12_264 (md_obj hl) rfl rfl (Nat.le_of_ble_eq_true rfl) (by omega) (mk_sign (d := d - 1) hl 59  hR353 (by omega) (by omega)) (fun _ => ?_)
    refine T_nmH (W := fun x9 => mdW w b x9 q) (v := k_sign c353 59) (fun c451 hc451 => ?_)
    have hR451 : RdV c451 := by rw [hc451]; exact (k_sign_x hR353 (by omega)).1
    have hR9 := hR451
    obtain ⟨ra451, rb451, rc451⟩ := hR9
    exact T_return (am_dec tX12_clause_5 29 rfl) rfl (am_tr (fun (x9 : am_F) => Q (.inl none) (mdW w b x9 q)) (y := c451) (show (k_clause_352 c) = c451 from (by have s9 := hc353.symm; subst s9; have s9 := hc451.symm; subst s9; exact rfl)) hQ)
def k_clause_359 (c : am_F) : am_F := (let c360 : am_F := k_thinHere c; k_sign c360 59)
set_option maxHeartbeats 4000000 in
theorem S_k_clause_359 {S : am_S} {d u : Nat} {Q : AO → AH → Prop} {w : AH} {b : Nat} (hl : b + 735 ≤ w.length) (c : am_F) (q : am_F) (k : Int) (hR : RdV c) (hRW : RW c) (hfu : k_isFull c k = 0) (hk9 : k = 9) (hd : 5 ≤ d) (hQ : Q (.inl none) (mdW w b (k_clause_359 c) q)) : am_T S zX12_clause d u Q 359 [some (aR b), some (aI k), none] [] (mdW w b c q) := by
    have hR9 := hR
    obtain ⟨r1, r2, r3⟩ := hR9
    have w9 := hRW
    obtain ⟨w0, w1, w2, w3, w4, w5, w6, w8, w7, w10, w11⟩ := w9
    have hfl := (k_isFull_s hfu).2.2.2.2.2.2.1 hk9
    refine T_aload_n (am_dec tX12_clause_4 13 rfl) rfl ?_
    refine T_callV (as := []) rfl (am_dec tX12_clause_4 14 rfl) lkX12_258 (md_obj hl) rfl rfl (Nat.le_of_ble_eq_true rfl) (by omega) (mk_thinHere (d := d - 1) hl   hR (RW_y Ly_r hRW) (by omega) (by omega)) (fun _ => ?_)
    refine T_nmH (W := fun x9 => mdW w b x9 q) (v := k_thinHere c) (fun c360 hc360 => ?_)
    have hR360 : RdV c360 := by rw [hc360]; exact (k_thinHere_x hR)
    have hR9 := hR360
    obtain ⟨ra360, rb360, rc360⟩ := hR9
    refine T_goto 410 (am_dec tX12_clause_4 15 rfl) rfl ?_
    refine T_iload_n (am_dec tX12_clause_5 4 rfl) rfl ?_
    refine T_iconst 1 (am_dec tX12_clause_5 5 rfl) rfl ⟨by decide, by decide⟩ ?_
    refine T_icmp_le 421 (am_dec tX12_clause_5 6 rfl) rfl (fun h412 => by exfalso; omega) (fun h412 => ?_)
    refine T_iload_n (am_dec tX12_clause_5 7 rfl) rfl ?_
    refine T_bipush 7 (am_dec tX12_clause_5 8 rfl) rfl ⟨by decide, by decide⟩ ?_
    refine T_icmp_lt 427 (am_dec tX12_clause_5 9 rfl) rfl (fun h418 => by exfalso; omega) (fun h418 => ?_)
    refine T_iload_n (am_dec tX12_clause_5 10 rfl) rfl ?_
    refine T_bipush 10 (am_dec tX12_clause_5 11 rfl) rfl ⟨by decide, by decide⟩ ?_
    refine T_icmp_ne 448 (am_dec tX12_clause_5 12 rfl) rfl (fun h424 => ?_) (fun h424 => by exfalso; omega)
    refine T_aload_n (am_dec tX12_clause_5 26 rfl) rfl ?_
    refine T_bipush 59 (am_dec tX12_clause_5 27 rfl) rfl ⟨by decide, by decide⟩ ?_
    refine T_callV (as := [aI 59]) rfl (am_dec tX12_clause_5 28 rfl) lkX12_264 (md_obj hl) rfl rfl (Nat.le_of_ble_eq_true rfl) (by omega) (mk_sign (d := d - 1) hl 59  hR360 (by omega) (by omega)) (fun _ => ?_)
    refine T_nmH (W := fun x9 => mdW w b x9 q) (v := k_sign c360 59) (fun c451 hc451 => ?_)
    have hR451 : RdV c451 := by rw [hc451]; exact (k_sign_x hR360 (by omega)).1
    have hR9 := hR451
    obtain ⟨ra451, rb451, rc451⟩ := hR9
    exact T_return (am_dec tX12_clause_5 29 rfl) rfl (am_tr (fun (x9 : am_F) => Q (.inl none) (mdW w b x9 q)) (y := c451) (show (k_clause_359 c) = c451 from (by have s9 := hc360.symm; subst s9; have s9 := hc451.symm; subst s9; exact rfl)) hQ)
def k_clause_366 (c : am_F) (k : Int) : am_F := (let u385 : Int × am_F := k_number c 0 39; (let u392 : Int × am_F := k_acrossHere (am_put (u385).2 (75 + (c 3 10).toNat) 0 ((u385).1)); (let u399 : Int × am_F := k_downHere (am_put (u392).2 (75 + (c 3 10).toNat) 1 ((u392).1)); (let t438 : Int := (if (u399).2 0 5 = 0 then 1 else 0); k_sign (am_put (am_put (u399).2 (75 + (c 3 10).toNat) 2 ((u399).1)) 3 k.toNat (((u399).2 3 k.toNat) + t438)) 59))))
set_option maxHeartbeats 4000000 in
theorem S_k_clause_366 {S : am_S} {d u : Nat} {Q : AO → AH → Prop} {w : AH} {b : Nat} (hl : b + 735 ≤ w.length) (c : am_F) (q : am_F) (k : Int) (hR : RdV c) (hRW : RW c) (hfu : k_isFull c k = 0) (hk9 : k = 10) (hd : 5 ≤ d) (hQ : Q (.inl none) (mdW w b (k_clause_366 c k) q)) : am_T S zX12_clause d u Q 366 [some (aR b), some (aI k), none] [] (mdW w b c q) := by
    have hR9 := hR
    obtain ⟨r1, r2, r3⟩ := hR9
    have w9 := hRW
    obtain ⟨w0, w1, w2, w3, w4, w5, w6, w8, w7, w10, w11⟩ := w9
    have hfl := (k_isFull_s hfu).2.2.2.2.2.2.2 hk9
    refine T_aload_n (am_dec tX12_clause_4 16 rfl) rfl ?_
    refine T_getfield 11 20 (am_dec tX12_clause_4 17 rfl) flX12_52_11 (md_obj hl) rfl ?_
    refine T_aload_n (am_dec tX12_clause_4 18 rfl) rfl ?_
    refine T_getfield 11 10 (am_dec tX12_clause_4 19 rfl) flX12_20_11 (md_obj hl) rfl ?_
    refine T_bipush 10 (am_dec tX12_clause_4 20 rfl) rfl ⟨by decide, by decide⟩ ?_
    refine T_ialoadE (x := c 3 10) (am_dec tX12_clause_4 21 rfl) (md_readTold hl) (by omega) (by omega) rfl ?_
    refine T_aaloadR (r := b + (75 + (c 3 10).toNat)) (am_dec tX12_clause_4 22 rfl) (by decide) (mh_readSteamer hl) (by omega) (by omega) (if_pos (by omega)) ?_
    refine T_astore_n (ls' := [some (aR b), some (aI k), some (aR (b + (75 + (c 3 10).toNat)))]) (am_dec tX12_clause_4 23 rfl) (by decide) rfl ?_
    refine T_aload_n (am_dec tX12_clause_4 24 rfl) rfl ?_
    refine T_iconst 0 (am_dec tX12_clause_4 25 rfl) rfl ⟨by decide, by decide⟩ ?_
    refine T_aload_n (am_dec tX12_clause_4 26 rfl) rfl ?_
    refine T_iconst 0 (am_dec tX12_clause_4 27 rfl) rfl ⟨by decide, by decide⟩ ?_
    refine T_bipush 39 (am_dec tX12_clause_4 28 rfl) rfl ⟨by decide, by decide⟩ ?_
    refine T_callV (as := [aI 0, aI 39]) rfl (am_dec tX12_clause_4 29 rfl) lkX12_231 (md_obj hl) rfl rfl (Nat.le_of_ble_eq_true rfl) (by omega) (mk_number (d := d - 1) hl 0 39  hR (by omega)) (fun _ => ?_)
    obtain ⟨u385, hu385⟩ : ∃ x9, x9 = k_number c 0 39 := ⟨_, rfl⟩
    rw [← hu385]
    have hR385 : RdV (u385).2 := by rw [hu385]; exact (k_number_x hR).1
    have hR9 := hR385
    obtain ⟨ra385, rb385, rc385⟩ := hR9
    have hx385 : Ly c (u385).2 := Ly_t Ly_r (Ly_x (by rw [hu385]; exact (k_number_x hR).2.1))
    have hz385 : (u385).2 0 2 = c 0 2 := hx385.2 2 (by decide) (by decide) (by decide)
    have ht385_0 : (u385).2 3 0 = c 3 0 := congrFun hx385.1 0
    have ht385_1 : (u385).2 3 1 = c 3 1 := congrFun hx385.1 1
    have ht385_2 : (u385).2 3 2 = c 3 2 := congrFun hx385.1 2
    have ht385_3 : (u385).2 3 3 = c 3 3 := congrFun hx385.1 3
    have ht385_4 : (u385).2 3 4 = c 3 4 := congrFun hx385.1 4
    have ht385_5 : (u385).2 3 5 = c 3 5 := congrFun hx385.1 5
    have ht385_6 : (u385).2 3 6 = c 3 6 := congrFun hx385.1 6
    have ht385_8 : (u385).2 3 8 = c 3 8 := congrFun hx385.1 8
    have ht385_9 : (u385).2 3 9 = c 3 9 := congrFun hx385.1 9
    have ht385_10 : (u385).2 3 10 = c 3 10 := congrFun hx385.1 10
    have hv385 : ((u385).2 0 5 = 0 ∧ 0 ≤ (u385).1 ∧ (u385).1 ≤ 39) ∨ ((u385).2 0 5 ≠ 0 ∧ (u385).1 = 0) := by rw [hu385]; have q9 := (k_number_x (lo := 0) (hi := 39) hR).2.2; exact q9
    have hf385 : (u385).2 0 5 = 0 → c 0 5 = 0 := by rw [hu385]; exact fun h9 => (k_number_5 h9)
    refine T_iastore (am_dec tX12_clause_4 30 rfl) (mr_readSteamer hl (i := (c 3 10)) (by omega) (by omega)) (by omega) (by omega) ?_
    refine am_wE (w2 := mdW w b (am_put (u385).2 (75 + (c 3 10).toNat) 0 ((u385).1)) q) (md_pc (by omega) (fun f g => md_t_readSteamer f g (by omega))) ?_
    refine T_aload_n (am_dec tX12_clause_4 31 rfl) rfl ?_
    refine T_iconst 1 (am_dec tX12_clause_4 32 rfl) rfl ⟨by decide, by decide⟩ ?_
    refine T_aload_n (am_dec tX12_clause_4 33 rfl) rfl ?_
    refine T_callV (as := []) rfl (am_dec tX12_clause_4 34 rfl) lkX12_242 (md_obj hl) rfl rfl (Nat.le_of_ble_eq_true rfl) (by omega) (mk_acrossHere (d := d - 1) hl   (RdV_k (k := (75 + (c 3 10).toNat)) (i := 0) (v := ((u385).1)) (by omega) (by omega) hR385) (RW_y (Ly_t hx385 (Ly_k (k := (75 + (c 3 10).toNat)) (i := 0) (v := ((u385).1)) (by omega) (by omega))) hRW).1 (by omega)) (fun _ => ?_)
    obtain ⟨u392, hu392⟩ : ∃ x9, x9 = k_acrossHere (am_put (u385).2 (75 + (c 3 10).toNat) 0 ((u385).1)) := ⟨_, rfl⟩
    rw [← hu392]
    have hR392 : RdV (u392).2 := by rw [hu392]; exact (k_across_x (RdV_k (k := (75 + (c 3 10).toNat)) (i := 0) (v := ((u385).1)) (by omega) (by omega) hR385)).1
    have hR9 := hR392
    obtain ⟨ra392, rb392, rc392⟩ := hR9
    have hx392 : Ly c (u392).2 := Ly_t (Ly_t hx385 (Ly_k (k := (75 + (c 3 10).toNat)) (i := 0) (v := ((u385).1)) (by omega) (by omega))) (Ly_x (by rw [hu392]; exact (k_across_x (RdV_k (k := (75 + (c 3 10).toNat)) (i := 0) (v := ((u385).1)) (by omega) (by omega) hR385)).2.1))
    have hz392 : (u392).2 0 2 = c 0 2 := hx392.2 2 (by decide) (by decide) (by decide)
    have ht392_0 : (u392).2 3 0 = c 3 0 := congrFun hx392.1 0
    have ht392_1 : (u392).2 3 1 = c 3 1 := congrFun hx392.1 1
    have ht392_2 : (u392).2 3 2 = c 3 2 := congrFun hx392.1 2
    have ht392_3 : (u392).2 3 3 = c 3 3 := congrFun hx392.1 3
    have ht392_4 : (u392).2 3 4 = c 3 4 := congrFun hx392.1 4
    have ht392_5 : (u392).2 3 5 = c 3 5 := congrFun hx392.1 5
    have ht392_6 : (u392).2 3 6 = c 3 6 := congrFun hx392.1 6
    have ht392_8 : (u392).2 3 8 = c 3 8 := congrFun hx392.1 8
    have ht392_9 : (u392).2 3 9 = c 3 9 := congrFun hx392.1 9
    have ht392_10 : (u392).2 3 10 = c 3 10 := congrFun hx392.1 10
    have hv392 : ((u392).2 0 5 = 0 ∧ 0 ≤ (u392).1 ∧ (u392).1 ≤ ((u385).2 3 0 - 1)) ∨ ((u392).2 0 5 ≠ 0 ∧ (u392).1 = 0) := by rw [hu392]; have q9 := (k_across_x (RdV_k (k := (75 + (c 3 10).toNat)) (i := 0) (v := ((u385).1)) (by omega) (by omega) hR385)).2.2; rw [show (am_put (u385).2 (75 + (c 3 10).toNat) 0 ((u385).1)) 3 0 = (u385).2 3 0 from (am_put_k (by omega))] at q9; exact q9
    have hf392 : (u392).2 0 5 = 0 → (u385).2 0 5 = 0 := by rw [hu392]; exact fun h9 => (show (am_put (u385).2 (75 + (c 3 10).toNat) 0 ((u385).1)) 0 5 = (u385).2 0 5 from (am_put_k (by omega))).symm.trans (k_across_5 h9)
    refine T_iastore (am_dec tX12_clause_4 35 rfl) (mr_readSteamer hl (i := (c 3 10)) (by omega) (by omega)) (by omega) (by omega) ?_
    refine am_wE (w2 := mdW w b (am_put (u392).2 (75 + (c 3 10).toNat) 1 ((u392).1)) q) (md_pc (by omega) (fun f g => md_t_readSteamer f g (by omega))) ?_
    refine T_aload_n (am_dec tX12_clause_4 36 rfl) rfl ?_
    refine T_iconst 2 (am_dec tX12_clause_4 37 rfl) rfl ⟨by decide, by decide⟩ ?_
    refine T_aload_n (am_dec tX12_clause_4 38 rfl) rfl ?_
    refine T_callV (as := []) rfl (am_dec tX12_clause_4 39 rfl) lkX12_245 (md_obj hl) rfl rfl (Nat.le_of_ble_eq_true rfl) (by omega) (mk_downHere (d := d - 1) hl   (RdV_k (k := (75 + (c 3 10).toNat)) (i := 1) (v := ((u392).1)) (by omega) (by omega) hR392) (RW_y (Ly_t hx392 (Ly_k (k := (75 + (c 3 10).toNat)) (i := 1) (v := ((u392).1)) (by omega) (by omega))) hRW).2.1 (by omega)) (fun _ => ?_)
    obtain ⟨u399, hu399⟩ : ∃ x9, x9 = k_downHere (am_put (u392).2 (75 + (c 3 10).toNat) 1 ((u392).1)) := ⟨_, rfl⟩
    rw [← hu399]
    have hR399 : RdV (u399).2 := by rw [hu399]; exact (k_down_x (RdV_k (k := (75 + (c 3 10).toNat)) (i := 1) (v := ((u392).1)) (by omega) (by omega) hR392)).1
    have hR9 := hR399
    obtain ⟨ra399, rb399, rc399⟩ := hR9
    have hx399 : Ly c (u399).2 := Ly_t (Ly_t hx392 (Ly_k (k := (75 + (c 3 10).toNat)) (i := 1) (v := ((u392).1)) (by omega) (by omega))) (Ly_x (by rw [hu399]; exact (k_down_x (RdV_k (k := (75 + (c 3 10).toNat)) (i := 1) (v := ((u392).1)) (by omega) (by omega) hR392)).2.1))
    have hz399 : (u399).2 0 2 = c 0 2 := hx399.2 2 (by decide) (by decide) (by decide)
    have ht399_0 : (u399).2 3 0 = c 3 0 := congrFun hx399.1 0
    have ht399_1 : (u399).2 3 1 = c 3 1 := congrFun hx399.1 1
    have ht399_2 : (u399).2 3 2 = c 3 2 := congrFun hx399.1 2
    have ht399_3 : (u399).2 3 3 = c 3 3 := congrFun hx399.1 3
    have ht399_4 : (u399).2 3 4 = c 3 4 := congrFun hx399.1 4
    have ht399_5 : (u399).2 3 5 = c 3 5 := congrFun hx399.1 5
    have ht399_6 : (u399).2 3 6 = c 3 6 := congrFun hx399.1 6
    have ht399_8 : (u399).2 3 8 = c 3 8 := congrFun hx399.1 8
    have ht399_9 : (u399).2 3 9 = c 3 9 := congrFun hx399.1 9
    have ht399_10 : (u399).2 3 10 = c 3 10 := congrFun hx399.1 10
    have hv399 : ((u399).2 0 5 = 0 ∧ 0 ≤ (u399).1 ∧ (u399).1 ≤ ((u392).2 3 1 - 1)) ∨ ((u399).2 0 5 ≠ 0 ∧ (u399).1 = 0) := by rw [hu399]; have q9 := (k_down_x (RdV_k (k := (75 + (c 3 10).toNat)) (i := 1) (v := ((u392).1)) (by omega) (by omega) hR392)).2.2; rw [show (am_put (u392).2 (75 + (c 3 10).toNat) 1 ((u392).1)) 3 1 = (u392).2 3 1 from (am_put_k (by omega))] at q9; exact q9
    have hf399 : (u399).2 0 5 = 0 → (u392).2 0 5 = 0 := by rw [hu399]; exact fun h9 => (show (am_put (u392).2 (75 + (c 3 10).toNat) 1 ((u392).1)) 0 5 = (u392).2 0 5 from (am_put_k (by omega))).symm.trans (k_down_5 h9)
    refine T_iastore (am_dec tX12_clause_5 0 rfl) (mr_readSteamer hl (i := (c 3 10)) (by omega) (by omega)) (by omega) (by omega) ?_
    refine am_wE (w2 := mdW w b (am_put (u399).2 (75 + (c 3 10).toNat) 2 ((u399).1)) q) (md_pc (by omega) (fun f g => md_t_readSteamer f g (by omega))) ?_
    refine T_goto 410 (am_dec tX12_clause_5 1 rfl) rfl ?_
    refine T_iload_n (am_dec tX12_clause_5 4 rfl) rfl ?_
    refine T_iconst 1 (am_dec tX12_clause_5 5 rfl) rfl ⟨by decide, by decide⟩ ?_
    refine T_icmp_le 421 (am_dec tX12_clause_5 6 rfl) rfl (fun h412 => by exfalso; omega) (fun h412 => ?_)
    refine T_iload_n (am_dec tX12_clause_5 7 rfl) rfl ?_
    refine T_bipush 7 (am_dec tX12_clause_5 8 rfl) rfl ⟨by decide, by decide⟩ ?_
    refine T_icmp_lt 427 (am_dec tX12_clause_5 9 rfl) rfl (fun h418 => by exfalso; omega) (fun h418 => ?_)
    refine T_iload_n (am_dec tX12_clause_5 10 rfl) rfl ?_
    refine T_bipush 10 (am_dec tX12_clause_5 11 rfl) rfl ⟨by decide, by decide⟩ ?_
    refine T_icmp_ne 448 (am_dec tX12_clause_5 12 rfl) rfl (fun h424 => by exfalso; omega) (fun h424 => ?_)
    refine T_aload_n (am_dec tX12_clause_5 13 rfl) rfl ?_
    refine T_getfield 11 10 (am_dec tX12_clause_5 14 rfl) flX12_20_11 (md_obj hl) rfl ?_
    refine T_iload_n (am_dec tX12_clause_5 15 rfl) rfl ?_
    refine T_dup2 (am_dec tX12_clause_5 16 rfl) rfl rfl ?_
    refine T_ialoadE (x := (u399).2 3 k.toNat) (am_dec tX12_clause_5 17 rfl) (md_readTold hl) (by omega) (by omega) (am_put_k (by omega)) ?_
    refine T_aload_n (am_dec tX12_clause_5 18 rfl) rfl ?_
    refine T_getfield 11 5 (am_dec tX12_clause_5 19 rfl) flX12_176_11 (md_obj hl) (md_fe rfl (am_put_k (by omega))) ?_
    have K438 : ∀ (t438 : Int), t438 = (if (u399).2 0 5 = 0 then 1 else 0) →  am_T S zX12_clause d u Q 446 [some (aR b), none, none] [aI t438, aI ((u399).2 3 k.toNat), aI k, aR (b + 3)] (mdW w b (am_put (u399).2 (75 + (c 3 10).toNat) 2 ((u399).1)) q) := by
      intro t438 ht438 
      have hbt438 : t438 = 0 ∨ t438 = 1 := by
        rw [ht438]
        try dsimp only
        repeat' split
        all_goals first | exact Or.inl rfl | exact Or.inr rfl | apply k_in_b | apply k_isDigit_b | apply k_isSmall_b | apply k_bad_b | apply k_isIn_b | apply k_isStep_b | apply k_isFirst_b | apply k_isLine_b | apply k_seesBy_b | apply k_isWalker_b | apply k_seesOne_b | apply k_badTwo_b | apply k_sees_b | apply k_isCode_b | apply k_isLot_b | apply k_isShip_b | apply k_areRight_b | apply k_right_b | apply k_areSeeds_b | apply k_badBid_b | apply k_isWord_b | apply k_takes_b | apply k_takesSign_b | apply k_isFull_b | omega
      have e8 : (u399).2 3 k.toNat = (u399).2 3 10 := by rw [show k.toNat = 10 by omega]
      refine T_iadd (((u399).2 3 k.toNat) + t438) (am_dec tX12_clause_5 24 rfl) rfl ⟨by omega, by omega⟩ ?_
      refine T_iastore (am_dec tX12_clause_5 25 rfl) (md_readTold hl) (by omega) (by omega) ?_
      refine am_wE (w2 := mdW w b (am_put (am_put (u399).2 (75 + (c 3 10).toNat) 2 ((u399).1)) 3 k.toNat (((u399).2 3 k.toNat) + t438)) q) (md_pc (Nat.le_of_ble_eq_true rfl) (fun _ _ => rfl)) ?_
      refine T_aload_n (am_dec tX12_clause_5 26 rfl) rfl ?_
      refine T_bipush 59 (am_dec tX12_clause_5 27 rfl) rfl ⟨by decide, by decide⟩ ?_
      refine T_callV (as := [aI 59]) rfl (am_dec tX12_clause_5 28 rfl) lkX12_264 (md_obj hl) rfl rfl (Nat.le_of_ble_eq_true rfl) (by omega) (mk_sign (d := d - 1) hl 59  (RdV_k (k := 3) (i := k.toNat) (v := (((u399).2 3 k.toNat) + t438)) (by decide) (by decide) (RdV_k (k := (75 + (c 3 10).toNat)) (i := 2) (v := ((u399).1)) (by omega) (by omega) hR399)) (by omega) (by omega)) (fun _ => ?_)
      refine T_nmH (W := fun x9 => mdW w b x9 q) (v := k_sign (am_put (am_put (u399).2 (75 + (c 3 10).toNat) 2 ((u399).1)) 3 k.toNat (((u399).2 3 k.toNat) + t438)) 59) (fun c451 hc451 => ?_)
      have hR451 : RdV c451 := by rw [hc451]; exact (k_sign_x (RdV_k (k := 3) (i := k.toNat) (v := (((u399).2 3 k.toNat) + t438)) (by decide) (by decide) (RdV_k (k := (75 + (c 3 10).toNat)) (i := 2) (v := ((u399).1)) (by omega) (by omega) hR399)) (by omega)).1
      have hR9 := hR451
      obtain ⟨ra451, rb451, rc451⟩ := hR9
      exact T_return (am_dec tX12_clause_5 29 rfl) rfl (am_tr (fun (x9 : am_F) => Q (.inl none) (mdW w b x9 q)) (y := c451) (show (k_clause_366 c k) = c451 from (by have s9 := hu385.symm; subst s9; have s9 := hu392.symm; subst s9; have s9 := hu399.symm; subst s9; have s9 := ht438.symm; subst s9; have s9 := hc451.symm; subst s9; exact rfl)) hQ)
    refine T_if_ne 445 (am_dec tX12_clause_5 20 rfl) rfl (fun h438 => ?_) (fun h438 => ?_)
    · refine T_iconst 0 (am_dec tX12_clause_5 23 rfl) rfl ⟨by decide, by decide⟩ ?_
      refine T_weak (ls' := [some (aR b), none, none]) (am_sub_s (am_sub_n (am_sub_n am_sub_nil))) ?_
      exact K438 _ (if_neg h438).symm 
    · refine T_iconst 1 (am_dec tX12_clause_5 21 rfl) rfl ⟨by decide, by decide⟩ ?_
      refine T_goto 446 (am_dec tX12_clause_5 22 rfl) rfl ?_
      refine T_weak (ls' := [some (aR b), none, none]) (am_sub_s (am_sub_n (am_sub_n am_sub_nil))) ?_
      exact K438 _ (if_pos h438).symm 
