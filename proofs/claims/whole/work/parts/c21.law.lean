/-! THE LAW: its loop, its entry -/
theorem am_and63 (a : Int) : Int32.ofInt a &&& Int32.ofInt 63 = Int32.ofInt (a % 64) := by
  apply Int32.toBitVec_inj.mp
  rw [Int32.toBitVec_and, Int32.toBitVec_ofInt, Int32.toBitVec_ofInt, Int32.toBitVec_ofInt]
  apply BitVec.eq_of_toNat_eq
  rw [BitVec.toNat_and, BitVec.toNat_ofInt, BitVec.toNat_ofInt, BitVec.toNat_ofInt]
  have h : ((63 : Int) % ((2 ^ 32 : Nat) : Int)).toNat = 2 ^ 6 - 1 := rfl
  rw [h, Nat.and_two_pow_sub_one_eq_mod]
  omega
theorem D_newJ {S : am_S} {z : am_Z} {d u : Nat} {Q : AO → AH → Prop} {pc : Nat} {ls : List (Option AV)} {st : List AV} {w : AH} {k9 : Nat} {n : Int} (hd : decode (am_cc z) pc = .ok (.newarray .long, 2)) (hcl : Cond.arrayClass .long ∈ am_G) (h0 : 0 ≤ n) (hn : n ≤ 3700) (hu : 1 ≤ u) (hk : w.length = k9) (k : am_T S z d (u - 1) Q (pc + 2) ls (aR k9 :: st) (w ++ [cP 2 n.toNat (fun _ => 0)])) : am_T S z d u Q pc ls (aI n :: st) w := by
  subst hk
  exact T_newJ hd hcl h0 hn hu k
theorem law_at {S : am_S} {d u : Nat} {Q : AO → AH → Prop} {W : AH} {i k : Int} (hS : LawS S) (hi : 0 ≤ i ∧ i + 5 < S.1) (hd : 50 ≤ d) (hu : 1 ≤ u) (hW : LST W) (kk : ∀ W2, LST W2 → am_T S zL_law d (u - 1) Q 3820 (LL i none none) [] W2) (hk : 0 ≤ k) : am_T S zL_law d u Q 40 (LL i none none) [aI k] W := by
  obtain ⟨m, rfl⟩ : ∃ m : Nat, k = m := ⟨k.toNat, by omega⟩
  match m with
  | 0 => exact T_tableIn 268 (am_dec tL_law_0 24 rfl) (by decide) (by decide) rfl rfl (cs_feed hS hi hd hu hW kk)
  | 1 => exact T_tableIn 341 (am_dec tL_law_0 24 rfl) (by decide) (by decide) rfl rfl (cs_port hS hi hd hu hW kk)
  | 2 => exact T_tableIn 397 (am_dec tL_law_0 24 rfl) (by decide) (by decide) rfl rfl (cs_fault hS hi hd hu hW kk)
  | 3 => exact T_tableIn 410 (am_dec tL_law_0 24 rfl) (by decide) (by decide) rfl rfl (cs_told hS hi hd hu hW kk)
  | 4 => exact T_tableIn 466 (am_dec tL_law_0 24 rfl) (by decide) (by decide) rfl rfl (cs_fog hS hi hd hu hW kk)
  | 5 => exact T_tableIn 546 (am_dec tL_law_0 24 rfl) (by decide) (by decide) rfl rfl (cs_sums hS hi hd hu hW kk)
  | 6 => exact T_tableIn 614 (am_dec tL_law_0 24 rfl) (by decide) (by decide) rfl rfl (cs_set hS hi hd hu hW kk)
  | 7 => exact T_tableIn 694 (am_dec tL_law_0 24 rfl) (by decide) (by decide) rfl rfl (cs_led hS hi hd hu hW kk)
  | 8 => exact T_tableIn 762 (am_dec tL_law_0 24 rfl) (by decide) (by decide) rfl rfl (cs_whose hS hi hd hu hW kk)
  | 9 => exact T_tableIn 830 (am_dec tL_law_0 24 rfl) (by decide) (by decide) rfl rfl (cs_line hS hi hd hu hW kk)
  | 10 => exact T_tableIn 934 (am_dec tL_law_0 24 rfl) (by decide) (by decide) rfl rfl (cs_where hS hi hd hu hW kk)
  | 11 => exact T_tableIn 1002 (am_dec tL_law_0 24 rfl) (by decide) (by decide) rfl rfl (cs_sees hS hi hd hu hW kk)
  | 12 => exact T_tableIn 1089 (am_dec tL_law_0 24 rfl) (by decide) (by decide) rfl rfl (cs_often hS hi hd hu hW kk)
  | 13 => exact T_tableIn 1157 (am_dec tL_law_0 24 rfl) (by decide) (by decide) rfl rfl (cs_seen hS hi hd hu hW kk)
  | 14 => exact T_tableIn 1225 (am_dec tL_law_0 24 rfl) (by decide) (by decide) rfl rfl (cs_could hS hi hd hu hW kk)
  | 15 => exact T_tableIn 1305 (am_dec tL_law_0 24 rfl) (by decide) (by decide) rfl rfl (cs_buy hS hi hd hu hW kk)
  | 16 => exact T_tableIn 1373 (am_dec tL_law_0 24 rfl) (by decide) (by decide) rfl rfl (cs_way hS hi hd hu hW kk)
  | 17 => exact T_tableIn 1465 (am_dec tL_law_0 24 rfl) (by decide) (by decide) rfl rfl (cs_lot hS hi hd hu hW kk)
  | 18 => exact T_tableIn 1533 (am_dec tL_law_0 24 rfl) (by decide) (by decide) rfl rfl (cs_yards hS hi hd hu hW kk)
  | 19 => exact T_tableIn 1601 (am_dec tL_law_0 24 rfl) (by decide) (by decide) rfl rfl (cs_leaks hS hi hd hu hW kk)
  | 20 => exact T_tableIn 1681 (am_dec tL_law_0 24 rfl) (by decide) (by decide) rfl rfl (cs_net hS hi hd hu hW kk)
  | 21 => exact T_tableIn 1737 (am_dec tL_law_0 24 rfl) (by decide) (by decide) rfl rfl (cs_bid hS hi hd hu hW kk)
  | 22 => exact T_tableIn 1817 (am_dec tL_law_0 24 rfl) (by decide) (by decide) rfl rfl (cs_gets hS hi hd hu hW kk)
  | 23 => exact T_tableIn 1897 (am_dec tL_law_0 24 rfl) (by decide) (by decide) rfl rfl (cs_sold hS hi hd hu hW kk)
  | 24 => exact T_tableIn 1977 (am_dec tL_law_0 24 rfl) (by decide) (by decide) rfl rfl (cs_when hS hi hd hu hW kk)
  | 25 => exact T_tableIn 2045 (am_dec tL_law_0 24 rfl) (by decide) (by decide) rfl rfl (cs_ship hS hi hd hu hW kk)
  | 26 => exact T_tableIn 2101 (am_dec tL_law_0 24 rfl) (by decide) (by decide) rfl rfl (cs_worthless hS hi hd hu hW kk)
  | 27 => exact T_tableIn 2169 (am_dec tL_law_0 24 rfl) (by decide) (by decide) rfl rfl (cs_gauge hS hi hd hu hW kk)
  | 28 => exact T_tableIn 2261 (am_dec tL_law_0 24 rfl) (by decide) (by decide) rfl rfl (cs_right hS hi hd hu hW kk)
  | 29 => exact T_tableIn 2274 (am_dec tL_law_0 24 rfl) (by decide) (by decide) rfl rfl (cs_found hS hi hd hu hW kk)
  | 30 => exact T_tableIn 2330 (am_dec tL_law_0 24 rfl) (by decide) (by decide) rfl rfl (cs_clear hS hi hd hu hW kk)
  | 31 => exact T_tableIn 2343 (am_dec tL_law_0 24 rfl) (by decide) (by decide) rfl rfl (cs_doubt hS hi hd hu hW kk)
  | 32 => exact T_tableIn 2447 (am_dec tL_law_0 24 rfl) (by decide) (by decide) rfl rfl (cs_span hS hi hd hu hW kk)
  | 33 => exact T_tableIn 2551 (am_dec tL_law_0 24 rfl) (by decide) (by decide) rfl rfl (cs_rule hS hi hd hu hW kk)
  | 34 => exact T_tableIn 2607 (am_dec tL_law_0 24 rfl) (by decide) (by decide) rfl rfl (cs_let hS hi hd hu hW kk)
  | 35 => exact T_tableIn 2687 (am_dec tL_law_0 24 rfl) (by decide) (by decide) rfl rfl (cs_ruled hS hi hd hu hW kk)
  | 36 => exact T_tableIn 2767 (am_dec tL_law_0 24 rfl) (by decide) (by decide) rfl rfl (cs_brings hS hi hd hu hW kk)
  | 37 => exact T_tableIn 2847 (am_dec tL_law_0 24 rfl) (by decide) (by decide) rfl rfl (cs_clock hS hi hd hu hW kk)
  | 38 => exact T_tableIn 2927 (am_dec tL_law_0 24 rfl) (by decide) (by decide) rfl rfl (cs_enough hS hi hd hu hW kk)
  | 39 => exact T_tableIn 3031 (am_dec tL_law_0 24 rfl) (by decide) (by decide) rfl rfl (cs_sure hS hi hd hu hW kk)
  | 40 => exact T_tableIn 3135 (am_dec tL_law_0 24 rfl) (by decide) (by decide) rfl rfl (cs_start hS hi hd hu hW kk)
  | 41 => exact T_tableIn 3203 (am_dec tL_law_0 24 rfl) (by decide) (by decide) rfl rfl (cs_meet hS hi hd hu hW kk)
  | 42 => exact T_tableIn 3271 (am_dec tL_law_0 24 rfl) (by decide) (by decide) rfl rfl (cs_witnesses hS hi hd hu hW kk)
  | 43 => exact T_tableIn 3391 (am_dec tL_law_0 24 rfl) (by decide) (by decide) rfl rfl (cs_guards hS hi hd hu hW kk)
  | 44 => exact T_tableIn 3404 (am_dec tL_law_0 24 rfl) (by decide) (by decide) rfl rfl (cs_light hS hi hd hu hW kk)
  | 45 => exact T_tableIn 3484 (am_dec tL_law_0 24 rfl) (by decide) (by decide) rfl rfl (cs_asked hS hi hd hu hW kk)
  | 46 => exact T_tableIn 3576 (am_dec tL_law_0 24 rfl) (by decide) (by decide) rfl rfl (cs_calm hS hi hd hu hW kk)
  | 47 => exact T_tableIn 3632 (am_dec tL_law_0 24 rfl) (by decide) (by decide) rfl rfl (cs_thick hS hi hd hu hW kk)
  | 48 => exact T_tableIn 3688 (am_dec tL_law_0 24 rfl) (by decide) (by decide) rfl rfl (cs_hid hS hi hd hu hW kk)
  | 49 => exact T_tableIn 3744 (am_dec tL_law_0 24 rfl) (by decide) (by decide) rfl rfl (cs_image hS hi hd hu hW kk)
  | 50 => exact T_tableIn 3757 (am_dec tL_law_0 24 rfl) (by decide) (by decide) rfl rfl (cs_restore hS hi hd hu hW kk)
  | 51 => exact T_tableIn 3770 (am_dec tL_law_0 24 rfl) (by decide) (by decide) rfl rfl (cs_status hS hi hd hu hW kk)
  | 52 => exact T_tableIn 3795 (am_dec tL_law_0 24 rfl) (by decide) (by decide) rfl rfl (cs_count hS hi hd hu hW kk)
  | n + 53 => exact T_tableOut 3820 (am_dec tL_law_0 24 rfl) (Or.inr (show (52 : Int) < ((n + 53 : Nat) : Int) by omega)) rfl (T_lessU (Nat.sub_le u 1) (kk W hW))
theorem law_loop {S : am_S} {d : Nat} {Q : AO → AH → Prop} (hS : LawS S) (hd : 50 ≤ d) (hQ : ∀ W, LST W → Q (.inl (some (aI 1))) W) : ∀ (n u : Nat) (i : Int) (W : AH), 0 ≤ i → (S.1 : Int) - i < 6 * n + 6 → n ≤ u → LST W → am_T S zL_law d u Q 23 (LL i none none) [] W := by
  have hS1 := hS.1
  intro n
  induction n with
  | zero =>
    intro u i W i0 hm hu hW
    refine T_iload (am_dec tL_law_0 13 rfl) rfl ?_
    refine T_aloadX_n (am_dec tL_law_0 14 rfl) rfl ?_
    refine T_alenS (am_dec tL_law_0 15 rfl) (by omega) ?_
    refine T_bipush 6 (am_dec tL_law_0 16 rfl) rfl ⟨by decide, by decide⟩ ?_
    refine T_isub ((S.1 : Int) - 6) (am_dec tL_law_0 17 rfl) rfl ⟨by omega, by omega⟩ ?_
    refine T_icmp_gt 3826 (am_dec tL_law_0 18 rfl) rfl (fun _ => ?_) (fun g => ?_)
    · refine T_iconst 1 (am_dec tL_law_60 31 rfl) rfl ⟨by decide, by decide⟩ ?_
      exact T_zreturn (am_dec tL_law_60 32 rfl) rfl (Or.inr rfl) (hQ W hW)
    · exact absurd g (by omega)
  | succ n ih =>
    intro u i W i0 hm hu hW
    refine T_iload (am_dec tL_law_0 13 rfl) rfl ?_
    refine T_aloadX_n (am_dec tL_law_0 14 rfl) rfl ?_
    refine T_alenS (am_dec tL_law_0 15 rfl) (by omega) ?_
    refine T_bipush 6 (am_dec tL_law_0 16 rfl) rfl ⟨by decide, by decide⟩ ?_
    refine T_isub ((S.1 : Int) - 6) (am_dec tL_law_0 17 rfl) rfl ⟨by omega, by omega⟩ ?_
    refine T_icmp_gt 3826 (am_dec tL_law_0 18 rfl) rfl (fun _ => ?_) (fun g => ?_)
    · refine T_iconst 1 (am_dec tL_law_60 31 rfl) rfl ⟨by decide, by decide⟩ ?_
      exact T_zreturn (am_dec tL_law_60 32 rfl) rfl (Or.inr rfl) (hQ W hW)
    · refine T_aloadX_n (am_dec tL_law_0 19 rfl) rfl ?_
      refine T_iload (am_dec tL_law_0 20 rfl) rfl ?_
      refine T_ialoadS (am_dec tL_law_0 21 rfl) i0 (by omega) (hS.2 _) ?_
      refine T_bipush 63 (am_dec tL_law_0 22 rfl) rfl ⟨by decide, by decide⟩ ?_
      refine T_iand (S.2 i.toNat % 64) (am_dec tL_law_0 23 rfl) (am_and63 _) ⟨by omega, by omega⟩ ?_
      refine law_at hS ⟨i0, by omega⟩ hd (by omega) hW (fun W2 hW2 => ?_) (by omega)
      refine T_iinc (ls' := LL (i + 6) none none) (i + 6) (am_dec tL_law_60 29 rfl) rfl rfl ⟨by omega, by omega⟩ (by decide) rfl ?_
      refine T_goto 23 (am_dec tL_law_60 30 rfl) rfl ?_
      exact ih (u - 1) (i + 6) W2 (by omega) (by omega) (by omega) hW2
theorem law_entry {S : am_S} {d u : Nat} {Q : AO → AH → Prop} (hS : LawS S) (hd : 50 ≤ d) (hu : 1400 ≤ u) (hQ : ∀ W, LST W → Q (.inl (some (aI 1))) W) : am_T S zL_law d u Q 0 [some (aX 1), none, none, none, none, none, none] [] [] := by
  have hS1 := hS.1
  have hF : am_Out S zX11_init 40 108 [aR 0] ([] ++ [cO 10 [aN, aN, aN, aN, aN, aN, aN, aI 0, aI 0, aN, aN, aN, aN, aN, aN, aN, aN, aI 0, aN, aN]]) (.inl none) (W11g g0F r0F) := am_OutE (mi_fog (by decide)) rfl W11_e
  have hM : am_Out S zX12_init 40 734 [aR 109] (W11g g0F r0F ++ [cO 11 [aI 0, aI 0, aI 0, aI 0, aI 0, aI 0, aI 0, aI 0, aN, aN, aN, aN, aN, aN, aN, aN, aN, aN, aN, aN, aN, aN, aN, aN, aN, aN, aN, aN, aN, aN, aI 0, aI 0, aI 0, aI 0, aN, aN, aN, aN, aN, aN, aN, aN, aN, aN, aN, aI 0, aI 0, aI 0, aI 0, aI 0, aI 0, aN, aN, aN, aN, aN, aI 0, aI 0, aI 0, aI 0, aI 0, aI 0, aN, aN, aN, aN, aN, aI 0, aN]]) (.inl none) (mdW (W11g g0F r0F ++ (cO 11 (mf 109) :: ml 109 734)) 109 c1F z0F) := by
    have h := mi_model (S := S) (d := 40) (v := W11g g0F r0F) (by decide)
    rw [W11_len] at h
    exact h
  have hl : (mdW (W11g g0F r0F ++ (cO 11 (mf 109) :: ml 109 734)) 109 c1F z0F).length = 844 := by
    rw [mdW_l, List.length_append, W11_len, List.length_cons, ml_len]
  have hW := st_LST
  generalize hG : mdW (W11g g0F r0F ++ (cO 11 (mf 109) :: ml 109 734)) 109 c1F z0F = G at *
  generalize hV : W11g g0F r0F = V at *
  have hVl : V.length = 109 := by rw [← hV]; exact W11_len
  refine D_new (k9 := 0) (fs := [aN, aN, aN, aN, aN, aN, aN, aI 0, aI 0, aN, aN, aN, aN, aN, aN, aN, aN, aI 0, aN, aN]) 10 (am_dec tL_law_0 0 rfl) rfl cl10 (am_m1 28 rfl rfl) (am_m1 29 rfl rfl) (am_m1 1 rfl rfl) (by
    intro j hj
    have e : j = 0 ∨ j = 1 ∨ j = 2 ∨ j = 3 ∨ j = 4 ∨ j = 5 ∨ j = 6 ∨ j = 7 ∨ j = 8 ∨ j = 9 ∨ j = 10 ∨ j = 11 ∨ j = 12 ∨ j = 13 ∨ j = 14 ∨ j = 15 ∨ j = 16 ∨ j = 17 ∨ j = 18 ∨ j = 19 := by
      change j < 20 at hj
      omega
    rcases e with e | e | e | e | e | e | e | e | e | e | e | e | e | e | e | e | e | e | e | e <;> subst e <;> exact ⟨_, rfl, fun _ _ => by rfl⟩) (by
    intro x9 hx
    simp only [List.mem_cons, List.not_mem_nil, or_false] at hx
    rcases hx with e | e | e | e | e | e | e | e | e | e | e | e | e | e | e | e | e | e | e | e <;> subst e <;> trivial) (by decide) (by omega) rfl ?_
  refine T_dup (am_dec tL_law_0 1 rfl) rfl ?_
  refine T_callI (d' := 40) (u' := 108) (as := []) rfl (am_dec tL_law_0 2 rfl) lkL_154 rfl (Nat.le_of_ble_eq_true rfl) (by omega) (by omega) hF (fun _ => ?_)
  refine T_astore_n (ls' := [some (aX 1), some (aR 0), none, none, none, none, none]) (am_dec tL_law_0 3 rfl) (by decide) rfl ?_
  refine D_new (k9 := 109) (fs := [aI 0, aI 0, aI 0, aI 0, aI 0, aI 0, aI 0, aI 0, aN, aN, aN, aN, aN, aN, aN, aN, aN, aN, aN, aN, aN, aN, aN, aN, aN, aN, aN, aN, aN, aN, aI 0, aI 0, aI 0, aI 0, aN, aN, aN, aN, aN, aN, aN, aN, aN, aN, aN, aI 0, aI 0, aI 0, aI 0, aI 0, aI 0, aN, aN, aN, aN, aN, aI 0, aI 0, aI 0, aI 0, aI 0, aI 0, aN, aN, aN, aN, aN, aI 0, aN]) 11 (am_dec tL_law_0 4 rfl) rfl cl11 (am_m8 46 rfl rfl) (am_m8 47 rfl rfl) (am_m1 16 rfl rfl) (by
    intro j hj
    have e : j = 0 ∨ j = 1 ∨ j = 2 ∨ j = 3 ∨ j = 4 ∨ j = 5 ∨ j = 6 ∨ j = 7 ∨ j = 8 ∨ j = 9 ∨ j = 10 ∨ j = 11 ∨ j = 12 ∨ j = 13 ∨ j = 14 ∨ j = 15 ∨ j = 16 ∨ j = 17 ∨ j = 18 ∨ j = 19 ∨ j = 20 ∨ j = 21 ∨ j = 22 ∨ j = 23 ∨ j = 24 ∨ j = 25 ∨ j = 26 ∨ j = 27 ∨ j = 28 ∨ j = 29 ∨ j = 30 ∨ j = 31 ∨ j = 32 ∨ j = 33 ∨ j = 34 ∨ j = 35 ∨ j = 36 ∨ j = 37 ∨ j = 38 ∨ j = 39 ∨ j = 40 ∨ j = 41 ∨ j = 42 ∨ j = 43 ∨ j = 44 ∨ j = 45 ∨ j = 46 ∨ j = 47 ∨ j = 48 ∨ j = 49 ∨ j = 50 ∨ j = 51 ∨ j = 52 ∨ j = 53 ∨ j = 54 ∨ j = 55 ∨ j = 56 ∨ j = 57 ∨ j = 58 ∨ j = 59 ∨ j = 60 ∨ j = 61 ∨ j = 62 ∨ j = 63 ∨ j = 64 ∨ j = 65 ∨ j = 66 ∨ j = 67 ∨ j = 68 := by
      change j < 69 at hj
      omega
    rcases e with e | e | e | e | e | e | e | e | e | e | e | e | e | e | e | e | e | e | e | e | e | e | e | e | e | e | e | e | e | e | e | e | e | e | e | e | e | e | e | e | e | e | e | e | e | e | e | e | e | e | e | e | e | e | e | e | e | e | e | e | e | e | e | e | e | e | e | e | e <;> subst e <;> exact ⟨_, rfl, fun _ _ => by rfl⟩) (by
    intro x9 hx
    simp only [List.mem_cons, List.not_mem_nil, or_false] at hx
    rcases hx with e | e | e | e | e | e | e | e | e | e | e | e | e | e | e | e | e | e | e | e | e | e | e | e | e | e | e | e | e | e | e | e | e | e | e | e | e | e | e | e | e | e | e | e | e | e | e | e | e | e | e | e | e | e | e | e | e | e | e | e | e | e | e | e | e | e | e | e | e <;> subst e <;> trivial) (by decide) (by omega) hVl ?_
  refine T_dup (am_dec tL_law_0 5 rfl) rfl ?_
  refine T_callI (d' := 40) (u' := 734) (as := []) rfl (am_dec tL_law_0 6 rfl) lkL_157 rfl (Nat.le_of_ble_eq_true rfl) (by omega) (by omega) hM (fun _ => ?_)
  refine T_astore_n (ls' := [some (aX 1), some (aR 0), some (aR 109), none, none, none, none]) (am_dec tL_law_0 7 rfl) (by decide) rfl ?_
  refine T_iconst 1 (am_dec tL_law_0 8 rfl) rfl ⟨by decide, by decide⟩ ?_
  refine D_newJ (k9 := 844) (am_dec tL_law_0 9 rfl) (am_m11 118 rfl rfl) (by decide) (by decide) (by omega) hl ?_
  refine T_astore_n (ls' := [some (aX 1), some (aR 0), some (aR 109), some (aR 844), none, none, none]) (am_dec tL_law_0 10 rfl) (by decide) rfl ?_
  refine T_iconst 0 (am_dec tL_law_0 11 rfl) rfl ⟨by decide, by decide⟩ ?_
  refine T_istore (ls' := LL 0 none none) (am_dec tL_law_0 12 rfl) (by decide) rfl ?_
  exact law_loop hS hd hQ 512 _ 0 _ (by decide) (by omega) (by omega) hW
