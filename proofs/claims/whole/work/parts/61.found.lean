/-! the model: a lamp more, duels -/
def FdI (c0 c : am_F) : Prop := (∀ k, k ≠ 0 → c k = c0 k) ∧ (∀ j, j ≠ 58 → j ≠ 59 → c 0 j = c0 0 j)
theorem FdI_r {c : am_F} : FdI c c := ⟨fun _ _ => rfl, fun _ _ _ => rfl⟩
theorem FdI_p {c0 c : am_F} {x y : Int} (h : FdI c0 c) : FdI c0 (am_put (am_put c 0 58 x) 0 59 y) := ⟨fun k hk => by
  rw [am_put0 hk, am_put0 hk]
  exact h.1 k hk, fun j h1 h2 => by
  rw [am_put_i h2, am_put_i h1]
  exact h.2 j h1 h2⟩
theorem FdI_V {c0 c : am_F} (h : FdI c0 c) (hV : MdV c0) : MdV c := by
  unfold MdV
  rw [h.1 4 (by decide), h.2 45 (by decide) (by decide), h.2 30 (by decide) (by decide), h.2 31 (by decide) (by decide)]
  exact hV
theorem FdI_Wd {c0 c : am_F} (h : FdI c0 c) (hV : MdWd c0) : MdWd c := fun k h0 h1 => by
  rw [h.1 4 (by decide)] at h1
  rw [h.1 (21 + k.toNat) (by omega)]
  exact hV k h0 h1
theorem FdI_S {c0 c : am_F} (h : FdI c0 c) (hV : MdS c0) : MdS c := fun k h0 h1 => by
  rw [h.1 4 (by decide)] at h1 ⊢
  rw [h.1 (82 + k.toNat) (by omega)]
  exact hV k h0 h1
theorem FdI_Lp {c0 c : am_F} (h : FdI c0 c) (hV : MdLp c0) : MdLp c := fun k h0 h1 => by
  rw [h.2 45 (by decide) (by decide)] at h1
  rw [h.1 (67 + k.toNat) (by omega)]
  exact hV k h0 h1
theorem FdI_G {c0 c : am_F} (h : FdI c0 c) (hV : MdG c0) : MdG c := fun k h0 h1 => by
  rw [h.2 31 (by decide) (by decide)] at h1
  rw [h.1 (146 + k.toNat) (by omega)]
  exact hV k h0 h1
theorem MdG_p0 {c : am_F} {i : Nat} {v : Int} (h : MdG c) (hi : i ≠ 31 := by decide) : MdG (am_put c 0 i v) := fun k h0 h1 => by
  rw [am_put0 (by omega : 146 + k.toNat ≠ 0)]
  exact h k h0 (by rw [am_put_i (by omega)] at h1; exact h1)
def g_k_found_64 (t : Int) (y : Int) (x : Int) (x9 : Int × Int × Int × am_F × am_F) : Int × Int × Int × am_F × am_F := let m := x9.1; let stp := x9.2.1; let on := x9.2.2.1; let c := x9.2.2.2.1; let q := x9.2.2.2.2; (let u93 : Int × am_F := k_areRight (am_put (am_put c 0 58 t) 0 59 (x + (9 * y))) q; (let m_96 : Int := (if (u93).1 = 0 then m else (am_w32 (m + 1))); (let stp_96 : Int := (if (u93).1 = 0 then stp else (if m = 0 then t else stp)); (let on_96 : Int := (if (u93).1 = 0 then on else (if m = 0 then (x + (10 * y)) else on)); (m_96, stp_96, on_96, (am_put (am_put c 0 58 t) 0 59 (x + (9 * y))), (u93).2)))))
theorem L_k_found_64 {S : am_S} {d u : Nat} {Q : AO → AH → Prop} {w : AH} {b : Nat} (hl : b + 735 ≤ w.length) (what : Int) (c0 : am_F) (t : Int) (y : Int) (hV : MdV c0) (hWd : MdWd c0) (hS9 : MdS c0) (hLp : MdLp c0) (hDu : MdDu c0) (hG9 : MdG c0) (ho40 : 0 ≤ t ∧ t < 40) (ho50 : 0 ≤ y ∧ y < c0 4 1) (hd : 6 ≤ d) (B9 : Int) (hB : B9 = c0 4 0) : ∀ (n : Nat) (x : Int) (m : Int) (stp : Int) (on : Int) (c : am_F) (q : am_F), x + n = B9 → 0 ≤ x → FdI c0 c → (∀ (m' : Int) (stp' : Int) (on' : Int) (c' : am_F) (q' : am_F), m' = (am_fold (g_k_found_64 t y) x n (m, stp, on, c, q)).1 → stp' = (am_fold (g_k_found_64 t y) x n (m, stp, on, c, q)).2.1 → on' = (am_fold (g_k_found_64 t y) x n (m, stp, on, c, q)).2.2.1 → c' = (am_fold (g_k_found_64 t y) x n (m, stp, on, c, q)).2.2.2.1 → q' = (am_fold (g_k_found_64 t y) x n (m, stp, on, c, q)).2.2.2.2 → FdI c0 c' → am_T S zX12_found d u Q 141 [some (aR b), some (aI what), some (aI m'), some (aI stp'), some (aI on'), some (aI t), some (aI y), none] [] (mdW w b c' q')) → am_T S zX12_found d u Q 64 [some (aR b), some (aI what), some (aI m), some (aI stp), some (aI on), some (aI t), some (aI y), some (aI x)] [] (mdW w b c q) := by
  intro n
  induction n with
  | zero =>
    intro x m stp on c q hi9 h0i hinv k9
    have e9 : x = B9 := by omega
    subst e9
    obtain ⟨vl0, vu0⟩ := MdV_0 hV
    obtain ⟨vl1, vu1⟩ := MdV_1 hV
    obtain ⟨vl3, vu3⟩ := MdV_3 hV
    obtain ⟨vl13, vu13⟩ := MdV_13 hV
    have hV0 := hV
    have hWd0 := hWd
    have hS90 := hS9
    have hLp0 := hLp
    have hG90 := hG9
    have hDu0 := hDu
    have hV : MdV c := FdI_V hinv hV0
    have hWd : MdWd c := FdI_Wd hinv hWd0
    have hS9 : MdS c := FdI_S hinv hS90
    have hLp : MdLp c := FdI_Lp hinv hLp0
    have hG9 : MdG c := FdI_G hinv hG90
    have e40 : c 4 0 = c0 4 0 := congrFun (hinv.1 4 (by decide)) 0
    have e41 : c 4 1 = c0 4 1 := congrFun (hinv.1 4 (by decide)) 1
    refine T_iload (am_dec tX12_found_0 39 rfl) rfl ?_
    refine T_aload_n (am_dec tX12_found_1 0 rfl) rfl ?_
    refine T_getfield 11 11 (am_dec tX12_found_1 1 rfl) flX12_23_11 (md_obj hl) rfl ?_
    refine T_iconst 0 (am_dec tX12_found_1 2 rfl) rfl ⟨by decide, by decide⟩ ?_
    refine T_ialoadE (x := c 4 0) (am_dec tX12_found_1 3 rfl) (md_told hl) (by omega) (by omega) rfl ?_
    refine T_icmp_ge 141 (am_dec tX12_found_1 4 rfl) rfl (fun h72 => ?_) (fun h72 => by exfalso; omega)
    refine T_weak (ls' := [some (aR b), some (aI what), some (aI m), some (aI stp), some (aI on), some (aI t), some (aI y), none]) (am_sub_s (am_sub_s (am_sub_s (am_sub_s (am_sub_s (am_sub_s (am_sub_s (am_sub_n am_sub_nil)))))))) ?_
    exact k9 m stp on c q rfl rfl rfl rfl rfl hinv
  | succ n ih =>
    intro x m stp on c q hi9 h0i hinv k9
    obtain ⟨vl0, vu0⟩ := MdV_0 hV
    obtain ⟨vl1, vu1⟩ := MdV_1 hV
    obtain ⟨vl3, vu3⟩ := MdV_3 hV
    obtain ⟨vl13, vu13⟩ := MdV_13 hV
    have hV0 := hV
    have hWd0 := hWd
    have hS90 := hS9
    have hLp0 := hLp
    have hG90 := hG9
    have hDu0 := hDu
    have hV : MdV c := FdI_V hinv hV0
    have hWd : MdWd c := FdI_Wd hinv hWd0
    have hS9 : MdS c := FdI_S hinv hS90
    have hLp : MdLp c := FdI_Lp hinv hLp0
    have hG9 : MdG c := FdI_G hinv hG90
    have e40 : c 4 0 = c0 4 0 := congrFun (hinv.1 4 (by decide)) 0
    have e41 : c 4 1 = c0 4 1 := congrFun (hinv.1 4 (by decide)) 1
    refine T_iload (am_dec tX12_found_0 39 rfl) rfl ?_
    refine T_aload_n (am_dec tX12_found_1 0 rfl) rfl ?_
    refine T_getfield 11 11 (am_dec tX12_found_1 1 rfl) flX12_23_11 (md_obj hl) rfl ?_
    refine T_iconst 0 (am_dec tX12_found_1 2 rfl) rfl ⟨by decide, by decide⟩ ?_
    refine T_ialoadE (x := c 4 0) (am_dec tX12_found_1 3 rfl) (md_told hl) (by omega) (by omega) rfl ?_
    refine T_icmp_ge 141 (am_dec tX12_found_1 4 rfl) rfl (fun h72 => by exfalso; omega) (fun h72 => ?_)
    refine T_aload_n (am_dec tX12_found_1 5 rfl) rfl ?_
    refine T_iload (am_dec tX12_found_1 6 rfl) rfl ?_
    refine T_putfield (fs' := mdO b (am_up (c 0) 58 t) (q 0)) 11 58 (am_dec tX12_found_1 7 rfl) flX12_130_11 rfl rfl rfl trivial (md_obj hl) (Nat.le_of_ble_eq_true rfl) rfl ?_
    refine am_wE (w2 := mdW w b (am_put c 0 58 t) q) (md_fc) ?_
    refine T_aload_n (am_dec tX12_found_1 8 rfl) rfl ?_
    refine T_iload (am_dec tX12_found_1 9 rfl) rfl ?_
    refine T_iload (am_dec tX12_found_1 10 rfl) rfl ?_
    refine T_callS (as := [aI x, aI y]) rfl (am_dec tX12_found_1 11 rfl) lkX12_317 rfl (Nat.le_of_ble_eq_true rfl) (by omega) (mk_cell' (d := d - 1) x y (by omega)) (fun _ => ?_)
    refine T_putfield (fs' := mdO b (am_up ((am_put c 0 58 t) 0) 59 (x + (9 * y))) (q 0)) 11 59 (am_dec tX12_found_1 12 rfl) flX12_339_11 rfl rfl rfl trivial (md_obj hl) (Nat.le_of_ble_eq_true rfl) rfl ?_
    refine am_wE (w2 := mdW w b (am_put (am_put c 0 58 t) 0 59 (x + (9 * y))) q) (md_fc) ?_
    refine T_aload_n (am_dec tX12_found_1 13 rfl) rfl ?_
    refine T_callV (as := []) rfl (am_dec tX12_found_1 14 rfl) lkX12_435 (md_obj hl) rfl rfl (Nat.le_of_ble_eq_true rfl) (by omega) (mk_areRight (d := d - 1) hl   hV (MdWd_p0 (MdWd_p0 hWd)) (MdS_p0 (MdS_p0 hS9)) (MdLp_p0 (MdLp_p0 hLp)) (⟨by rw [am_put_i (by decide), am_put_s]; omega, fun _ => by rw [am_put_s]; omega⟩) (MdG_p0 (MdG_p0 hG9)) (by omega)) (fun _ => ?_)
    obtain ⟨u93, hu93⟩ : ∃ x9, x9 = k_areRight (am_put (am_put c 0 58 t) 0 59 (x + (9 * y))) q := ⟨_, rfl⟩
    rw [← hu93]
    have hb93 := k_areRight_b (am_put (am_put c 0 58 t) 0 59 (x + (9 * y))) q
    rw [← hu93] at hb93
    have K96 : ∀ (m_96 : Int), ∀ (stp_96 : Int), ∀ (on_96 : Int), m_96 = (if (u93).1 = 0 then m else (am_w32 (m + 1))) → stp_96 = (if (u93).1 = 0 then stp else (if m = 0 then t else stp)) → on_96 = (if (u93).1 = 0 then on else (if m = 0 then (x + (10 * y)) else on)) →  am_T S zX12_found d u Q 135 [some (aR b), some (aI what), some (aI m_96), some (aI stp_96), some (aI on_96), some (aI t), some (aI y), some (aI x)] [] (mdW w b (am_put (am_put c 0 58 t) 0 59 (x + (9 * y))) (u93).2) := by
      intro m_96 stp_96 on_96 hm_96 hstp_96 hon_96
      refine T_iinc (ls' := [some (aR b), some (aI what), some (aI m_96), some (aI stp_96), some (aI on_96), some (aI t), some (aI y), some (aI (x + 1))]) (x + 1) (am_dec tX12_found_1 34 rfl) rfl rfl ⟨by omega, by omega⟩ (by decide) rfl ?_
      refine T_goto 64 (am_dec tX12_found_1 35 rfl) rfl ?_
      have e9 : (g_k_found_64 t y) x (m, stp, on, c, q) = (m_96, stp_96, on_96, (am_put (am_put c 0 58 t) 0 59 (x + (9 * y))), (u93).2) := (by have s9 := hu93.symm; subst s9; have s9 := hm_96.symm; subst s9; have s9 := hstp_96.symm; subst s9; have s9 := hon_96.symm; subst s9; exact rfl)
      simp only [am_fold_s, e9] at k9
      exact ih (x + 1) m_96 stp_96 on_96 (am_put (am_put c 0 58 t) 0 59 (x + (9 * y))) ((u93).2) (by omega) (by omega) (FdI_p hinv) k9
    refine T_if_ne 102 (am_dec tX12_found_1 15 rfl) rfl (fun h96 => ?_) (fun h96 => ?_)
    · refine T_iload_n (am_dec tX12_found_1 17 rfl) rfl ?_
      have K103 : ∀ (t103 : Int), t103 = (if m = 0 then t else stp) →  am_T S zX12_found d u Q 112 [some (aR b), some (aI what), some (aI m), none, some (aI on), some (aI t), some (aI y), some (aI x)] [aI t103] (mdW w b (am_put (am_put c 0 58 t) 0 59 (x + (9 * y))) (u93).2) := by
        intro t103 ht103
        refine T_istore_n (ls' := [some (aR b), some (aI what), some (aI m), some (aI t103), some (aI on), some (aI t), some (aI y), some (aI x)]) (am_dec tX12_found_1 22 rfl) (by decide) rfl ?_
        refine T_iload_n (am_dec tX12_found_1 23 rfl) rfl ?_
        have K114 : ∀ (t114 : Int), t114 = (if m = 0 then (x + (10 * y)) else on) →  am_T S zX12_found d u Q 130 [some (aR b), some (aI what), some (aI m), some (aI t103), none, some (aI t), some (aI y), some (aI x)] [aI t114] (mdW w b (am_put (am_put c 0 58 t) 0 59 (x + (9 * y))) (u93).2) := by
          intro t114 ht114
          refine T_istore (ls' := [some (aR b), some (aI what), some (aI m), some (aI t103), some (aI t114), some (aI t), some (aI y), some (aI x)]) (am_dec tX12_found_1 32 rfl) (by decide) rfl ?_
          refine T_iincW (ls' := [some (aR b), some (aI what), some (aI (am_w32 (m + 1))), some (aI t103), some (aI t114), some (aI t), some (aI y), some (aI x)]) (am_w32 (m + 1)) (am_dec tX12_found_1 33 rfl) rfl (am_w32e _).symm (am_w32r _) (by decide) rfl ?_
          exact K96 _ _ _ (by have s9 := ht103.symm; subst s9; have s9 := ht114.symm; subst s9; exact (if_neg h96).symm) (by have s9 := ht103.symm; subst s9; have s9 := ht114.symm; subst s9; exact (if_neg h96).symm) (by have s9 := ht103.symm; subst s9; have s9 := ht114.symm; subst s9; exact (if_neg h96).symm)
        refine T_if_ne 128 (am_dec tX12_found_1 24 rfl) rfl (fun h114 => ?_) (fun h114 => ?_)
        · refine T_iload (am_dec tX12_found_1 31 rfl) rfl ?_
          refine T_weak (ls' := [some (aR b), some (aI what), some (aI m), some (aI t103), none, some (aI t), some (aI y), some (aI x)]) (am_sub_s (am_sub_s (am_sub_s (am_sub_s (am_sub_n (am_sub_s (am_sub_s (am_sub_s am_sub_nil)))))))) ?_
          exact K114 _ (if_neg h114).symm
        · refine T_iload (am_dec tX12_found_1 25 rfl) rfl ?_
          refine T_bipush 10 (am_dec tX12_found_1 26 rfl) rfl ⟨by decide, by decide⟩ ?_
          refine T_iload (am_dec tX12_found_1 27 rfl) rfl ?_
          refine T_imul (10 * y) (am_dec tX12_found_1 28 rfl) rfl ⟨by omega, by omega⟩ ?_
          refine T_iadd (x + (10 * y)) (am_dec tX12_found_1 29 rfl) rfl ⟨by omega, by omega⟩ ?_
          refine T_goto 130 (am_dec tX12_found_1 30 rfl) rfl ?_
          refine T_weak (ls' := [some (aR b), some (aI what), some (aI m), some (aI t103), none, some (aI t), some (aI y), some (aI x)]) (am_sub_s (am_sub_s (am_sub_s (am_sub_s (am_sub_n (am_sub_s (am_sub_s (am_sub_s am_sub_nil)))))))) ?_
          exact K114 _ (if_pos h114).symm
      refine T_if_ne 111 (am_dec tX12_found_1 18 rfl) rfl (fun h103 => ?_) (fun h103 => ?_)
      · refine T_iload_n (am_dec tX12_found_1 21 rfl) rfl ?_
        refine T_weak (ls' := [some (aR b), some (aI what), some (aI m), none, some (aI on), some (aI t), some (aI y), some (aI x)]) (am_sub_s (am_sub_s (am_sub_s (am_sub_n (am_sub_s (am_sub_s (am_sub_s (am_sub_s am_sub_nil)))))))) ?_
        exact K103 _ (if_neg h103).symm
      · refine T_iload (am_dec tX12_found_1 19 rfl) rfl ?_
        refine T_goto 112 (am_dec tX12_found_1 20 rfl) rfl ?_
        refine T_weak (ls' := [some (aR b), some (aI what), some (aI m), none, some (aI on), some (aI t), some (aI y), some (aI x)]) (am_sub_s (am_sub_s (am_sub_s (am_sub_n (am_sub_s (am_sub_s (am_sub_s (am_sub_s am_sub_nil)))))))) ?_
        exact K103 _ (if_pos h103).symm
    · refine T_goto 135 (am_dec tX12_found_1 16 rfl) rfl ?_
      exact K96 _ _ _ (if_pos h96).symm (if_pos h96).symm (if_pos h96).symm
def g_k_found_50 (c0 : am_F) (t : Int) (y : Int) (x9 : Int × Int × Int × am_F × am_F) : Int × Int × Int × am_F × am_F := let m := x9.1; let stp := x9.2.1; let on := x9.2.2.1; let c := x9.2.2.2.1; let q := x9.2.2.2.2; (let m_64 : Int := (am_fold (g_k_found_64 t y) 0 (c0 4 0).toNat (m, stp, on, c, q)).1; (let stp_64 : Int := (am_fold (g_k_found_64 t y) 0 (c0 4 0).toNat (m, stp, on, c, q)).2.1; (let on_64 : Int := (am_fold (g_k_found_64 t y) 0 (c0 4 0).toNat (m, stp, on, c, q)).2.2.1; (let c64 : am_F := (am_fold (g_k_found_64 t y) 0 (c0 4 0).toNat (m, stp, on, c, q)).2.2.2.1; (let q64 : am_F := (am_fold (g_k_found_64 t y) 0 (c0 4 0).toNat (m, stp, on, c, q)).2.2.2.2; (m_64, stp_64, on_64, c64, q64))))))
theorem L_k_found_50 {S : am_S} {d u : Nat} {Q : AO → AH → Prop} {w : AH} {b : Nat} (hl : b + 735 ≤ w.length) (what : Int) (c0 : am_F) (t : Int) (hV : MdV c0) (hWd : MdWd c0) (hS9 : MdS c0) (hLp : MdLp c0) (hDu : MdDu c0) (hG9 : MdG c0) (ho40 : 0 ≤ t ∧ t < 40) (hd : 6 ≤ d) (B9 : Int) (hB : B9 = c0 4 1) : ∀ (n : Nat) (y : Int) (m : Int) (stp : Int) (on : Int) (c : am_F) (q : am_F), y + n = B9 → 0 ≤ y → FdI c0 c → (∀ (m' : Int) (stp' : Int) (on' : Int) (c' : am_F) (q' : am_F), m' = (am_fold (g_k_found_50 c0 t) y n (m, stp, on, c, q)).1 → stp' = (am_fold (g_k_found_50 c0 t) y n (m, stp, on, c, q)).2.1 → on' = (am_fold (g_k_found_50 c0 t) y n (m, stp, on, c, q)).2.2.1 → c' = (am_fold (g_k_found_50 c0 t) y n (m, stp, on, c, q)).2.2.2.1 → q' = (am_fold (g_k_found_50 c0 t) y n (m, stp, on, c, q)).2.2.2.2 → FdI c0 c' → am_T S zX12_found d u Q 147 [some (aR b), some (aI what), some (aI m'), some (aI stp'), some (aI on'), some (aI t), none, none] [] (mdW w b c' q')) → am_T S zX12_found d u Q 50 [some (aR b), some (aI what), some (aI m), some (aI stp), some (aI on), some (aI t), some (aI y), none] [] (mdW w b c q) := by
  intro n
  induction n with
  | zero =>
    intro y m stp on c q hi9 h0i hinv k9
    have e9 : y = B9 := by omega
    subst e9
    obtain ⟨vl0, vu0⟩ := MdV_0 hV
    obtain ⟨vl1, vu1⟩ := MdV_1 hV
    obtain ⟨vl3, vu3⟩ := MdV_3 hV
    obtain ⟨vl13, vu13⟩ := MdV_13 hV
    have hV0 := hV
    have hWd0 := hWd
    have hS90 := hS9
    have hLp0 := hLp
    have hG90 := hG9
    have hDu0 := hDu
    have hV : MdV c := FdI_V hinv hV0
    have hWd : MdWd c := FdI_Wd hinv hWd0
    have hS9 : MdS c := FdI_S hinv hS90
    have hLp : MdLp c := FdI_Lp hinv hLp0
    have hG9 : MdG c := FdI_G hinv hG90
    have e40 : c 4 0 = c0 4 0 := congrFun (hinv.1 4 (by decide)) 0
    have e41 : c 4 1 = c0 4 1 := congrFun (hinv.1 4 (by decide)) 1
    refine T_iload (am_dec tX12_found_0 31 rfl) rfl ?_
    refine T_aload_n (am_dec tX12_found_0 32 rfl) rfl ?_
    refine T_getfield 11 11 (am_dec tX12_found_0 33 rfl) flX12_23_11 (md_obj hl) rfl ?_
    refine T_iconst 1 (am_dec tX12_found_0 34 rfl) rfl ⟨by decide, by decide⟩ ?_
    refine T_ialoadE (x := c 4 1) (am_dec tX12_found_0 35 rfl) (md_told hl) (by omega) (by omega) rfl ?_
    refine T_icmp_ge 147 (am_dec tX12_found_0 36 rfl) rfl (fun h58 => ?_) (fun h58 => by exfalso; omega)
    refine T_weak (ls' := [some (aR b), some (aI what), some (aI m), some (aI stp), some (aI on), some (aI t), none, none]) (am_sub_s (am_sub_s (am_sub_s (am_sub_s (am_sub_s (am_sub_s (am_sub_n (am_sub_n am_sub_nil)))))))) ?_
    exact k9 m stp on c q rfl rfl rfl rfl rfl hinv
  | succ n ih =>
    intro y m stp on c q hi9 h0i hinv k9
    obtain ⟨vl0, vu0⟩ := MdV_0 hV
    obtain ⟨vl1, vu1⟩ := MdV_1 hV
    obtain ⟨vl3, vu3⟩ := MdV_3 hV
    obtain ⟨vl13, vu13⟩ := MdV_13 hV
    have hV0 := hV
    have hWd0 := hWd
    have hS90 := hS9
    have hLp0 := hLp
    have hG90 := hG9
    have hDu0 := hDu
    have hV : MdV c := FdI_V hinv hV0
    have hWd : MdWd c := FdI_Wd hinv hWd0
    have hS9 : MdS c := FdI_S hinv hS90
    have hLp : MdLp c := FdI_Lp hinv hLp0
    have hG9 : MdG c := FdI_G hinv hG90
    have e40 : c 4 0 = c0 4 0 := congrFun (hinv.1 4 (by decide)) 0
    have e41 : c 4 1 = c0 4 1 := congrFun (hinv.1 4 (by decide)) 1
    refine T_iload (am_dec tX12_found_0 31 rfl) rfl ?_
    refine T_aload_n (am_dec tX12_found_0 32 rfl) rfl ?_
    refine T_getfield 11 11 (am_dec tX12_found_0 33 rfl) flX12_23_11 (md_obj hl) rfl ?_
    refine T_iconst 1 (am_dec tX12_found_0 34 rfl) rfl ⟨by decide, by decide⟩ ?_
    refine T_ialoadE (x := c 4 1) (am_dec tX12_found_0 35 rfl) (md_told hl) (by omega) (by omega) rfl ?_
    refine T_icmp_ge 147 (am_dec tX12_found_0 36 rfl) rfl (fun h58 => by exfalso; omega) (fun h58 => ?_)
    refine T_iconst 0 (am_dec tX12_found_0 37 rfl) rfl ⟨by decide, by decide⟩ ?_
    refine T_istore (ls' := [some (aR b), some (aI what), some (aI m), some (aI stp), some (aI on), some (aI t), some (aI y), some (aI 0)]) (am_dec tX12_found_0 38 rfl) (by decide) rfl ?_
    refine L_k_found_64 hl what c0 t y hV0 hWd0 hS90 hLp0 hDu0 hG90 (by omega) (by omega) (by omega) _ rfl (c0 4 0).toNat 0 m stp on c q (by omega) (by omega) hinv (fun m_64 stp_64 on_64 c64 q64 hm_64 hstp_64 hon_64 hc64 hq64 hv64 => ?_)
    refine T_iinc (ls' := [some (aR b), some (aI what), some (aI m_64), some (aI stp_64), some (aI on_64), some (aI t), some (aI (y + 1)), none]) (y + 1) (am_dec tX12_found_1 36 rfl) rfl rfl ⟨by omega, by omega⟩ (by decide) rfl ?_
    refine T_goto 50 (am_dec tX12_found_1 37 rfl) rfl ?_
    have e9 : (g_k_found_50 c0 t) y (m, stp, on, c, q) = (m_64, stp_64, on_64, c64, q64) := (by have s9 := hm_64.symm; subst s9; have s9 := hstp_64.symm; subst s9; have s9 := hon_64.symm; subst s9; have s9 := hc64.symm; subst s9; have s9 := hq64.symm; subst s9; exact rfl)
    simp only [am_fold_s, e9] at k9
    exact ih (y + 1) m_64 stp_64 on_64 c64 q64 (by omega) (by omega) hv64 k9
def g_k_found_40 (c0 : am_F) (t : Int) (x9 : Int × Int × Int × am_F × am_F) : Int × Int × Int × am_F × am_F := let m := x9.1; let stp := x9.2.1; let on := x9.2.2.1; let c := x9.2.2.2.1; let q := x9.2.2.2.2; (let m_50 : Int := (am_fold (g_k_found_50 c0 t) 0 (c0 4 1).toNat (m, stp, on, c, q)).1; (let stp_50 : Int := (am_fold (g_k_found_50 c0 t) 0 (c0 4 1).toNat (m, stp, on, c, q)).2.1; (let on_50 : Int := (am_fold (g_k_found_50 c0 t) 0 (c0 4 1).toNat (m, stp, on, c, q)).2.2.1; (let c50 : am_F := (am_fold (g_k_found_50 c0 t) 0 (c0 4 1).toNat (m, stp, on, c, q)).2.2.2.1; (let q50 : am_F := (am_fold (g_k_found_50 c0 t) 0 (c0 4 1).toNat (m, stp, on, c, q)).2.2.2.2; (m_50, stp_50, on_50, c50, q50))))))
theorem L_k_found_40 {S : am_S} {d u : Nat} {Q : AO → AH → Prop} {w : AH} {b : Nat} (hl : b + 735 ≤ w.length) (what : Int) (c0 : am_F) (hV : MdV c0) (hWd : MdWd c0) (hS9 : MdS c0) (hLp : MdLp c0) (hDu : MdDu c0) (hG9 : MdG c0)  (hd : 6 ≤ d) (B9 : Int) (hB : B9 = 40) : ∀ (n : Nat) (t : Int) (m : Int) (stp : Int) (on : Int) (c : am_F) (q : am_F), t + n = B9 → 0 ≤ t → FdI c0 c → (∀ (m' : Int) (stp' : Int) (on' : Int) (c' : am_F) (q' : am_F), m' = (am_fold (g_k_found_40 c0) t n (m, stp, on, c, q)).1 → stp' = (am_fold (g_k_found_40 c0) t n (m, stp, on, c, q)).2.1 → on' = (am_fold (g_k_found_40 c0) t n (m, stp, on, c, q)).2.2.1 → c' = (am_fold (g_k_found_40 c0) t n (m, stp, on, c, q)).2.2.2.1 → q' = (am_fold (g_k_found_40 c0) t n (m, stp, on, c, q)).2.2.2.2 → FdI c0 c' → am_T S zX12_found d u Q 153 [some (aR b), some (aI what), some (aI m'), some (aI stp'), some (aI on'), none, none, none] [] (mdW w b c' q')) → am_T S zX12_found d u Q 40 [some (aR b), some (aI what), some (aI m), some (aI stp), some (aI on), some (aI t), none, none] [] (mdW w b c q) := by
  intro n
  induction n with
  | zero =>
    intro t m stp on c q hi9 h0i hinv k9
    have e9 : t = B9 := by omega
    subst e9
    obtain ⟨vl0, vu0⟩ := MdV_0 hV
    obtain ⟨vl1, vu1⟩ := MdV_1 hV
    obtain ⟨vl3, vu3⟩ := MdV_3 hV
    obtain ⟨vl13, vu13⟩ := MdV_13 hV
    have hV0 := hV
    have hWd0 := hWd
    have hS90 := hS9
    have hLp0 := hLp
    have hG90 := hG9
    have hDu0 := hDu
    have hV : MdV c := FdI_V hinv hV0
    have hWd : MdWd c := FdI_Wd hinv hWd0
    have hS9 : MdS c := FdI_S hinv hS90
    have hLp : MdLp c := FdI_Lp hinv hLp0
    have hG9 : MdG c := FdI_G hinv hG90
    have e40 : c 4 0 = c0 4 0 := congrFun (hinv.1 4 (by decide)) 0
    have e41 : c 4 1 = c0 4 1 := congrFun (hinv.1 4 (by decide)) 1
    refine T_iload (am_dec tX12_found_0 26 rfl) rfl ?_
    refine T_bipush 40 (am_dec tX12_found_0 27 rfl) rfl ⟨by decide, by decide⟩ ?_
    refine T_icmp_ge 153 (am_dec tX12_found_0 28 rfl) rfl (fun h44 => ?_) (fun h44 => by exfalso; omega)
    refine T_weak (ls' := [some (aR b), some (aI what), some (aI m), some (aI stp), some (aI on), none, none, none]) (am_sub_s (am_sub_s (am_sub_s (am_sub_s (am_sub_s (am_sub_n (am_sub_n (am_sub_n am_sub_nil)))))))) ?_
    exact k9 m stp on c q rfl rfl rfl rfl rfl hinv
  | succ n ih =>
    intro t m stp on c q hi9 h0i hinv k9
    obtain ⟨vl0, vu0⟩ := MdV_0 hV
    obtain ⟨vl1, vu1⟩ := MdV_1 hV
    obtain ⟨vl3, vu3⟩ := MdV_3 hV
    obtain ⟨vl13, vu13⟩ := MdV_13 hV
    have hV0 := hV
    have hWd0 := hWd
    have hS90 := hS9
    have hLp0 := hLp
    have hG90 := hG9
    have hDu0 := hDu
    have hV : MdV c := FdI_V hinv hV0
    have hWd : MdWd c := FdI_Wd hinv hWd0
    have hS9 : MdS c := FdI_S hinv hS90
    have hLp : MdLp c := FdI_Lp hinv hLp0
    have hG9 : MdG c := FdI_G hinv hG90
    have e40 : c 4 0 = c0 4 0 := congrFun (hinv.1 4 (by decide)) 0
    have e41 : c 4 1 = c0 4 1 := congrFun (hinv.1 4 (by decide)) 1
    refine T_iload (am_dec tX12_found_0 26 rfl) rfl ?_
    refine T_bipush 40 (am_dec tX12_found_0 27 rfl) rfl ⟨by decide, by decide⟩ ?_
    refine T_icmp_ge 153 (am_dec tX12_found_0 28 rfl) rfl (fun h44 => by exfalso; omega) (fun h44 => ?_)
    refine T_iconst 0 (am_dec tX12_found_0 29 rfl) rfl ⟨by decide, by decide⟩ ?_
    refine T_istore (ls' := [some (aR b), some (aI what), some (aI m), some (aI stp), some (aI on), some (aI t), some (aI 0), none]) (am_dec tX12_found_0 30 rfl) (by decide) rfl ?_
    refine L_k_found_50 hl what c0 t hV0 hWd0 hS90 hLp0 hDu0 hG90 (by omega) (by omega) _ rfl (c0 4 1).toNat 0 m stp on c q (by omega) (by omega) hinv (fun m_50 stp_50 on_50 c50 q50 hm_50 hstp_50 hon_50 hc50 hq50 hv50 => ?_)
    refine T_iinc (ls' := [some (aR b), some (aI what), some (aI m_50), some (aI stp_50), some (aI on_50), some (aI (t + 1)), none, none]) (t + 1) (am_dec tX12_found_1 38 rfl) rfl rfl ⟨by omega, by omega⟩ (by decide) rfl ?_
    refine T_goto 40 (am_dec tX12_found_1 39 rfl) rfl ?_
    have e9 : (g_k_found_40 c0) t (m, stp, on, c, q) = (m_50, stp_50, on_50, c50, q50) := (by have s9 := hm_50.symm; subst s9; have s9 := hstp_50.symm; subst s9; have s9 := hon_50.symm; subst s9; have s9 := hc50.symm; subst s9; have s9 := hq50.symm; subst s9; exact rfl)
    simp only [am_fold_s, e9] at k9
    exact ih (t + 1) m_50 stp_50 on_50 c50 q50 (by omega) (by omega) hv50 k9
def k_found (c : am_F) (q : am_F) (what : Int) : Int × am_F × am_F := (let z9 : Int := (k_in what 0 2); (let t12 : Int := (if z9 = 0 then 1 else 0); (let q22 : am_F := (k_refuse (am_put q 0 0 0) t12 1 2); (let z22 : Int := (if t12 = 0 then 0 else 1); (if z22 = 0 then (let m_40 : Int := (am_fold (g_k_found_40 c) 0 40 (0, (-1), (-1), c, q22)).1; (let stp_40 : Int := (am_fold (g_k_found_40 c) 0 40 (0, (-1), (-1), c, q22)).2.1; (let on_40 : Int := (am_fold (g_k_found_40 c) 0 40 (0, (-1), (-1), c, q22)).2.2.1; (let c40 : am_F := (am_fold (g_k_found_40 c) 0 40 (0, (-1), (-1), c, q22)).2.2.2.1; (let q40 : am_F := (am_fold (g_k_found_40 c) 0 40 (0, (-1), (-1), c, q22)).2.2.2.2; (let t159 : Int := (if what = 0 then m_40 else (if what = 1 then stp_40 else on_40)); (t159, (am_put c40 0 58 (-1)), q40))))))) else (0, c, q22))))))
theorem mk_found {S : am_S} {d u : Nat} {w : AH} {b : Nat} (hl : b + 735 ≤ w.length) {c : am_F} {q : am_F} (what : Int) (hV : MdV c) (hWd : MdWd c) (hS9 : MdS c) (hLp : MdLp c) (hDu : MdDu c) (hG9 : MdG c) (hd : 6 ≤ d) : am_Out S zX12_found d u [aR b, aI what] (mdW w b c q) (.inl (some (aI ((k_found c q what).1)))) (mdW w b ((k_found c q what).2.1) ((k_found c q what).2.2)) := by
  have key : ∀ Q : AO → AH → Prop, Q (.inl (some (aI ((k_found c q what).1)))) (mdW w b ((k_found c q what).2.1) ((k_found c q what).2.2)) → am_M S zX12_found d u [aR b, aI what] (mdW w b c q) Q := by
    intro Q hQ
    refine am_body rfl (by decide +kernel) rfl (am_cats_cons rfl ( am_cats_cons rfl (am_cats_nil))) (Nat.le_of_ble_eq_true rfl) (?_ : am_T _ _ _ _ _ 0 [some (aR b), some (aI what), none, none, none, none, none, none] [] (mdW w b c q))
    obtain ⟨vl0, vu0⟩ := MdV_0 hV
    obtain ⟨vl1, vu1⟩ := MdV_1 hV
    obtain ⟨vl3, vu3⟩ := MdV_3 hV
    obtain ⟨vl13, vu13⟩ := MdV_13 hV
    refine T_aload_n (am_dec tX12_found_0 0 rfl) rfl ?_
    refine T_iconst 0 (am_dec tX12_found_0 1 rfl) rfl ⟨by decide, by decide⟩ ?_
    refine T_putfield (fs' := mdO b (c 0) (am_up (q 0) 0 0)) 11 0 (am_dec tX12_found_0 2 rfl) flX12_160_11 rfl rfl rfl trivial (md_obj hl) (Nat.le_of_ble_eq_true rfl) rfl ?_
    refine am_wE (w2 := mdW w b c (am_put q 0 0 0)) (md_fq) ?_
    refine T_aload_n (am_dec tX12_found_0 3 rfl) rfl ?_
    refine T_iload_n (am_dec tX12_found_0 4 rfl) rfl ?_
    refine T_iconst 0 (am_dec tX12_found_0 5 rfl) rfl ⟨by decide, by decide⟩ ?_
    refine T_iconst 2 (am_dec tX12_found_0 6 rfl) rfl ⟨by decide, by decide⟩ ?_
    refine T_callS (as := [aI what, aI 0, aI 2]) rfl (am_dec tX12_found_0 7 rfl) lkX12_194 rfl (Nat.le_of_ble_eq_true rfl) (by omega) (mk_in (d := d - 1)  what 0 2   ) (fun _ => ?_)
    refine T_nm (fun z9 hz9 => ?_)
    have hb9 := k_in_b what 0 2
    rw [← hz9] at hb9
    have hs9 := k_in_s what 0 2
    rw [← hz9] at hs9
    have K12 : ∀ (t12 : Int), t12 = (if z9 = 0 then 1 else 0) →  am_T S zX12_found d u Q 20 [some (aR b), some (aI what), none, none, none, none, none, none] [aI t12, aR b] (mdW w b c (am_put q 0 0 0)) := by
      intro t12 ht12
      have hbt12 : t12 = 0 ∨ t12 = 1 := by
        rw [ht12]
        try dsimp only
        repeat' split
        all_goals first | exact Or.inl rfl | exact Or.inr rfl | apply k_in_b | apply k_isDigit_b | apply k_isSmall_b | apply k_bad_b | apply k_isIn_b | apply k_isStep_b | apply k_isFirst_b | apply k_isLine_b | apply k_seesBy_b | apply k_isWalker_b | apply k_seesOne_b | apply k_badTwo_b | apply k_sees_b | apply k_isCode_b | apply k_isLot_b | apply k_isShip_b | apply k_areRight_b | apply k_right_b | apply k_areSeeds_b | omega
      refine T_iconst 1 (am_dec tX12_found_0 12 rfl) rfl ⟨by decide, by decide⟩ ?_
      refine T_iconst 2 (am_dec tX12_found_0 13 rfl) rfl ⟨by decide, by decide⟩ ?_
      refine T_callV (as := [aI t12, aI 1, aI 2]) rfl (am_dec tX12_found_0 14 rfl) lkX12_275 (md_obj hl) rfl rfl (Nat.le_of_ble_eq_true rfl) (by omega) (mk_bad0 (d := d - 1) hl t12 1 2 (by omega) am_put_s (by omega)) (fun _ => ?_)
      refine T_nmH (W := fun x9 => mdW w b c x9) (v := (k_refuse (am_put q 0 0 0) t12 1 2)) (fun q22 hq22 => ?_)
      refine T_nm (fun z22 hz22 => ?_)
      have hq022 : t12 = 0 → q22 0 0 = 0 := fun h9 => by rw [hq22]; exact k_refuse_0 am_put_s h9
      refine T_if_eq 30 (am_dec tX12_found_0 15 rfl) rfl (fun h25 => ?_) (fun h25 => ?_)
      · refine T_iconst 0 (am_dec tX12_found_0 18 rfl) rfl ⟨by decide, by decide⟩ ?_
        refine T_istore_n (ls' := [some (aR b), some (aI what), some (aI 0), none, none, none, none, none]) (am_dec tX12_found_0 19 rfl) (by decide) rfl ?_
        refine T_iconst (-1) (am_dec tX12_found_0 20 rfl) rfl ⟨by decide, by decide⟩ ?_
        refine T_istore_n (ls' := [some (aR b), some (aI what), some (aI 0), some (aI (-1)), none, none, none, none]) (am_dec tX12_found_0 21 rfl) (by decide) rfl ?_
        refine T_iconst (-1) (am_dec tX12_found_0 22 rfl) rfl ⟨by decide, by decide⟩ ?_
        refine T_istore (ls' := [some (aR b), some (aI what), some (aI 0), some (aI (-1)), some (aI (-1)), none, none, none]) (am_dec tX12_found_0 23 rfl) (by decide) rfl ?_
        refine T_iconst 0 (am_dec tX12_found_0 24 rfl) rfl ⟨by decide, by decide⟩ ?_
        refine T_istore (ls' := [some (aR b), some (aI what), some (aI 0), some (aI (-1)), some (aI (-1)), some (aI 0), none, none]) (am_dec tX12_found_0 25 rfl) (by decide) rfl ?_
        refine L_k_found_40 hl what c hV hWd hS9 hLp hDu hG9  (by omega) _ rfl 40 0 0 (-1) (-1) c q22 (by omega) (by omega) FdI_r (fun m_40 stp_40 on_40 c40 q40 hm_40 hstp_40 hon_40 hc40 hq40 hv40 => ?_)
        refine T_aload_n (am_dec tX12_found_2 0 rfl) rfl ?_
        refine T_iconst (-1) (am_dec tX12_found_2 1 rfl) rfl ⟨by decide, by decide⟩ ?_
        refine T_putfield (fs' := mdO b (am_up (c40 0) 58 (-1)) (q40 0)) 11 58 (am_dec tX12_found_2 2 rfl) flX12_130_11 rfl rfl rfl trivial (md_obj hl) (Nat.le_of_ble_eq_true rfl) rfl ?_
        refine am_wE (w2 := mdW w b (am_put c40 0 58 (-1)) q40) (md_fc) ?_
        refine T_iload_n (am_dec tX12_found_2 3 rfl) rfl ?_
        have K159 : ∀ (t159 : Int), t159 = (if what = 0 then m_40 else (if what = 1 then stp_40 else on_40)) →  am_T S zX12_found d u Q 177 [none, none, none, none, none, none, none, none] [aI t159] (mdW w b (am_put c40 0 58 (-1)) q40) := by
          intro t159 ht159
          exact T_ireturn (am_dec tX12_found_2 13 rfl) rfl (am_tr (fun (x9 : Int × am_F × am_F) => Q (.inl (some (aI (x9.1)))) (mdW w b x9.2.1 x9.2.2)) (y := (t159, (am_put c40 0 58 (-1)), q40)) (show (k_found c q what) = (t159, (am_put c40 0 58 (-1)), q40) from (by have s9 := hz9.symm; subst s9; have s9 := ht12.symm; subst s9; have s9 := hq22.symm; subst s9; have s9 := hz22.symm; subst s9; have s9 := hm_40.symm; subst s9; have s9 := hstp_40.symm; subst s9; have s9 := hon_40.symm; subst s9; have s9 := hc40.symm; subst s9; have s9 := hq40.symm; subst s9; have s9 := ht159.symm; subst s9; exact (if_pos h25))) hQ)
        refine T_if_ne 166 (am_dec tX12_found_2 4 rfl) rfl (fun h159 => ?_) (fun h159 => ?_)
        · refine T_iload_n (am_dec tX12_found_2 7 rfl) rfl ?_
          refine T_iconst 1 (am_dec tX12_found_2 8 rfl) rfl ⟨by decide, by decide⟩ ?_
          have K168 : ∀ (t168 : Int), t168 = (if what = 1 then stp_40 else on_40) →  am_T S zX12_found d u Q 177 [none, none, none, none, none, none, none, none] [aI t168] (mdW w b (am_put c40 0 58 (-1)) q40) := by
            intro t168 ht168
            exact K159 _ (by have s9 := ht168.symm; subst s9; exact (if_neg h159).symm)
          refine T_icmp_ne 175 (am_dec tX12_found_2 9 rfl) rfl (fun h168 => ?_) (fun h168 => ?_)
          · refine T_iload (am_dec tX12_found_2 12 rfl) rfl ?_
            refine T_weak (ls' := [none, none, none, none, none, none, none, none]) (am_sub_n (am_sub_n (am_sub_n (am_sub_n (am_sub_n (am_sub_n (am_sub_n (am_sub_n am_sub_nil)))))))) ?_
            exact K168 _ (if_neg h168).symm
          · refine T_iload_n (am_dec tX12_found_2 10 rfl) rfl ?_
            refine T_goto 177 (am_dec tX12_found_2 11 rfl) rfl ?_
            refine T_weak (ls' := [none, none, none, none, none, none, none, none]) (am_sub_n (am_sub_n (am_sub_n (am_sub_n (am_sub_n (am_sub_n (am_sub_n (am_sub_n am_sub_nil)))))))) ?_
            exact K168 _ (if_pos h168).symm
        · refine T_iload_n (am_dec tX12_found_2 5 rfl) rfl ?_
          refine T_goto 177 (am_dec tX12_found_2 6 rfl) rfl ?_
          refine T_weak (ls' := [none, none, none, none, none, none, none, none]) (am_sub_n (am_sub_n (am_sub_n (am_sub_n (am_sub_n (am_sub_n (am_sub_n (am_sub_n am_sub_nil)))))))) ?_
          exact K159 _ (if_pos h159).symm
      · refine T_iconst 0 (am_dec tX12_found_0 16 rfl) rfl ⟨by decide, by decide⟩ ?_
        exact T_ireturn (am_dec tX12_found_0 17 rfl) rfl (am_tr (fun (x9 : Int × am_F × am_F) => Q (.inl (some (aI (x9.1)))) (mdW w b x9.2.1 x9.2.2)) (y := (0, c, q22)) (show (k_found c q what) = (0, c, q22) from (by have s9 := hz9.symm; subst s9; have s9 := ht12.symm; subst s9; have s9 := hq22.symm; subst s9; have s9 := hz22.symm; subst s9; exact (if_neg h25))) hQ)
    refine T_if_ne 19 (am_dec tX12_found_0 8 rfl) rfl (fun h12 => ?_) (fun h12 => ?_)
    · refine T_iconst 0 (am_dec tX12_found_0 11 rfl) rfl ⟨by decide, by decide⟩ ?_
      exact K12 _ (if_neg h12).symm
    · refine T_iconst 1 (am_dec tX12_found_0 9 rfl) rfl ⟨by decide, by decide⟩ ?_
      refine T_goto 20 (am_dec tX12_found_0 10 rfl) rfl ?_
      exact K12 _ (if_pos h12).symm
  exact key _ ⟨rfl, rfl⟩
