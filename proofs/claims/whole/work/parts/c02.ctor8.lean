/-! constructors: the class, its walk -/
def qa0 : AH := []
theorem qa0_len : qa0.length = 0 := rfl
def qa1 : AH := qa0 ++ hbL 1 (c_reset z0F)
theorem qa1_len : qa1.length = 20 := by
  have h1 := qa0_len
  have h2 : (hbL 1 (c_reset z0F)).length = 20 := hbL_len
  rw [show qa1 = qa0 ++ hbL 1 (c_reset z0F) from rfl, List.length_append]
  omega
def qa2 : AH := qa1 ++ hbL 21 (c_reset z0F)
theorem qa2_len : qa2.length = 40 := by
  have h1 := qa1_len
  have h2 : (hbL 21 (c_reset z0F)).length = 20 := hbL_len
  rw [show qa2 = qa1 ++ hbL 21 (c_reset z0F) from rfl, List.length_append]
  omega
def qa3 : AH := qa2 ++ ruL 41
theorem qa3_len : qa3.length = 45 := by
  have h1 := qa2_len
  have h2 : (ruL 41).length = 5 := rfl
  rw [show qa3 = qa2 ++ ruL 41 from rfl, List.length_append]
  omega
def qa4 : AH := qa3 ++ ruL 46
theorem qa4_len : qa4.length = 50 := by
  have h1 := qa3_len
  have h2 : (ruL 46).length = 5 := rfl
  rw [show qa4 = qa3 ++ ruL 46 from rfl, List.length_append]
  omega
def qa5 : AH := qa4 ++ [cP 0 600 (fun _ => 0)]
theorem qa5_len : qa5.length = 51 := by
  have h1 := qa4_len
  have h2 : ([cP 0 600 (fun _ => 0)]).length = 1 := rfl
  rw [show qa5 = qa4 ++ [cP 0 600 (fun _ => 0)] from rfl, List.length_append]
  omega
def qa6 : AH := qa5 ++ [cO 5 [aR 51, aI 0, aI 0, aI 0, aI 0, aI 0, aN, aI 0, aI 0, aI 0, aI 0]]
theorem qa6_len : qa6.length = 52 := by
  have h1 := qa5_len
  have h2 : ([cO 5 [aR 51, aI 0, aI 0, aI 0, aI 0, aI 0, aN, aI 0, aI 0, aI 0, aI 0]]).length = 1 := rfl
  rw [show qa6 = qa5 ++ [cO 5 [aR 51, aI 0, aI 0, aI 0, aI 0, aI 0, aN, aI 0, aI 0, aI 0, aI 0]] from rfl, List.length_append]
  omega
def qa7 : AH := qa6 ++ [cO 7 [aR 51, aI 0, aI 0, aI 0, aI 0, aI 0, aN]]
theorem qa7_len : qa7.length = 53 := by
  have h1 := qa6_len
  have h2 : ([cO 7 [aR 51, aI 0, aI 0, aI 0, aI 0, aI 0, aN]]).length = 1 := rfl
  rw [show qa7 = qa6 ++ [cO 7 [aR 51, aI 0, aI 0, aI 0, aI 0, aI 0, aN]] from rfl, List.length_append]
  omega
def qa8 : AH := qa7 ++ rnL 54 1 (f_begin (c_reset z0F) z0F)
theorem qa8_len : qa8.length = 63 := by
  have h1 := qa7_len
  have h2 : (rnL 54 1 (f_begin (c_reset z0F) z0F)).length = 10 := rnL_len
  rw [show qa8 = qa7 ++ rnL 54 1 (f_begin (c_reset z0F) z0F) from rfl, List.length_append]
  omega
def qa9 : AH := qa8 ++ rnL 64 1 (f_begin (c_reset z0F) z0F)
theorem qa9_len : qa9.length = 73 := by
  have h1 := qa8_len
  have h2 : (rnL 64 1 (f_begin (c_reset z0F) z0F)).length = 10 := rnL_len
  rw [show qa9 = qa8 ++ rnL 64 1 (f_begin (c_reset z0F) z0F) from rfl, List.length_append]
  omega
def qa10 : AH := qa9 ++ eyL 74
theorem qa10_len : qa10.length = 76 := by
  have h1 := qa9_len
  have h2 : (eyL 74).length = 3 := rfl
  rw [show qa10 = qa9 ++ eyL 74 from rfl, List.length_append]
  omega
def qa11 : AH := qa10 ++ auL 77
theorem qa11_len : qa11.length = 82 := by
  have h1 := qa10_len
  have h2 : (auL 77).length = 6 := rfl
  rw [show qa11 = qa10 ++ auL 77 from rfl, List.length_append]
  omega
def qa12 : AH := qa11 ++ [cO 1 [aI 0, aI 0, aI 0, aI 0, aI 0, aI 0, aI 0]]
theorem qa12_len : qa12.length = 83 := by
  have h1 := qa11_len
  have h2 : ([cO 1 [aI 0, aI 0, aI 0, aI 0, aI 0, aI 0, aI 0]]).length = 1 := rfl
  rw [show qa12 = qa11 ++ [cO 1 [aI 0, aI 0, aI 0, aI 0, aI 0, aI 0, aI 0]] from rfl, List.length_append]
  omega
def qa13 : AH := qa12 ++ tbL 84 12
theorem qa13_len : qa13.length = 85 := by
  have h1 := qa12_len
  have h2 : (tbL 84 12).length = 2 := rfl
  rw [show qa13 = qa12 ++ tbL 84 12 from rfl, List.length_append]
  omega
def qa14 : AH := qa13 ++ tbL 86 8
theorem qa14_len : qa14.length = 87 := by
  have h1 := qa13_len
  have h2 : (tbL 86 8).length = 2 := rfl
  rw [show qa14 = qa13 ++ tbL 86 8 from rfl, List.length_append]
  omega
theorem qa7_e : qa7 = hbL 1 (c_reset z0F) ++ (hbL 21 (c_reset z0F) ++ (ruL 41 ++ (ruL 46 ++ ([cP 0 600 (fun _ => 0)] ++ ([cO 5 [aR 51, aI 0, aI 0, aI 0, aI 0, aI 0, aN, aI 0, aI 0, aI 0, aI 0]] ++ ([cO 7 [aR 51, aI 0, aI 0, aI 0, aI 0, aI 0, aN]])))))) := by
  unfold qa7 qa6 qa5 qa4 qa3 qa2 qa1 qa0
  simp only [List.nil_append, List.append_assoc]
theorem qa8_e : qa8 = hbL 1 (c_reset z0F) ++ (hbL 21 (c_reset z0F) ++ (ruL 41 ++ (ruL 46 ++ ([cP 0 600 (fun _ => 0)] ++ ([cO 5 [aR 51, aI 0, aI 0, aI 0, aI 0, aI 0, aN, aI 0, aI 0, aI 0, aI 0]] ++ ([cO 7 [aR 51, aI 0, aI 0, aI 0, aI 0, aI 0, aN]] ++ (rnL 54 1 (f_begin (c_reset z0F) z0F)))))))) := by
  unfold qa8 qa7 qa6 qa5 qa4 qa3 qa2 qa1 qa0
  simp only [List.nil_append, List.append_assoc]
theorem qa_Hb {a : AC} {h : am_F} {R r : AH} (hR : R = hbL 1 h ++ r) : Hb (a :: R) 1 h := fun k hk => by
  rw [hR, Nat.add_comm, List.getElem?_cons_succ, List.getElem?_append_left (by rw [hbL_len]; exact hk)]
  unfold hbL
  rw [List.getElem?_map, List.getElem?_range hk]
  rfl
theorem i11_iter {S : am_S} {d u : Nat} {Q : AO → AH → Prop} {fs : List AV} {r L : AH} {f : Nat → Option Nat} {i : Int} {k9 : Nat} (hi : 0 ≤ i ∧ i < 3) (hr : r.length = 87) (hf : fs[16]? = some (aR 88)) (hk : 89 + L.length = k9) (hu : 6 ≤ u) (hd : 3 ≤ d)
    (kk : am_T S zX11_init d (u - 1 - 5) Q 191 [some (aR 0), some (aI (i + 1))] [] (cO 10 fs :: (r ++ (cQ 4 3 (am_upQ f i.toNat (some k9)) :: (L ++ imL k9))))) : am_T S zX11_init d u Q 191 [some (aR 0), some (aI i)] [] (cO 10 fs :: (r ++ (cQ 4 3 f :: L))) := by
  have hlen : (cO 10 fs :: (r ++ (cQ 4 3 f :: L))).length = k9 := by
    rw [List.length_cons, List.length_append, List.length_cons]
    omega
  have h88 : ((cO 10 fs :: (r ++ (cQ 4 3 f :: L))) ++ imL k9)[88]? = some (cQ 4 3 f) := by
    show (cO 10 fs :: ((r ++ (cQ 4 3 f :: L)) ++ imL k9))[87 + 1]? = _
    rw [List.getElem?_cons_succ, List.append_assoc, List.getElem?_append_right (by omega), show 87 - r.length = 0 by omega]
    rfl
  have hset : ∀ x9 : AC, ((cO 10 fs :: (r ++ (cQ 4 3 f :: L))) ++ imL k9).set 88 x9 = cO 10 fs :: (r ++ (x9 :: (L ++ imL k9))) := fun x9 => by
    show (cO 10 fs :: ((r ++ (cQ 4 3 f :: L)) ++ imL k9)).set (87 + 1) x9 = _
    rw [List.set_cons_succ, List.append_assoc, List.set_append_right _ _ (by omega), show 87 - r.length = 0 by omega]
    rfl
  have h89 : ((cO 10 fs :: (r ++ (cQ 4 3 f :: L))) ++ imL k9)[k9]? = some (cO 4 [aR (k9 + 1), aR (k9 + 2), aR (k9 + 4)]) := by
    rw [List.getElem?_append_right (by omega), show k9 - (cO 10 fs :: (r ++ (cQ 4 3 f :: L))).length = 0 by omega]
    rfl
  refine T_iload_n (am_dec tX11_init_2 10 rfl) rfl ?_
  refine T_iconst 3 (am_dec tX11_init_2 11 rfl) rfl ⟨by decide, by decide⟩ ?_
  refine T_icmp_ge 215 (am_dec tX11_init_2 12 rfl) rfl (fun h => absurd h (by omega)) (fun _ => ?_)
  refine T_aload_n (am_dec tX11_init_2 13 rfl) rfl ?_
  refine T_getfield 10 16 (am_dec tX11_init_2 14 rfl) flX11_100_10 rfl hf ?_
  refine T_iload_n (am_dec tX11_init_2 15 rfl) rfl ?_
  refine D_new (k9 := k9) (fs := [aN, aN, aN]) 4 (am_dec tX11_init_2 16 rfl) rfl cl4 (am_m2 153 rfl rfl) (am_m2 155 rfl rfl) (am_m1 15 rfl rfl) (by
      intro j hj
      have e : j = 0 ∨ j = 1 ∨ j = 2 := by
        change j < 3 at hj
        omega
      rcases e with e | e | e <;> subst e <;> exact ⟨_, rfl, fun _ _ => by rfl⟩) (by
      intro x9 hx
      simp only [List.mem_cons, List.not_mem_nil, or_false] at hx
      rcases hx with e | e | e <;> subst e <;> trivial) (by decide) (by omega) hlen ?_
  refine T_dup (am_dec tX11_init_2 17 rfl) rfl ?_
  refine T_callI (as := []) rfl (am_dec tX11_init_2 18 rfl) lkX11_104 rfl (Nat.le_of_ble_eq_true rfl) (by omega) (by omega) (mi_image' (d := d - 1) hlen (by omega)) (fun _ => ?_)
  refine T_aastore (a := 88) (b := k9) (n := 3) (f := f) (fs := [aR (k9 + 1), aR (k9 + 2), aR (k9 + 4)]) (am_dec tX11_init_2 19 rfl) h88 h89 hi.1 (by omega) ?_
  rw [hset]
  refine T_iinc (ls' := [some (aR 0), some (aI (i + 1))]) (i + 1) (am_dec tX11_init_2 20 rfl) rfl rfl ⟨by omega, by omega⟩ (by decide) rfl ?_
  refine T_goto 191 (am_dec tX11_init_2 21 rfl) rfl ?_
  exact kk
def W11 : AH := cO 10 [aR 1, aR 21, aR 41, aR 46, aR 52, aR 53, aR 51, aI 0, aI (-1), aR 54, aR 64, aR 74, aR 77, aR 83, aR 84, aR 86, aR 88, aI 0, aR 107, aR 108] :: (((qa14 ++ (cQ 4 3 (am_upQ (am_upQ (am_upQ (fun _ => none) 0 (some 89)) 1 (some 95)) 2 (some 101)) :: ((([] ++ imL 89) ++ imL 95) ++ imL 101))) ++ [cP 0 3 (fun _ => 0)]) ++ [cP 0 100 (fun _ => 0)])
theorem mi_fog {S : am_S} {d : Nat} (hd : 4 ≤ d) : am_Out S zX11_init d 108 [aR 0] [cO 10 [aN, aN, aN, aN, aN, aN, aN, aI 0, aI 0, aN, aN, aN, aN, aN, aN, aN, aN, aI 0, aN, aN]] (.inl none) W11 := by
  refine am_body rfl (by decide +kernel) rfl (am_cats_cons rfl (am_cats_nil)) (Nat.le_of_ble_eq_true rfl) (?_ : am_T _ _ _ _ _ 0 [some (aR 0), none] [] (cO 10 [aN, aN, aN, aN, aN, aN, aN, aI 0, aI 0, aN, aN, aN, aN, aN, aN, aN, aN, aI 0, aN, aN] :: qa0))
  refine T_aload_n (am_dec tX11_init_0 0 rfl) rfl ?_
  refine T_objInit (am_dec tX11_init_0 1 rfl) (am_m1 33 rfl rfl) (am_m1 34 rfl rfl) (am_m1 35 rfl rfl) (by decide) (by omega) ?_
  refine T_aload_n (am_dec tX11_init_0 2 rfl) rfl ?_
  refine D_new (k9 := 1) (fs := [aI 0, aI 0, aI 0, aN, aN, aN, aN, aN, aN, aN, aN, aN, aN, aN]) 3 (am_dec tX11_init_0 3 rfl) rfl cl3 (am_m1 36 rfl rfl) (am_m1 37 rfl rfl) (am_m1 2 rfl rfl) (by
    intro j hj
    have e : j = 0 ∨ j = 1 ∨ j = 2 ∨ j = 3 ∨ j = 4 ∨ j = 5 ∨ j = 6 ∨ j = 7 ∨ j = 8 ∨ j = 9 ∨ j = 10 ∨ j = 11 ∨ j = 12 ∨ j = 13 := by
      change j < 14 at hj
      omega
    rcases e with e | e | e | e | e | e | e | e | e | e | e | e | e | e <;> subst e <;> exact ⟨_, rfl, fun _ _ => by rfl⟩) (by
    intro x9 hx
    simp only [List.mem_cons, List.not_mem_nil, or_false] at hx
    rcases hx with e | e | e | e | e | e | e | e | e | e | e | e | e | e <;> subst e <;> trivial) (by decide) (by omega) (by rw [List.length_cons, qa0_len]) ?_
  refine T_dup (am_dec tX11_init_0 4 rfl) rfl ?_
  refine T_callI (as := []) rfl (am_dec tX11_init_0 5 rfl) lkX11_9 rfl (Nat.le_of_ble_eq_true rfl) (by omega) (by omega) (mi_harbour' (d := d - 1) (by rw [List.length_cons, qa0_len]) (by omega)) (fun _ => ?_)
  refine D_put (fs' := [aR 1, aN, aN, aN, aN, aN, aN, aI 0, aI 0, aN, aN, aN, aN, aN, aN, aN, aN, aI 0, aN, aN]) 10 0 (am_dec tX11_init_0 6 rfl) flX11_10_10 rfl rfl rfl trivial (Nat.le_of_ble_eq_true rfl) rfl (?_ : am_T _ _ _ _ _ _ _ _ (cO 10 [aR 1, aN, aN, aN, aN, aN, aN, aI 0, aI 0, aN, aN, aN, aN, aN, aN, aN, aN, aI 0, aN, aN] :: qa1))
  refine T_aload_n (am_dec tX11_init_0 7 rfl) rfl ?_
  refine D_new (k9 := 21) (fs := [aI 0, aI 0, aI 0, aN, aN, aN, aN, aN, aN, aN, aN, aN, aN, aN]) 3 (am_dec tX11_init_0 8 rfl) rfl cl3 (am_m1 36 rfl rfl) (am_m1 37 rfl rfl) (am_m1 2 rfl rfl) (by
    intro j hj
    have e : j = 0 ∨ j = 1 ∨ j = 2 ∨ j = 3 ∨ j = 4 ∨ j = 5 ∨ j = 6 ∨ j = 7 ∨ j = 8 ∨ j = 9 ∨ j = 10 ∨ j = 11 ∨ j = 12 ∨ j = 13 := by
      change j < 14 at hj
      omega
    rcases e with e | e | e | e | e | e | e | e | e | e | e | e | e | e <;> subst e <;> exact ⟨_, rfl, fun _ _ => by rfl⟩) (by
    intro x9 hx
    simp only [List.mem_cons, List.not_mem_nil, or_false] at hx
    rcases hx with e | e | e | e | e | e | e | e | e | e | e | e | e | e <;> subst e <;> trivial) (by decide) (by omega) (by rw [List.length_cons, qa1_len]) ?_
  refine T_dup (am_dec tX11_init_0 9 rfl) rfl ?_
  refine T_callI (as := []) rfl (am_dec tX11_init_0 10 rfl) lkX11_9 rfl (Nat.le_of_ble_eq_true rfl) (by omega) (by omega) (mi_harbour' (d := d - 1) (by rw [List.length_cons, qa1_len]) (by omega)) (fun _ => ?_)
  refine D_put (fs' := [aR 1, aR 21, aN, aN, aN, aN, aN, aI 0, aI 0, aN, aN, aN, aN, aN, aN, aN, aN, aI 0, aN, aN]) 10 1 (am_dec tX11_init_0 11 rfl) flX11_16_10 rfl rfl rfl trivial (Nat.le_of_ble_eq_true rfl) rfl (?_ : am_T _ _ _ _ _ _ _ _ (cO 10 [aR 1, aR 21, aN, aN, aN, aN, aN, aI 0, aI 0, aN, aN, aN, aN, aN, aN, aN, aN, aI 0, aN, aN] :: qa2))
  refine T_aload_n (am_dec tX11_init_0 12 rfl) rfl ?_
  refine D_new (k9 := 41) (fs := [aI 0, aI 0, aN, aN, aN, aN]) 6 (am_dec tX11_init_0 13 rfl) rfl cl6 (am_m1 157 rfl rfl) (am_m1 158 rfl rfl) (am_m1 6 rfl rfl) (by
    intro j hj
    have e : j = 0 ∨ j = 1 ∨ j = 2 ∨ j = 3 ∨ j = 4 ∨ j = 5 := by
      change j < 6 at hj
      omega
    rcases e with e | e | e | e | e | e <;> subst e <;> exact ⟨_, rfl, fun _ _ => by rfl⟩) (by
    intro x9 hx
    simp only [List.mem_cons, List.not_mem_nil, or_false] at hx
    rcases hx with e | e | e | e | e | e <;> subst e <;> trivial) (by decide) (by omega) (by rw [List.length_cons, qa2_len]) ?_
  refine T_dup (am_dec tX11_init_0 14 rfl) rfl ?_
  refine T_callI (as := []) rfl (am_dec tX11_init_0 15 rfl) lkX11_21 rfl (Nat.le_of_ble_eq_true rfl) (by omega) (by omega) (mi_rule' (d := d - 1) (by rw [List.length_cons, qa2_len]) (by omega)) (fun _ => ?_)
  refine D_put (fs' := [aR 1, aR 21, aR 41, aN, aN, aN, aN, aI 0, aI 0, aN, aN, aN, aN, aN, aN, aN, aN, aI 0, aN, aN]) 10 2 (am_dec tX11_init_0 16 rfl) flX11_22_10 rfl rfl rfl trivial (Nat.le_of_ble_eq_true rfl) rfl (?_ : am_T _ _ _ _ _ _ _ _ (cO 10 [aR 1, aR 21, aR 41, aN, aN, aN, aN, aI 0, aI 0, aN, aN, aN, aN, aN, aN, aN, aN, aI 0, aN, aN] :: qa3))
  refine T_aload_n (am_dec tX11_init_0 17 rfl) rfl ?_
  refine D_new (k9 := 46) (fs := [aI 0, aI 0, aN, aN, aN, aN]) 6 (am_dec tX11_init_0 18 rfl) rfl cl6 (am_m1 157 rfl rfl) (am_m1 158 rfl rfl) (am_m1 6 rfl rfl) (by
    intro j hj
    have e : j = 0 ∨ j = 1 ∨ j = 2 ∨ j = 3 ∨ j = 4 ∨ j = 5 := by
      change j < 6 at hj
      omega
    rcases e with e | e | e | e | e | e <;> subst e <;> exact ⟨_, rfl, fun _ _ => by rfl⟩) (by
    intro x9 hx
    simp only [List.mem_cons, List.not_mem_nil, or_false] at hx
    rcases hx with e | e | e | e | e | e <;> subst e <;> trivial) (by decide) (by omega) (by rw [List.length_cons, qa3_len]) ?_
  refine T_dup (am_dec tX11_init_0 19 rfl) rfl ?_
  refine T_callI (as := []) rfl (am_dec tX11_init_0 20 rfl) lkX11_21 rfl (Nat.le_of_ble_eq_true rfl) (by omega) (by omega) (mi_rule' (d := d - 1) (by rw [List.length_cons, qa3_len]) (by omega)) (fun _ => ?_)
  refine D_put (fs' := [aR 1, aR 21, aR 41, aR 46, aN, aN, aN, aI 0, aI 0, aN, aN, aN, aN, aN, aN, aN, aN, aI 0, aN, aN]) 10 3 (am_dec tX11_init_0 21 rfl) flX11_26_10 rfl rfl rfl trivial (Nat.le_of_ble_eq_true rfl) rfl (?_ : am_T _ _ _ _ _ _ _ _ (cO 10 [aR 1, aR 21, aR 41, aR 46, aN, aN, aN, aI 0, aI 0, aN, aN, aN, aN, aN, aN, aN, aN, aI 0, aN, aN] :: qa4))
  refine T_aload_n (am_dec tX11_init_0 22 rfl) rfl ?_
  refine T_sipush 600 (am_dec tX11_init_0 23 rfl) rfl ⟨by decide, by decide⟩ ?_
  refine D_newI (k9 := 51) (am_dec tX11_init_0 24 rfl) (am_m1 68 rfl rfl) (by decide) (by decide) (by omega) (by rw [List.length_cons, qa4_len]) ?_
  refine D_putF (fs' := [aR 1, aR 21, aR 41, aR 46, aN, aN, aR 51, aI 0, aI 0, aN, aN, aN, aN, aN, aN, aN, aN, aI 0, aN, aN]) 10 6 (am_dec tX11_init_0 25 rfl) flX11_29_10 rfl rfl rfl rfl rfl trivial (Nat.le_of_ble_eq_true rfl) rfl (?_ : am_T _ _ _ _ _ _ _ _ (cO 10 [aR 1, aR 21, aR 41, aR 46, aN, aN, aR 51, aI 0, aI 0, aN, aN, aN, aN, aN, aN, aN, aN, aI 0, aN, aN] :: qa5))
  refine T_aload_n (am_dec tX11_init_0 26 rfl) rfl ?_
  refine D_new (k9 := 52) (fs := [aN, aI 0, aI 0, aI 0, aI 0, aI 0, aN, aI 0, aI 0, aI 0, aI 0]) 5 (am_dec tX11_init_0 27 rfl) rfl cl5 (am_m1 183 rfl rfl) (am_m1 184 rfl rfl) (am_m1 8 rfl rfl) (by
    intro j hj
    have e : j = 0 ∨ j = 1 ∨ j = 2 ∨ j = 3 ∨ j = 4 ∨ j = 5 ∨ j = 6 ∨ j = 7 ∨ j = 8 ∨ j = 9 ∨ j = 10 := by
      change j < 11 at hj
      omega
    rcases e with e | e | e | e | e | e | e | e | e | e | e <;> subst e <;> exact ⟨_, rfl, fun _ _ => by rfl⟩) (by
    intro x9 hx
    simp only [List.mem_cons, List.not_mem_nil, or_false] at hx
    rcases hx with e | e | e | e | e | e | e | e | e | e | e <;> subst e <;> trivial) (by decide) (by omega) (by rw [List.length_cons, qa5_len]) ?_
  refine T_dup (am_dec tX11_init_0 28 rfl) rfl ?_
  refine T_aload_n (am_dec tX11_init_0 29 rfl) rfl ?_
  refine T_getfield 10 6 (am_dec tX11_init_0 30 rfl) flX11_29_10 rfl rfl ?_
  refine T_callI (as := [aR 51]) rfl (am_dec tX11_init_0 31 rfl) lkX11_35 rfl (Nat.le_of_ble_eq_true rfl) (by omega) (by omega) (mi_portReader' (d := d - 1) 51 (by rw [List.length_cons, qa5_len]) (by omega)) (fun _ => ?_)
  refine D_putF (fs' := [aR 1, aR 21, aR 41, aR 46, aR 52, aN, aR 51, aI 0, aI 0, aN, aN, aN, aN, aN, aN, aN, aN, aI 0, aN, aN]) 10 4 (am_dec tX11_init_0 32 rfl) flX11_38_10 rfl rfl rfl rfl rfl trivial (Nat.le_of_ble_eq_true rfl) rfl (?_ : am_T _ _ _ _ _ _ _ _ (cO 10 [aR 1, aR 21, aR 41, aR 46, aR 52, aN, aR 51, aI 0, aI 0, aN, aN, aN, aN, aN, aN, aN, aN, aI 0, aN, aN] :: qa6))
  refine T_aload_n (am_dec tX11_init_0 33 rfl) rfl ?_
  refine D_new (k9 := 53) (fs := [aN, aI 0, aI 0, aI 0, aI 0, aI 0, aN]) 7 (am_dec tX11_init_0 34 rfl) rfl cl7 (am_m1 238 rfl rfl) (am_m1 239 rfl rfl) (am_m1 9 rfl rfl) (by
    intro j hj
    have e : j = 0 ∨ j = 1 ∨ j = 2 ∨ j = 3 ∨ j = 4 ∨ j = 5 ∨ j = 6 := by
      change j < 7 at hj
      omega
    rcases e with e | e | e | e | e | e | e <;> subst e <;> exact ⟨_, rfl, fun _ _ => by rfl⟩) (by
    intro x9 hx
    simp only [List.mem_cons, List.not_mem_nil, or_false] at hx
    rcases hx with e | e | e | e | e | e | e <;> subst e <;> trivial) (by decide) (by omega) (by rw [List.length_cons, qa6_len]) ?_
  refine T_dup (am_dec tX11_init_0 35 rfl) rfl ?_
  refine T_aload_n (am_dec tX11_init_0 36 rfl) rfl ?_
  refine T_getfield 10 6 (am_dec tX11_init_0 37 rfl) flX11_29_10 rfl rfl ?_
  refine T_callI (as := [aR 51]) rfl (am_dec tX11_init_0 38 rfl) lkX11_44 rfl (Nat.le_of_ble_eq_true rfl) (by omega) (by omega) (mi_ruleReader' (d := d - 1) 51 (by rw [List.length_cons, qa6_len]) (by omega)) (fun _ => ?_)
  refine D_putF (fs' := [aR 1, aR 21, aR 41, aR 46, aR 52, aR 53, aR 51, aI 0, aI 0, aN, aN, aN, aN, aN, aN, aN, aN, aI 0, aN, aN]) 10 5 (am_dec tX11_init_0 39 rfl) flX11_45_10 rfl rfl rfl rfl rfl trivial (Nat.le_of_ble_eq_true rfl) rfl (?_ : am_T _ _ _ _ _ _ _ _ (cO 10 [aR 1, aR 21, aR 41, aR 46, aR 52, aR 53, aR 51, aI 0, aI 0, aN, aN, aN, aN, aN, aN, aN, aN, aI 0, aN, aN] :: qa7))
  refine T_aload_n (am_dec tX11_init_1 0 rfl) rfl ?_
  refine T_iconst (-1) (am_dec tX11_init_1 1 rfl) rfl ⟨by decide, by decide⟩ ?_
  refine T_putfield (fs' := [aR 1, aR 21, aR 41, aR 46, aR 52, aR 53, aR 51, aI 0, aI (-1), aN, aN, aN, aN, aN, aN, aN, aN, aI 0, aN, aN]) 10 8 (am_dec tX11_init_1 2 rfl) flX11_49_10 rfl rfl rfl trivial rfl (Nat.le_of_ble_eq_true rfl) rfl (?_ : am_T _ _ _ _ _ _ _ _ (cO 10 [aR 1, aR 21, aR 41, aR 46, aR 52, aR 53, aR 51, aI 0, aI (-1), aN, aN, aN, aN, aN, aN, aN, aN, aI 0, aN, aN] :: qa7))
  refine T_aload_n (am_dec tX11_init_1 3 rfl) rfl ?_
  refine D_new (k9 := 54) (fs := [aN, aI 0, aI 0, aI 0, aI 0, aI 0, aN, aN, aN, aN, aN, aN, aN, aN, aN]) 8 (am_dec tX11_init_1 4 rfl) rfl cl8 (am_m2 14 rfl rfl) (am_m2 15 rfl rfl) (am_m1 10 rfl rfl) (by
    intro j hj
    have e : j = 0 ∨ j = 1 ∨ j = 2 ∨ j = 3 ∨ j = 4 ∨ j = 5 ∨ j = 6 ∨ j = 7 ∨ j = 8 ∨ j = 9 ∨ j = 10 ∨ j = 11 ∨ j = 12 ∨ j = 13 ∨ j = 14 := by
      change j < 15 at hj
      omega
    rcases e with e | e | e | e | e | e | e | e | e | e | e | e | e | e | e <;> subst e <;> exact ⟨_, rfl, fun _ _ => by rfl⟩) (by
    intro x9 hx
    simp only [List.mem_cons, List.not_mem_nil, or_false] at hx
    rcases hx with e | e | e | e | e | e | e | e | e | e | e | e | e | e | e <;> subst e <;> trivial) (by decide) (by omega) (by rw [List.length_cons, qa7_len]) ?_
  refine T_dup (am_dec tX11_init_1 5 rfl) rfl ?_
  refine T_aload_n (am_dec tX11_init_1 6 rfl) rfl ?_
  refine T_getfield 10 0 (am_dec tX11_init_1 7 rfl) flX11_10_10 rfl rfl ?_
  refine T_callI (as := [aR 1]) rfl (am_dec tX11_init_1 8 rfl) lkX11_55 rfl (Nat.le_of_ble_eq_true rfl) (by omega) (by omega) (mi_run' (d := d - 1) (c := 1) (h := c_reset z0F) (by rw [List.length_cons, qa7_len]) (qa_Hb qa7_e) (by decide) z0_HbV z0_FsB (by omega)) (fun _ => ?_)
  refine D_putF (fs' := [aR 1, aR 21, aR 41, aR 46, aR 52, aR 53, aR 51, aI 0, aI (-1), aR 54, aN, aN, aN, aN, aN, aN, aN, aI 0, aN, aN]) 10 9 (am_dec tX11_init_1 9 rfl) flX11_58_10 rfl rfl rfl rfl rfl trivial (Nat.le_of_ble_eq_true rfl) rfl (?_ : am_T _ _ _ _ _ _ _ _ (cO 10 [aR 1, aR 21, aR 41, aR 46, aR 52, aR 53, aR 51, aI 0, aI (-1), aR 54, aN, aN, aN, aN, aN, aN, aN, aI 0, aN, aN] :: qa8))
  refine T_aload_n (am_dec tX11_init_1 10 rfl) rfl ?_
  refine D_new (k9 := 64) (fs := [aN, aI 0, aI 0, aI 0, aI 0, aI 0, aN, aN, aN, aN, aN, aN, aN, aN, aN]) 8 (am_dec tX11_init_1 11 rfl) rfl cl8 (am_m2 14 rfl rfl) (am_m2 15 rfl rfl) (am_m1 10 rfl rfl) (by
    intro j hj
    have e : j = 0 ∨ j = 1 ∨ j = 2 ∨ j = 3 ∨ j = 4 ∨ j = 5 ∨ j = 6 ∨ j = 7 ∨ j = 8 ∨ j = 9 ∨ j = 10 ∨ j = 11 ∨ j = 12 ∨ j = 13 ∨ j = 14 := by
      change j < 15 at hj
      omega
    rcases e with e | e | e | e | e | e | e | e | e | e | e | e | e | e | e <;> subst e <;> exact ⟨_, rfl, fun _ _ => by rfl⟩) (by
    intro x9 hx
    simp only [List.mem_cons, List.not_mem_nil, or_false] at hx
    rcases hx with e | e | e | e | e | e | e | e | e | e | e | e | e | e | e <;> subst e <;> trivial) (by decide) (by omega) (by rw [List.length_cons, qa8_len]) ?_
  refine T_dup (am_dec tX11_init_1 12 rfl) rfl ?_
  refine T_aload_n (am_dec tX11_init_1 13 rfl) rfl ?_
  refine T_getfield 10 0 (am_dec tX11_init_1 14 rfl) flX11_10_10 rfl rfl ?_
  refine T_callI (as := [aR 1]) rfl (am_dec tX11_init_1 15 rfl) lkX11_55 rfl (Nat.le_of_ble_eq_true rfl) (by omega) (by omega) (mi_run' (d := d - 1) (c := 1) (h := c_reset z0F) (by rw [List.length_cons, qa8_len]) (qa_Hb qa8_e) (by decide) z0_HbV z0_FsB (by omega)) (fun _ => ?_)
  refine D_putF (fs' := [aR 1, aR 21, aR 41, aR 46, aR 52, aR 53, aR 51, aI 0, aI (-1), aR 54, aR 64, aN, aN, aN, aN, aN, aN, aI 0, aN, aN]) 10 10 (am_dec tX11_init_1 16 rfl) flX11_62_10 rfl rfl rfl rfl rfl trivial (Nat.le_of_ble_eq_true rfl) rfl (?_ : am_T _ _ _ _ _ _ _ _ (cO 10 [aR 1, aR 21, aR 41, aR 46, aR 52, aR 53, aR 51, aI 0, aI (-1), aR 54, aR 64, aN, aN, aN, aN, aN, aN, aI 0, aN, aN] :: qa9))
  refine T_aload_n (am_dec tX11_init_1 17 rfl) rfl ?_
  refine D_new (k9 := 74) (fs := [aN, aN]) 2 (am_dec tX11_init_1 18 rfl) rfl cl2 (am_m2 80 rfl rfl) (am_m2 81 rfl rfl) (am_m1 12 rfl rfl) (by
    intro j hj
    have e : j = 0 ∨ j = 1 := by
      change j < 2 at hj
      omega
    rcases e with e | e <;> subst e <;> exact ⟨_, rfl, fun _ _ => by rfl⟩) (by
    intro x9 hx
    simp only [List.mem_cons, List.not_mem_nil, or_false] at hx
    rcases hx with e | e <;> subst e <;> trivial) (by decide) (by omega) (by rw [List.length_cons, qa9_len]) ?_
  refine T_dup (am_dec tX11_init_1 19 rfl) rfl ?_
  refine T_callI (as := []) rfl (am_dec tX11_init_1 20 rfl) lkX11_67 rfl (Nat.le_of_ble_eq_true rfl) (by omega) (by omega) (mi_eyes' (d := d - 1) (by rw [List.length_cons, qa9_len]) (by omega)) (fun _ => ?_)
  refine D_putF (fs' := [aR 1, aR 21, aR 41, aR 46, aR 52, aR 53, aR 51, aI 0, aI (-1), aR 54, aR 64, aR 74, aN, aN, aN, aN, aN, aI 0, aN, aN]) 10 11 (am_dec tX11_init_1 21 rfl) flX11_68_10 rfl rfl rfl rfl rfl trivial (Nat.le_of_ble_eq_true rfl) rfl (?_ : am_T _ _ _ _ _ _ _ _ (cO 10 [aR 1, aR 21, aR 41, aR 46, aR 52, aR 53, aR 51, aI 0, aI (-1), aR 54, aR 64, aR 74, aN, aN, aN, aN, aN, aI 0, aN, aN] :: qa10))
  refine T_aload_n (am_dec tX11_init_1 22 rfl) rfl ?_
  refine D_new (k9 := 77) (fs := [aN, aN, aN, aN, aN, aI 0]) 0 (am_dec tX11_init_1 23 rfl) rfl cl0 (am_m2 93 rfl rfl) (am_m2 94 rfl rfl) (am_m1 13 rfl rfl) (by
    intro j hj
    have e : j = 0 ∨ j = 1 ∨ j = 2 ∨ j = 3 ∨ j = 4 ∨ j = 5 := by
      change j < 6 at hj
      omega
    rcases e with e | e | e | e | e | e <;> subst e <;> exact ⟨_, rfl, fun _ _ => by rfl⟩) (by
    intro x9 hx
    simp only [List.mem_cons, List.not_mem_nil, or_false] at hx
    rcases hx with e | e | e | e | e | e <;> subst e <;> trivial) (by decide) (by omega) (by rw [List.length_cons, qa10_len]) ?_
  refine T_dup (am_dec tX11_init_1 24 rfl) rfl ?_
  refine T_callI (as := []) rfl (am_dec tX11_init_1 25 rfl) lkX11_74 rfl (Nat.le_of_ble_eq_true rfl) (by omega) (by omega) (mi_auction' (d := d - 1) (by rw [List.length_cons, qa10_len]) (by omega)) (fun _ => ?_)
  refine D_putF (fs' := [aR 1, aR 21, aR 41, aR 46, aR 52, aR 53, aR 51, aI 0, aI (-1), aR 54, aR 64, aR 74, aR 77, aN, aN, aN, aN, aI 0, aN, aN]) 10 12 (am_dec tX11_init_1 26 rfl) flX11_75_10 rfl rfl rfl rfl rfl trivial (Nat.le_of_ble_eq_true rfl) rfl (?_ : am_T _ _ _ _ _ _ _ _ (cO 10 [aR 1, aR 21, aR 41, aR 46, aR 52, aR 53, aR 51, aI 0, aI (-1), aR 54, aR 64, aR 74, aR 77, aN, aN, aN, aN, aI 0, aN, aN] :: qa11))
  refine T_aload_n (am_dec tX11_init_1 27 rfl) rfl ?_
  refine D_new (k9 := 83) (fs := [aI 0, aI 0, aI 0, aI 0, aI 0, aI 0, aI 0]) 1 (am_dec tX11_init_1 28 rfl) rfl cl1 (am_m2 119 rfl rfl) (am_m2 120 rfl rfl) (am_m1 14 rfl rfl) (by
    intro j hj
    have e : j = 0 ∨ j = 1 ∨ j = 2 ∨ j = 3 ∨ j = 4 ∨ j = 5 ∨ j = 6 := by
      change j < 7 at hj
      omega
    rcases e with e | e | e | e | e | e | e <;> subst e <;> exact ⟨_, rfl, fun _ _ => by rfl⟩) (by
    intro x9 hx
    simp only [List.mem_cons, List.not_mem_nil, or_false] at hx
    rcases hx with e | e | e | e | e | e | e <;> subst e <;> trivial) (by decide) (by omega) (by rw [List.length_cons, qa11_len]) ?_
  refine T_dup (am_dec tX11_init_1 29 rfl) rfl ?_
  refine T_callI (as := []) rfl (am_dec tX11_init_1 30 rfl) lkX11_81 rfl (Nat.le_of_ble_eq_true rfl) (by omega) (by omega) (mi_duels' (d := d - 1) (by rw [List.length_cons, qa11_len]) (by omega)) (fun _ => ?_)
  refine D_putF (fs' := [aR 1, aR 21, aR 41, aR 46, aR 52, aR 53, aR 51, aI 0, aI (-1), aR 54, aR 64, aR 74, aR 77, aR 83, aN, aN, aN, aI 0, aN, aN]) 10 13 (am_dec tX11_init_1 31 rfl) flX11_82_10 rfl rfl rfl rfl rfl trivial (Nat.le_of_ble_eq_true rfl) rfl (?_ : am_T _ _ _ _ _ _ _ _ (cO 10 [aR 1, aR 21, aR 41, aR 46, aR 52, aR 53, aR 51, aI 0, aI (-1), aR 54, aR 64, aR 74, aR 77, aR 83, aN, aN, aN, aI 0, aN, aN] :: qa12))
  refine T_aload_n (am_dec tX11_init_1 32 rfl) rfl ?_
  refine D_new (k9 := 84) (fs := [aI 0, aN, aI 0]) 9 (am_dec tX11_init_1 33 rfl) rfl cl9 (am_m2 151 rfl rfl) (am_m1 43 rfl rfl) (am_m1 3 rfl rfl) (by
    intro j hj
    have e : j = 0 ∨ j = 1 ∨ j = 2 := by
      change j < 3 at hj
      omega
    rcases e with e | e | e <;> subst e <;> exact ⟨_, rfl, fun _ _ => by rfl⟩) (by
    intro x9 hx
    simp only [List.mem_cons, List.not_mem_nil, or_false] at hx
    rcases hx with e | e | e <;> subst e <;> trivial) (by decide) (by omega) (by rw [List.length_cons, qa12_len]) ?_
  refine T_dup (am_dec tX11_init_1 34 rfl) rfl ?_
  refine T_bipush 12 (am_dec tX11_init_1 35 rfl) rfl ⟨by decide, by decide⟩ ?_
  refine T_callI (as := [aI 12]) rfl (am_dec tX11_init_1 36 rfl) lkX11_88 rfl (Nat.le_of_ble_eq_true rfl) (by omega) (by omega) (mi_table' (d := d - 1) 12 ⟨by decide, by decide⟩ (by rw [List.length_cons, qa12_len]) (by omega)) (fun _ => ?_)
  refine D_putF (fs' := [aR 1, aR 21, aR 41, aR 46, aR 52, aR 53, aR 51, aI 0, aI (-1), aR 54, aR 64, aR 74, aR 77, aR 83, aR 84, aN, aN, aI 0, aN, aN]) 10 14 (am_dec tX11_init_1 37 rfl) flX11_91_10 rfl rfl rfl rfl rfl trivial (Nat.le_of_ble_eq_true rfl) rfl (?_ : am_T _ _ _ _ _ _ _ _ (cO 10 [aR 1, aR 21, aR 41, aR 46, aR 52, aR 53, aR 51, aI 0, aI (-1), aR 54, aR 64, aR 74, aR 77, aR 83, aR 84, aN, aN, aI 0, aN, aN] :: qa13))
  refine T_aload_n (am_dec tX11_init_1 38 rfl) rfl ?_
  refine D_new (k9 := 86) (fs := [aI 0, aN, aI 0]) 9 (am_dec tX11_init_1 39 rfl) rfl cl9 (am_m2 151 rfl rfl) (am_m1 43 rfl rfl) (am_m1 3 rfl rfl) (by
    intro j hj
    have e : j = 0 ∨ j = 1 ∨ j = 2 := by
      change j < 3 at hj
      omega
    rcases e with e | e | e <;> subst e <;> exact ⟨_, rfl, fun _ _ => by rfl⟩) (by
    intro x9 hx
    simp only [List.mem_cons, List.not_mem_nil, or_false] at hx
    rcases hx with e | e | e <;> subst e <;> trivial) (by decide) (by omega) (by rw [List.length_cons, qa13_len]) ?_
  refine T_dup (am_dec tX11_init_2 0 rfl) rfl ?_
  refine T_bipush 8 (am_dec tX11_init_2 1 rfl) rfl ⟨by decide, by decide⟩ ?_
  refine T_callI (as := [aI 8]) rfl (am_dec tX11_init_2 2 rfl) lkX11_88 rfl (Nat.le_of_ble_eq_true rfl) (by omega) (by omega) (mi_table' (d := d - 1) 8 ⟨by decide, by decide⟩ (by rw [List.length_cons, qa13_len]) (by omega)) (fun _ => ?_)
  refine D_putF (fs' := [aR 1, aR 21, aR 41, aR 46, aR 52, aR 53, aR 51, aI 0, aI (-1), aR 54, aR 64, aR 74, aR 77, aR 83, aR 84, aR 86, aN, aI 0, aN, aN]) 10 15 (am_dec tX11_init_2 3 rfl) flX11_95_10 rfl rfl rfl rfl rfl trivial (Nat.le_of_ble_eq_true rfl) rfl (?_ : am_T _ _ _ _ _ _ _ _ (cO 10 [aR 1, aR 21, aR 41, aR 46, aR 52, aR 53, aR 51, aI 0, aI (-1), aR 54, aR 64, aR 74, aR 77, aR 83, aR 84, aR 86, aN, aI 0, aN, aN] :: qa14))
  refine T_aload_n (am_dec tX11_init_2 4 rfl) rfl ?_
  refine T_iconst 3 (am_dec tX11_init_2 5 rfl) rfl ⟨by decide, by decide⟩ ?_
  refine D_newImg (k9 := 88) (am_dec tX11_init_2 6 rfl) (am_m2 153 rfl rfl) (by decide) (by decide) (by omega) (by rw [List.length_cons, qa14_len]) ?_
  refine D_putF (fs' := [aR 1, aR 21, aR 41, aR 46, aR 52, aR 53, aR 51, aI 0, aI (-1), aR 54, aR 64, aR 74, aR 77, aR 83, aR 84, aR 86, aR 88, aI 0, aN, aN]) 10 16 (am_dec tX11_init_2 7 rfl) flX11_100_10 rfl rfl rfl rfl rfl trivial (Nat.le_of_ble_eq_true rfl) rfl (?_ : am_T _ _ _ _ _ _ _ _ (cO 10 [aR 1, aR 21, aR 41, aR 46, aR 52, aR 53, aR 51, aI 0, aI (-1), aR 54, aR 64, aR 74, aR 77, aR 83, aR 84, aR 86, aR 88, aI 0, aN, aN] :: (qa14 ++ (cQ 4 3 (fun _ => none) :: []))))
  refine T_iconst 0 (am_dec tX11_init_2 8 rfl) rfl ⟨by decide, by decide⟩ ?_
  refine T_istore_n (am_dec tX11_init_2 9 rfl) (by decide) rfl ?_
  refine i11_iter (i := 0) (k9 := 89) (r := qa14) (L := []) ⟨by decide, by decide⟩ qa14_len rfl rfl (by omega) (by omega) (?_ : am_T _ _ _ _ _ 191 [some (aR 0), some (aI 1)] [] _)
  refine i11_iter (i := 1) (k9 := 95) (r := qa14) (L := ([] ++ imL 89)) ⟨by decide, by decide⟩ qa14_len rfl rfl (by omega) (by omega) (?_ : am_T _ _ _ _ _ 191 [some (aR 0), some (aI 2)] [] _)
  refine i11_iter (i := 2) (k9 := 101) (r := qa14) (L := (([] ++ imL 89) ++ imL 95)) ⟨by decide, by decide⟩ qa14_len rfl rfl (by omega) (by omega) (?_ : am_T _ _ _ _ _ 191 [some (aR 0), some (aI 3)] [] _)
  refine T_iload_n (am_dec tX11_init_2 10 rfl) rfl ?_
  refine T_iconst 3 (am_dec tX11_init_2 11 rfl) rfl ⟨by decide, by decide⟩ ?_
  refine T_icmp_ge 215 (am_dec tX11_init_2 12 rfl) rfl (fun _ => ?_) (fun h => absurd (show (3 : Int) ≤ 3 by decide) h)
  refine T_aload_n (am_dec tX11_init_2 22 rfl) rfl ?_
  refine T_iconst 3 (am_dec tX11_init_2 23 rfl) rfl ⟨by decide, by decide⟩ ?_
  refine D_newI (k9 := 107) (am_dec tX11_init_2 24 rfl) (am_m1 68 rfl rfl) (by decide) (by decide) (by omega) rfl ?_
  refine D_putF (fs' := [aR 1, aR 21, aR 41, aR 46, aR 52, aR 53, aR 51, aI 0, aI (-1), aR 54, aR 64, aR 74, aR 77, aR 83, aR 84, aR 86, aR 88, aI 0, aR 107, aN]) 10 18 (am_dec tX11_init_2 25 rfl) flX11_105_10 rfl rfl rfl rfl rfl trivial (Nat.le_of_ble_eq_true rfl) rfl (?_ : am_T _ _ _ _ _ _ _ _ (cO 10 [aR 1, aR 21, aR 41, aR 46, aR 52, aR 53, aR 51, aI 0, aI (-1), aR 54, aR 64, aR 74, aR 77, aR 83, aR 84, aR 86, aR 88, aI 0, aR 107, aN] :: ((qa14 ++ (cQ 4 3 (am_upQ (am_upQ (am_upQ (fun _ => none) 0 (some 89)) 1 (some 95)) 2 (some 101)) :: ((([] ++ imL 89) ++ imL 95) ++ imL 101))) ++ [cP 0 3 (fun _ => 0)])))
  refine T_aload_n (am_dec tX11_init_2 26 rfl) rfl ?_
  refine T_bipush 100 (am_dec tX11_init_2 27 rfl) rfl ⟨by decide, by decide⟩ ?_
  refine D_newI (k9 := 108) (am_dec tX11_init_2 28 rfl) (am_m1 68 rfl rfl) (by decide) (by decide) (by omega) rfl ?_
  refine D_putF (fs' := [aR 1, aR 21, aR 41, aR 46, aR 52, aR 53, aR 51, aI 0, aI (-1), aR 54, aR 64, aR 74, aR 77, aR 83, aR 84, aR 86, aR 88, aI 0, aR 107, aR 108]) 10 19 (am_dec tX11_init_2 29 rfl) flX11_108_10 rfl rfl rfl rfl rfl trivial (Nat.le_of_ble_eq_true rfl) rfl (?_ : am_T _ _ _ _ _ _ _ _ (cO 10 [aR 1, aR 21, aR 41, aR 46, aR 52, aR 53, aR 51, aI 0, aI (-1), aR 54, aR 64, aR 74, aR 77, aR 83, aR 84, aR 86, aR 88, aI 0, aR 107, aR 108] :: (((qa14 ++ (cQ 4 3 (am_upQ (am_upQ (am_upQ (fun _ => none) 0 (some 89)) 1 (some 95)) 2 (some 101)) :: ((([] ++ imL 89) ++ imL 95) ++ imL 101))) ++ [cP 0 3 (fun _ => 0)]) ++ [cP 0 100 (fun _ => 0)])))
  exact T_return (am_dec tX11_init_2 30 rfl) rfl ⟨rfl, rfl⟩
