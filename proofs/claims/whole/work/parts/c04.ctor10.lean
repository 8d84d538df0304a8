/-! constructors: the model -/
def ml (b n : Nat) : AH := (List.range n).map (fun i => mdC b z0F z0F (i + 1))
theorem ml_len {b n : Nat} : (ml b n).length = n := by
  unfold ml
  rw [List.length_map, List.length_range]
theorem ml_1 {b n : Nat} {x9 : AC} (h : mdC b z0F z0F (n + 1) = x9) : ml b n ++ [x9] = ml b (n + 1) := by
  unfold ml
  rw [List.range_succ, List.map_append, ← h]
  rfl
theorem ml_m {b n : Nat} {x9 : AC} : ∀ m : Nat, (∀ j, j < m → mdC b z0F z0F (n + 1 + j) = x9) → ml b n ++ List.replicate m x9 = ml b (n + m) := by
  intro m
  induction m with
  | zero => intro _; exact List.append_nil _
  | succ m ih =>
    intro h
    rw [List.replicate_succ', ← List.append_assoc, ih (fun j hj => h j (by omega))]
    refine ml_1 ?_
    rw [show n + m + 1 = n + 1 + m by omega]
    exact h m (by omega)
section MM
variable {S : am_S} {z : am_Z} {d u : Nat} {Q : AO → AH → Prop} {pc : Nat} {ls : List (Option AV)} {st : List AV} {v : AH} {fs : List AV}
theorem M_newI {n : Nat} {s9 : Int} (hd : decode (am_cc z) pc = .ok (.newarray .int, 2)) (h0 : 0 ≤ s9) (hn : s9 ≤ 3700) (hu : 1 ≤ u) (hC : mdC v.length z0F z0F (n + 1) = cP 0 s9.toNat (fun _ => 0))
    (k : am_T S z d (u - 1) Q (pc + 2) ls (aR (v.length + (n + 1)) :: st) (v ++ (cO 11 fs :: ml v.length (n + 1)))) : am_T S z d u Q pc ls (aI s9 :: st) (v ++ (cO 11 fs :: ml v.length n)) := by
  refine T_newI hd (am_m1 68 rfl rfl) h0 hn hu ?_
  have e1 : (v ++ (cO 11 fs :: ml v.length n)).length = v.length + (n + 1) := by rw [List.length_append, List.length_cons, ml_len]
  rw [e1, List.append_assoc, List.cons_append, ml_1 hC]
  exact k
theorem M_mna {n idx : Nat} {a s9 : Int} (hd : decode (am_cc z) pc = .ok (.multianewarray idx 2, 4)) (hcl : Cond.classLink (am_own z) idx "[[I" ∈ am_G) (h0 : 0 ≤ a) (hn : a ≤ 3700) (h0m : 0 ≤ s9) (hm : s9 ≤ 3700) (hu : 1 + a.toNat ≤ u) (hC : mdC v.length z0F z0F (n + 1) = cQ 3 a.toNat (fun i => if i < a.toNat then some (v.length + (n + 2 + i)) else none)) (hR : ∀ j, j < a.toNat → mdC v.length z0F z0F (n + 2 + j) = cP 0 s9.toNat (fun _ => 0))
    (k : am_T S z d (u - (1 + a.toNat)) Q (pc + 4) ls (aR (v.length + (n + 1)) :: st) (v ++ (cO 11 fs :: ml v.length (n + 1 + a.toNat)))) : am_T S z d u Q pc ls (aI s9 :: aI a :: st) (v ++ (cO 11 fs :: ml v.length n)) := by
  refine T_mna hd hcl (am_m1 68 rfl rfl) h0 hn h0m hm hu ?_
  have e1 : (v ++ (cO 11 fs :: ml v.length n)).length = v.length + (n + 1) := by rw [List.length_append, List.length_cons, ml_len]
  have e2 : (cQ 3 a.toNat (fun i => if i < a.toNat then some ((v ++ (cO 11 fs :: ml v.length n)).length + 1 + i) else none) : AC) = mdC v.length z0F z0F (n + 1) := by
    rw [hC, e1]
    refine congrArg (fun f9 : Nat → Option Nat => (cQ 3 a.toNat f9 : AC)) (funext fun i => ?_)
    rw [show v.length + (n + 1) + 1 + i = v.length + (n + 2 + i) by omega]
  rw [e2, e1, List.append_assoc, List.cons_append, List.append_cons, ml_1 rfl, ml_m _ hR]
  exact k
theorem M_putF {L : AH} {idx : Nat} (k : Nat) {x9 : AV} {ty : FieldType} {q : vw_C} (hd : decode (am_cc z) pc = .ok (.putfield idx, 3)) (hf : am_fl (am_own z) idx 11 k) (hq : vwCl[11]? = some q) (hfin : (q.2.1 k).2.2.2 = true) (hin : z.2.1.name = "<init>") (hdecl : (q.2.1 k).1 = am_own z) (hty : parseFieldDescriptor (q.2.1 k).2.2.1 = some ty) (hfit : am_fit ty x9) (hlen : fs.length = 69) (hk : k < 69)
    (kk : am_T S z d u Q (pc + 3) ls st (v ++ (cO 11 (fs.set k x9) :: L))) : am_T S z d u Q pc ls (x9 :: aR (v.length + 0) :: st) (v ++ (cO 11 fs :: L)) :=
  C_putF (i := 0) (l' := cO 11 (fs.set k x9) :: L) 11 k hd hf hq hfin hin hdecl hty hfit rfl (by omega) rfl rfl kk
theorem M_put {L : AH} {idx : Nat} (k : Nat) {x9 : AV} {ty : FieldType} {q : vw_C} (hd : decode (am_cc z) pc = .ok (.putfield idx, 3)) (hf : am_fl (am_own z) idx 11 k) (hq : vwCl[11]? = some q) (hfin : (q.2.1 k).2.2.2 = false) (hty : parseFieldDescriptor (q.2.1 k).2.2.1 = some ty) (hfit : am_fit ty x9) (hlen : fs.length = 69) (hk : k < 69)
    (kk : am_T S z d u Q (pc + 3) ls st (v ++ (cO 11 (fs.set k x9) :: L))) : am_T S z d u Q pc ls (x9 :: aR (v.length + 0) :: st) (v ++ (cO 11 fs :: L)) :=
  C_put (i := 0) (l' := cO 11 (fs.set k x9) :: L) 11 k hd hf hq hfin hty hfit rfl (by omega) rfl rfl kk
end MM
def c0F : am_F := am_put (am_put (am_put z0F 0 3 (-1)) 0 58 (-1)) 0 61 (-1)
def mf (b : Nat) : List AV := ((((((((((((((((((((((((((((((((((((((((((((((([aI 0, aI 0, aI 0, aI 0, aI 0, aI 0, aI 0, aI 0, aN, aN, aN, aN, aN, aN, aN, aN, aN, aN, aN, aN, aN, aN, aN, aN, aN, aN, aN, aN, aN, aN, aI 0, aI 0, aI 0, aI 0, aN, aN, aN, aN, aN, aN, aN, aN, aN, aN, aN, aI 0, aI 0, aI 0, aI 0, aI 0, aI 0, aN, aN, aN, aN, aN, aI 0, aI 0, aI 0, aI 0, aI 0, aI 0, aN, aN, aN, aN, aN, aI 0, aN]).set 3 (aI (-1))).set 8 (aR (b + 1))).set 9 (aR (b + 2))).set 10 (aR (b + 3))).set 11 (aR (b + 4))).set 12 (aR (b + 5))).set 13 (aR (b + 6))).set 14 (aR (b + 7))).set 15 (aR (b + 20))).set 16 (aR (b + 33))).set 17 (aR (b + 46))).set 18 (aR (b + 59))).set 19 (aR (b + 66))).set 20 (aR (b + 74))).set 21 (aR (b + 81))).set 22 (aR (b + 88))).set 23 (aR (b + 95))).set 24 (aR (b + 102))).set 25 (aR (b + 107))).set 26 (aR (b + 112))).set 27 (aR (b + 117))).set 28 (aR (b + 122))).set 29 (aR (b + 127))).set 34 (aR (b + 132))).set 35 (aR (b + 145))).set 36 (aR (b + 154))).set 37 (aR (b + 158))).set 38 (aR (b + 200))).set 39 (aR (b + 242))).set 40 (aR (b + 250))).set 41 (aR (b + 258))).set 42 (aR (b + 265))).set 43 (aR (b + 266))).set 44 (aR (b + 267))).set 51 (aR (b + 268))).set 52 (aR (b + 277))).set 53 (aR (b + 286))).set 54 (aR (b + 507))).set 55 (aR (b + 728))).set 58 (aI (-1))).set 61 (aI (-1))).set 62 (aR (b + 729))).set 63 (aR (b + 730))).set 64 (aR (b + 731))).set 65 (aR (b + 732))).set 66 (aR (b + 733))).set 68 (aR (b + 734))
theorem mf_len {v : AH} : v.length + 735 ≤ (v ++ (cO 11 (mf v.length) :: ml v.length 734)).length := by
  rw [List.length_append, List.length_cons, ml_len]
  exact Nat.le_refl _
theorem mf_W {v : AH} : mdW (v ++ (cO 11 (mf v.length) :: ml v.length 734)) v.length c0F z0F = v ++ (cO 11 (mf v.length) :: ml v.length 734) := mdW_self (fun k hk => by
  rw [ap_get]
  match k, hk with
  | 0, _ => exact congrArg (fun l9 : List AV => some (cO 11 l9 : AC)) (show mf v.length = mdO v.length (c0F 0) (z0F 0) from rfl)
  | n + 1, hn =>
    rw [List.getElem?_cons_succ]
    unfold ml
    rw [List.getElem?_map, List.getElem?_range (by omega)]
    rfl)
theorem mf_RW : RW (k_tellsNothing c0F) := by
  obtain ⟨⟨u1, u2, u3, u4⟩, u5, u6⟩ := rr_tells c0F
  have e0 : ∀ j, k_tellsNothing c0F 0 j = c0F 0 j := fun j => by rw [u6 0 (by decide) (by decide)]
  have f56 : c0F 0 56 = 0 := rfl
  have f57 : c0F 0 57 = 0 := rfl
  have f7 : c0F 0 7 = 0 := rfl
  unfold RW
  rw [e0 56, e0 57, e0 7, f56, f57, f7, u1, u2, u4 2 (by decide) (by decide) (by decide) (by decide), u4 3 (by decide) (by decide) (by decide) (by decide), u4 4 (by decide) (by decide) (by decide) (by decide), u4 5 (by decide) (by decide) (by decide) (by decide), u4 6 (by decide) (by decide) (by decide) (by decide), u4 8 (by decide) (by decide) (by decide) (by decide), u4 9 (by decide) (by decide) (by decide) (by decide), u4 10 (by decide) (by decide) (by decide) (by decide)]
  omega
theorem mi_model {S : am_S} {d : Nat} {v : AH} (hd : 2 ≤ d) : am_Out S zX12_init d 734 [aR (v.length + 0)] (v ++ [cO 11 [aI 0, aI 0, aI 0, aI 0, aI 0, aI 0, aI 0, aI 0, aN, aN, aN, aN, aN, aN, aN, aN, aN, aN, aN, aN, aN, aN, aN, aN, aN, aN, aN, aN, aN, aN, aI 0, aI 0, aI 0, aI 0, aN, aN, aN, aN, aN, aN, aN, aN, aN, aN, aN, aI 0, aI 0, aI 0, aI 0, aI 0, aI 0, aN, aN, aN, aN, aN, aI 0, aI 0, aI 0, aI 0, aI 0, aI 0, aN, aN, aN, aN, aN, aI 0, aN]]) (.inl none) (mdW (v ++ (cO 11 (mf v.length) :: ml v.length 734)) v.length (k_stands (k_tellsNothing c0F)) z0F) := by
  refine am_body rfl (by decide +kernel) rfl (am_cats_cons rfl (am_cats_nil)) (Nat.le_of_ble_eq_true rfl) (?_ : am_T _ _ _ _ _ 0 [some (aR (v.length + 0))] [] (v ++ (cO 11 [aI 0, aI 0, aI 0, aI 0, aI 0, aI 0, aI 0, aI 0, aN, aN, aN, aN, aN, aN, aN, aN, aN, aN, aN, aN, aN, aN, aN, aN, aN, aN, aN, aN, aN, aN, aI 0, aI 0, aI 0, aI 0, aN, aN, aN, aN, aN, aN, aN, aN, aN, aN, aN, aI 0, aI 0, aI 0, aI 0, aI 0, aI 0, aN, aN, aN, aN, aN, aI 0, aI 0, aI 0, aI 0, aI 0, aI 0, aN, aN, aN, aN, aN, aI 0, aN] :: ml v.length 0)))
  refine T_aload_n (am_dec tX12_init_0 0 rfl) rfl ?_
  refine T_objInit (am_dec tX12_init_0 1 rfl) (am_m8 51 rfl rfl) (am_m1 34 rfl rfl) (am_m1 35 rfl rfl) (by decide) (by omega) ?_
  refine T_aload_n (am_dec tX12_init_0 2 rfl) rfl ?_
  refine T_iconst (-1) (am_dec tX12_init_0 3 rfl) rfl ⟨by decide, by decide⟩ ?_
  refine M_put 3 (am_dec tX12_init_0 4 rfl) flX12_9_11 rfl rfl rfl trivial rfl (by decide) ?_
  refine T_aload_n (am_dec tX12_init_0 5 rfl) rfl ?_
  refine T_sipush 600 (am_dec tX12_init_0 6 rfl) rfl ⟨by decide, by decide⟩ ?_
  refine M_newI (n := 0) (am_dec tX12_init_0 7 rfl) (by decide) (by decide) (by omega) rfl ?_
  refine M_putF 8 (am_dec tX12_init_0 8 rfl) flX12_13_11 rfl rfl rfl rfl rfl trivial rfl (by decide) ?_
  refine T_aload_n (am_dec tX12_init_0 9 rfl) rfl ?_
  refine T_iconst 3 (am_dec tX12_init_0 10 rfl) rfl ⟨by decide, by decide⟩ ?_
  refine M_newI (n := 1) (am_dec tX12_init_0 11 rfl) (by decide) (by decide) (by omega) rfl ?_
  refine M_putF 9 (am_dec tX12_init_0 12 rfl) flX12_17_11 rfl rfl rfl rfl rfl trivial rfl (by decide) ?_
  refine T_aload_n (am_dec tX12_init_0 13 rfl) rfl ?_
  refine T_bipush 11 (am_dec tX12_init_0 14 rfl) rfl ⟨by decide, by decide⟩ ?_
  refine M_newI (n := 2) (am_dec tX12_init_0 15 rfl) (by decide) (by decide) (by omega) rfl ?_
  refine M_putF 10 (am_dec tX12_init_0 16 rfl) flX12_20_11 rfl rfl rfl rfl rfl trivial rfl (by decide) ?_
  refine T_aload_n (am_dec tX12_init_0 17 rfl) rfl ?_
  refine T_bipush 11 (am_dec tX12_init_0 18 rfl) rfl ⟨by decide, by decide⟩ ?_
  refine M_newI (n := 3) (am_dec tX12_init_0 19 rfl) (by decide) (by decide) (by omega) rfl ?_
  refine M_putF 11 (am_dec tX12_init_0 20 rfl) flX12_23_11 rfl rfl rfl rfl rfl trivial rfl (by decide) ?_
  refine T_aload_n (am_dec tX12_init_0 21 rfl) rfl ?_
  refine T_bipush 81 (am_dec tX12_init_0 22 rfl) rfl ⟨by decide, by decide⟩ ?_
  refine M_newI (n := 4) (am_dec tX12_init_0 23 rfl) (by decide) (by decide) (by omega) rfl ?_
  refine M_putF 12 (am_dec tX12_init_0 24 rfl) flX12_26_11 rfl rfl rfl rfl rfl trivial rfl (by decide) ?_
  refine T_aload_n (am_dec tX12_init_0 25 rfl) rfl ?_
  refine T_bipush 81 (am_dec tX12_init_0 26 rfl) rfl ⟨by decide, by decide⟩ ?_
  refine M_newI (n := 5) (am_dec tX12_init_0 27 rfl) (by decide) (by decide) (by omega) rfl ?_
  refine M_putF 13 (am_dec tX12_init_0 28 rfl) flX12_29_11 rfl rfl rfl rfl rfl trivial rfl (by decide) ?_
  refine T_aload_n (am_dec tX12_init_0 29 rfl) rfl ?_
  refine T_bipush 12 (am_dec tX12_init_0 30 rfl) rfl ⟨by decide, by decide⟩ ?_
  refine T_iconst 4 (am_dec tX12_init_0 31 rfl) rfl ⟨by decide, by decide⟩ ?_
  refine M_mna (n := 6) (a := 12) (s9 := 4) (am_dec tX12_init_0 32 rfl) (am_m8 52 rfl rfl) (by decide) (by decide) (by decide) (by decide) (show 1 + 12 ≤ _ by omega) rfl (fun j hj => md_t_readWind _ _ hj) ?_
  refine M_putF 14 (am_dec tX12_init_0 33 rfl) flX12_34_11 rfl rfl rfl rfl rfl trivial rfl (by decide) ?_
  refine T_aload_n (am_dec tX12_init_0 34 rfl) rfl ?_
  refine T_bipush 12 (am_dec tX12_init_0 35 rfl) rfl ⟨by decide, by decide⟩ ?_
  refine T_iconst 4 (am_dec tX12_init_0 36 rfl) rfl ⟨by decide, by decide⟩ ?_
  refine M_mna (n := 19) (a := 12) (s9 := 4) (am_dec tX12_init_0 37 rfl) (am_m8 52 rfl rfl) (by decide) (by decide) (by decide) (by decide) (show 1 + 12 ≤ _ by omega) rfl (fun j hj => md_t_wind _ _ hj) ?_
  refine M_putF 15 (am_dec tX12_init_0 38 rfl) flX12_37_11 rfl rfl rfl rfl rfl trivial rfl (by decide) ?_
  refine T_aload_n (am_dec tX12_init_0 39 rfl) rfl ?_
  refine T_bipush 12 (am_dec tX12_init_1 0 rfl) rfl ⟨by decide, by decide⟩ ?_
  refine T_iconst 2 (am_dec tX12_init_1 1 rfl) rfl ⟨by decide, by decide⟩ ?_
  refine M_mna (n := 32) (a := 12) (s9 := 2) (am_dec tX12_init_1 2 rfl) (am_m8 52 rfl rfl) (by decide) (by decide) (by decide) (by decide) (show 1 + 12 ≤ _ by omega) rfl (fun j hj => md_t_readThin _ _ hj) ?_
  refine M_putF 16 (am_dec tX12_init_1 3 rfl) flX12_40_11 rfl rfl rfl rfl rfl trivial rfl (by decide) ?_
  refine T_aload_n (am_dec tX12_init_1 4 rfl) rfl ?_
  refine T_bipush 12 (am_dec tX12_init_1 5 rfl) rfl ⟨by decide, by decide⟩ ?_
  refine T_iconst 2 (am_dec tX12_init_1 6 rfl) rfl ⟨by decide, by decide⟩ ?_
  refine M_mna (n := 45) (a := 12) (s9 := 2) (am_dec tX12_init_1 7 rfl) (am_m8 52 rfl rfl) (by decide) (by decide) (by decide) (by decide) (show 1 + 12 ≤ _ by omega) rfl (fun j hj => md_t_thin _ _ hj) ?_
  refine M_putF 17 (am_dec tX12_init_1 8 rfl) flX12_43_11 rfl rfl rfl rfl rfl trivial rfl (by decide) ?_
  refine T_aload_n (am_dec tX12_init_1 9 rfl) rfl ?_
  refine T_bipush 6 (am_dec tX12_init_1 10 rfl) rfl ⟨by decide, by decide⟩ ?_
  refine T_iconst 3 (am_dec tX12_init_1 11 rfl) rfl ⟨by decide, by decide⟩ ?_
  refine M_mna (n := 58) (a := 6) (s9 := 3) (am_dec tX12_init_1 12 rfl) (am_m8 52 rfl rfl) (by decide) (by decide) (by decide) (by decide) (show 1 + 6 ≤ _ by omega) rfl (fun j hj => md_t_readLamp _ _ hj) ?_
  refine M_putF 18 (am_dec tX12_init_1 13 rfl) flX12_46_11 rfl rfl rfl rfl rfl trivial rfl (by decide) ?_
  refine T_aload_n (am_dec tX12_init_1 14 rfl) rfl ?_
  refine T_bipush 7 (am_dec tX12_init_1 15 rfl) rfl ⟨by decide, by decide⟩ ?_
  refine T_iconst 3 (am_dec tX12_init_1 16 rfl) rfl ⟨by decide, by decide⟩ ?_
  refine M_mna (n := 65) (a := 7) (s9 := 3) (am_dec tX12_init_1 17 rfl) (am_m8 52 rfl rfl) (by decide) (by decide) (by decide) (by decide) (show 1 + 7 ≤ _ by omega) rfl (fun j hj => md_t_lamp _ _ hj) ?_
  refine M_putF 19 (am_dec tX12_init_1 18 rfl) flX12_49_11 rfl rfl rfl rfl rfl trivial rfl (by decide) ?_
  refine T_aload_n (am_dec tX12_init_1 19 rfl) rfl ?_
  refine T_bipush 6 (am_dec tX12_init_1 20 rfl) rfl ⟨by decide, by decide⟩ ?_
  refine T_iconst 3 (am_dec tX12_init_1 21 rfl) rfl ⟨by decide, by decide⟩ ?_
  refine M_mna (n := 73) (a := 6) (s9 := 3) (am_dec tX12_init_1 22 rfl) (am_m8 52 rfl rfl) (by decide) (by decide) (by decide) (by decide) (show 1 + 6 ≤ _ by omega) rfl (fun j hj => md_t_readSteamer _ _ hj) ?_
  refine M_putF 20 (am_dec tX12_init_1 23 rfl) flX12_52_11 rfl rfl rfl rfl rfl trivial rfl (by decide) ?_
  refine T_aload_n (am_dec tX12_init_1 24 rfl) rfl ?_
  refine T_bipush 6 (am_dec tX12_init_1 25 rfl) rfl ⟨by decide, by decide⟩ ?_
  refine T_iconst 3 (am_dec tX12_init_1 26 rfl) rfl ⟨by decide, by decide⟩ ?_
  refine M_mna (n := 80) (a := 6) (s9 := 3) (am_dec tX12_init_1 27 rfl) (am_m8 52 rfl rfl) (by decide) (by decide) (by decide) (by decide) (show 1 + 6 ≤ _ by omega) rfl (fun j hj => md_t_steamer _ _ hj) ?_
  refine M_putF 21 (am_dec tX12_init_1 28 rfl) flX12_55_11 rfl rfl rfl rfl rfl trivial rfl (by decide) ?_
  refine T_aload_n (am_dec tX12_init_1 29 rfl) rfl ?_
  refine T_bipush 6 (am_dec tX12_init_1 30 rfl) rfl ⟨by decide, by decide⟩ ?_
  refine T_bipush 6 (am_dec tX12_init_1 31 rfl) rfl ⟨by decide, by decide⟩ ?_
  refine M_mna (n := 87) (a := 6) (s9 := 6) (am_dec tX12_init_1 32 rfl) (am_m8 52 rfl rfl) (by decide) (by decide) (by decide) (by decide) (show 1 + 6 ≤ _ by omega) rfl (fun j hj => md_t_readLot _ _ hj) ?_
  refine M_putF 22 (am_dec tX12_init_1 33 rfl) flX12_58_11 rfl rfl rfl rfl rfl trivial rfl (by decide) ?_
  refine T_aload_n (am_dec tX12_init_1 34 rfl) rfl ?_
  refine T_bipush 6 (am_dec tX12_init_1 35 rfl) rfl ⟨by decide, by decide⟩ ?_
  refine T_bipush 6 (am_dec tX12_init_1 36 rfl) rfl ⟨by decide, by decide⟩ ?_
  refine M_mna (n := 94) (a := 6) (s9 := 6) (am_dec tX12_init_1 37 rfl) (am_m8 52 rfl rfl) (by decide) (by decide) (by decide) (by decide) (show 1 + 6 ≤ _ by omega) rfl (fun j hj => md_t_lot _ _ hj) ?_
  refine M_putF 23 (am_dec tX12_init_1 38 rfl) flX12_61_11 rfl rfl rfl rfl rfl trivial rfl (by decide) ?_
  refine T_aload_n (am_dec tX12_init_1 39 rfl) rfl ?_
  refine T_iconst 4 (am_dec tX12_init_2 0 rfl) rfl ⟨by decide, by decide⟩ ?_
  refine T_bipush 16 (am_dec tX12_init_2 1 rfl) rfl ⟨by decide, by decide⟩ ?_
  refine M_mna (n := 101) (a := 4) (s9 := 16) (am_dec tX12_init_2 2 rfl) (am_m8 52 rfl rfl) (by decide) (by decide) (by decide) (by decide) (show 1 + 4 ≤ _ by omega) rfl (fun j hj => md_t_readWalker _ _ hj) ?_
  refine M_putF 24 (am_dec tX12_init_2 3 rfl) flX12_64_11 rfl rfl rfl rfl rfl trivial rfl (by decide) ?_
  refine T_aload_n (am_dec tX12_init_2 4 rfl) rfl ?_
  refine T_iconst 4 (am_dec tX12_init_2 5 rfl) rfl ⟨by decide, by decide⟩ ?_
  refine T_bipush 16 (am_dec tX12_init_2 6 rfl) rfl ⟨by decide, by decide⟩ ?_
  refine M_mna (n := 106) (a := 4) (s9 := 16) (am_dec tX12_init_2 7 rfl) (am_m8 52 rfl rfl) (by decide) (by decide) (by decide) (by decide) (show 1 + 4 ≤ _ by omega) rfl (fun j hj => md_t_walker _ _ hj) ?_
  refine M_putF 25 (am_dec tX12_init_2 8 rfl) flX12_67_11 rfl rfl rfl rfl rfl trivial rfl (by decide) ?_
  refine T_aload_n (am_dec tX12_init_2 9 rfl) rfl ?_
  refine T_iconst 4 (am_dec tX12_init_2 10 rfl) rfl ⟨by decide, by decide⟩ ?_
  refine T_iconst 2 (am_dec tX12_init_2 11 rfl) rfl ⟨by decide, by decide⟩ ?_
  refine M_mna (n := 111) (a := 4) (s9 := 2) (am_dec tX12_init_2 12 rfl) (am_m8 52 rfl rfl) (by decide) (by decide) (by decide) (by decide) (show 1 + 4 ≤ _ by omega) rfl (fun j hj => md_t_readWatch _ _ hj) ?_
  refine M_putF 26 (am_dec tX12_init_2 13 rfl) flX12_70_11 rfl rfl rfl rfl rfl trivial rfl (by decide) ?_
  refine T_aload_n (am_dec tX12_init_2 14 rfl) rfl ?_
  refine T_iconst 4 (am_dec tX12_init_2 15 rfl) rfl ⟨by decide, by decide⟩ ?_
  refine T_iconst 2 (am_dec tX12_init_2 16 rfl) rfl ⟨by decide, by decide⟩ ?_
  refine M_mna (n := 116) (a := 4) (s9 := 2) (am_dec tX12_init_2 17 rfl) (am_m8 52 rfl rfl) (by decide) (by decide) (by decide) (by decide) (show 1 + 4 ≤ _ by omega) rfl (fun j hj => md_t_watch _ _ hj) ?_
  refine M_putF 27 (am_dec tX12_init_2 18 rfl) flX12_73_11 rfl rfl rfl rfl rfl trivial rfl (by decide) ?_
  refine T_aload_n (am_dec tX12_init_2 19 rfl) rfl ?_
  refine T_iconst 4 (am_dec tX12_init_2 20 rfl) rfl ⟨by decide, by decide⟩ ?_
  refine T_iconst 2 (am_dec tX12_init_2 21 rfl) rfl ⟨by decide, by decide⟩ ?_
  refine M_mna (n := 121) (a := 4) (s9 := 2) (am_dec tX12_init_2 22 rfl) (am_m8 52 rfl rfl) (by decide) (by decide) (by decide) (by decide) (show 1 + 4 ≤ _ by omega) rfl (fun j hj => md_t_readShip _ _ hj) ?_
  refine M_putF 28 (am_dec tX12_init_2 23 rfl) flX12_76_11 rfl rfl rfl rfl rfl trivial rfl (by decide) ?_
  refine T_aload_n (am_dec tX12_init_2 24 rfl) rfl ?_
  refine T_iconst 4 (am_dec tX12_init_2 25 rfl) rfl ⟨by decide, by decide⟩ ?_
  refine T_iconst 2 (am_dec tX12_init_2 26 rfl) rfl ⟨by decide, by decide⟩ ?_
  refine M_mna (n := 126) (a := 4) (s9 := 2) (am_dec tX12_init_2 27 rfl) (am_m8 52 rfl rfl) (by decide) (by decide) (by decide) (by decide) (show 1 + 4 ≤ _ by omega) rfl (fun j hj => md_t_ship _ _ hj) ?_
  refine M_putF 29 (am_dec tX12_init_2 28 rfl) flX12_79_11 rfl rfl rfl rfl rfl trivial rfl (by decide) ?_
  refine T_aload_n (am_dec tX12_init_2 29 rfl) rfl ?_
  refine T_bipush 12 (am_dec tX12_init_2 30 rfl) rfl ⟨by decide, by decide⟩ ?_
  refine T_iconst 3 (am_dec tX12_init_2 31 rfl) rfl ⟨by decide, by decide⟩ ?_
  refine M_mna (n := 131) (a := 12) (s9 := 3) (am_dec tX12_init_2 32 rfl) (am_m8 52 rfl rfl) (by decide) (by decide) (by decide) (by decide) (show 1 + 12 ≤ _ by omega) rfl (fun j hj => md_t_bid _ _ hj) ?_
  refine M_putF 34 (am_dec tX12_init_2 33 rfl) flX12_82_11 rfl rfl rfl rfl rfl trivial rfl (by decide) ?_
  refine T_aload_n (am_dec tX12_init_2 34 rfl) rfl ?_
  refine T_bipush 8 (am_dec tX12_init_2 35 rfl) rfl ⟨by decide, by decide⟩ ?_
  refine T_iconst 3 (am_dec tX12_init_2 36 rfl) rfl ⟨by decide, by decide⟩ ?_
  refine M_mna (n := 144) (a := 8) (s9 := 3) (am_dec tX12_init_2 37 rfl) (am_m8 52 rfl rfl) (by decide) (by decide) (by decide) (by decide) (show 1 + 8 ≤ _ by omega) rfl (fun j hj => md_t_gauge _ _ hj) ?_
  refine M_putF 35 (am_dec tX12_init_2 38 rfl) flX12_85_11 rfl rfl rfl rfl rfl trivial rfl (by decide) ?_
  refine T_aload_n (am_dec tX12_init_2 39 rfl) rfl ?_
  refine T_iconst 3 (am_dec tX12_init_3 0 rfl) rfl ⟨by decide, by decide⟩ ?_
  refine T_sipush 143 (am_dec tX12_init_3 1 rfl) rfl ⟨by decide, by decide⟩ ?_
  refine M_mna (n := 153) (a := 3) (s9 := 143) (am_dec tX12_init_3 2 rfl) (am_m8 52 rfl rfl) (by decide) (by decide) (by decide) (by decide) (show 1 + 3 ≤ _ by omega) rfl (fun j hj => md_t_kept _ _ hj) ?_
  refine M_putF 36 (am_dec tX12_init_3 3 rfl) flX12_88_11 rfl rfl rfl rfl rfl trivial rfl (by decide) ?_
  refine T_aload_n (am_dec tX12_init_3 4 rfl) rfl ?_
  refine T_bipush 41 (am_dec tX12_init_3 5 rfl) rfl ⟨by decide, by decide⟩ ?_
  refine T_bipush 81 (am_dec tX12_init_3 6 rfl) rfl ⟨by decide, by decide⟩ ?_
  refine M_mna (n := 157) (a := 41) (s9 := 81) (am_dec tX12_init_3 7 rfl) (am_m8 52 rfl rfl) (by decide) (by decide) (by decide) (by decide) (show 1 + 41 ≤ _ by omega) rfl (fun j hj => md_t_fog _ _ hj) ?_
  refine M_putF 37 (am_dec tX12_init_3 8 rfl) flX12_91_11 rfl rfl rfl rfl rfl trivial rfl (by decide) ?_
  refine T_aload_n (am_dec tX12_init_3 9 rfl) rfl ?_
  refine T_bipush 41 (am_dec tX12_init_3 10 rfl) rfl ⟨by decide, by decide⟩ ?_
  refine T_iconst 4 (am_dec tX12_init_3 11 rfl) rfl ⟨by decide, by decide⟩ ?_
  refine M_mna (n := 199) (a := 41) (s9 := 4) (am_dec tX12_init_3 12 rfl) (am_m8 52 rfl rfl) (by decide) (by decide) (by decide) (by decide) (show 1 + 41 ≤ _ by omega) rfl (fun j hj => md_t_sums _ _ hj) ?_
  refine M_putF 38 (am_dec tX12_init_3 13 rfl) flX12_94_11 rfl rfl rfl rfl rfl trivial rfl (by decide) ?_
  refine T_aload_n (am_dec tX12_init_3 14 rfl) rfl ?_
  refine T_bipush 7 (am_dec tX12_init_3 15 rfl) rfl ⟨by decide, by decide⟩ ?_
  refine T_bipush 41 (am_dec tX12_init_3 16 rfl) rfl ⟨by decide, by decide⟩ ?_
  refine M_mna (n := 241) (a := 7) (s9 := 41) (am_dec tX12_init_3 17 rfl) (am_m8 52 rfl rfl) (by decide) (by decide) (by decide) (by decide) (show 1 + 7 ≤ _ by omega) rfl (fun j hj => md_t_burned _ _ hj) ?_
  refine M_putF 39 (am_dec tX12_init_3 18 rfl) flX12_97_11 rfl rfl rfl rfl rfl trivial rfl (by decide) ?_
  refine T_aload_n (am_dec tX12_init_3 19 rfl) rfl ?_
  refine T_bipush 7 (am_dec tX12_init_3 20 rfl) rfl ⟨by decide, by decide⟩ ?_
  refine T_bipush 81 (am_dec tX12_init_3 21 rfl) rfl ⟨by decide, by decide⟩ ?_
  refine M_mna (n := 249) (a := 7) (s9 := 81) (am_dec tX12_init_3 22 rfl) (am_m8 52 rfl rfl) (by decide) (by decide) (by decide) (by decide) (show 1 + 7 ≤ _ by omega) rfl (fun j hj => md_t_burnedOn _ _ hj) ?_
  refine M_putF 40 (am_dec tX12_init_3 23 rfl) flX12_100_11 rfl rfl rfl rfl rfl trivial rfl (by decide) ?_
  refine T_aload_n (am_dec tX12_init_3 24 rfl) rfl ?_
  refine T_bipush 6 (am_dec tX12_init_3 25 rfl) rfl ⟨by decide, by decide⟩ ?_
  refine T_bipush 6 (am_dec tX12_init_3 26 rfl) rfl ⟨by decide, by decide⟩ ?_
  refine M_mna (n := 257) (a := 6) (s9 := 6) (am_dec tX12_init_3 27 rfl) (am_m8 52 rfl rfl) (by decide) (by decide) (by decide) (by decide) (show 1 + 6 ≤ _ by omega) rfl (fun j hj => md_t_leak _ _ hj) ?_
  refine M_putF 41 (am_dec tX12_init_3 28 rfl) flX12_103_11 rfl rfl rfl rfl rfl trivial rfl (by decide) ?_
  refine T_aload_n (am_dec tX12_init_3 29 rfl) rfl ?_
  refine T_bipush 81 (am_dec tX12_init_3 30 rfl) rfl ⟨by decide, by decide⟩ ?_
  refine M_newI (n := 264) (am_dec tX12_init_3 31 rfl) (by decide) (by decide) (by omega) rfl ?_
  refine M_putF 42 (am_dec tX12_init_3 32 rfl) flX12_106_11 rfl rfl rfl rfl rfl trivial rfl (by decide) ?_
  refine T_aload_n (am_dec tX12_init_3 33 rfl) rfl ?_
  refine T_bipush 81 (am_dec tX12_init_3 34 rfl) rfl ⟨by decide, by decide⟩ ?_
  refine M_newI (n := 265) (am_dec tX12_init_3 35 rfl) (by decide) (by decide) (by omega) rfl ?_
  refine M_putF 43 (am_dec tX12_init_3 36 rfl) flX12_109_11 rfl rfl rfl rfl rfl trivial rfl (by decide) ?_
  refine T_aload_n (am_dec tX12_init_3 37 rfl) rfl ?_
  refine T_bipush 40 (am_dec tX12_init_3 38 rfl) rfl ⟨by decide, by decide⟩ ?_
  refine M_newI (n := 266) (am_dec tX12_init_3 39 rfl) (by decide) (by decide) (by omega) rfl ?_
  refine M_putF 44 (am_dec tX12_init_4 0 rfl) flX12_112_11 rfl rfl rfl rfl rfl trivial rfl (by decide) ?_
  refine T_aload_n (am_dec tX12_init_4 1 rfl) rfl ?_
  refine T_bipush 8 (am_dec tX12_init_4 2 rfl) rfl ⟨by decide, by decide⟩ ?_
  refine T_iconst 3 (am_dec tX12_init_4 3 rfl) rfl ⟨by decide, by decide⟩ ?_
  refine M_mna (n := 267) (a := 8) (s9 := 3) (am_dec tX12_init_4 4 rfl) (am_m8 52 rfl rfl) (by decide) (by decide) (by decide) (by decide) (show 1 + 8 ≤ _ by omega) rfl (fun j hj => md_t_part _ _ hj) ?_
  refine M_putF 51 (am_dec tX12_init_4 5 rfl) flX12_115_11 rfl rfl rfl rfl rfl trivial rfl (by decide) ?_
  refine T_aload_n (am_dec tX12_init_4 6 rfl) rfl ?_
  refine T_bipush 8 (am_dec tX12_init_4 7 rfl) rfl ⟨by decide, by decide⟩ ?_
  refine T_iconst 3 (am_dec tX12_init_4 8 rfl) rfl ⟨by decide, by decide⟩ ?_
  refine M_mna (n := 276) (a := 8) (s9 := 3) (am_dec tX12_init_4 9 rfl) (am_m8 52 rfl rfl) (by decide) (by decide) (by decide) (by decide) (show 1 + 8 ≤ _ by omega) rfl (fun j hj => md_t_readPart _ _ hj) ?_
  refine M_putF 52 (am_dec tX12_init_4 10 rfl) flX12_118_11 rfl rfl rfl rfl rfl trivial rfl (by decide) ?_
  refine T_aload_n (am_dec tX12_init_4 11 rfl) rfl ?_
  refine T_sipush 220 (am_dec tX12_init_4 12 rfl) rfl ⟨by decide, by decide⟩ ?_
  refine T_iconst 2 (am_dec tX12_init_4 13 rfl) rfl ⟨by decide, by decide⟩ ?_
  refine M_mna (n := 285) (a := 220) (s9 := 2) (am_dec tX12_init_4 14 rfl) (am_m8 52 rfl rfl) (by decide) (by decide) (by decide) (by decide) (show 1 + 220 ≤ _ by omega) rfl (fun j hj => md_t_code _ _ hj) ?_
  refine M_putF 53 (am_dec tX12_init_4 15 rfl) flX12_121_11 rfl rfl rfl rfl rfl trivial rfl (by decide) ?_
  refine T_aload_n (am_dec tX12_init_4 16 rfl) rfl ?_
  refine T_sipush 220 (am_dec tX12_init_4 17 rfl) rfl ⟨by decide, by decide⟩ ?_
  refine T_iconst 2 (am_dec tX12_init_4 18 rfl) rfl ⟨by decide, by decide⟩ ?_
  refine M_mna (n := 506) (a := 220) (s9 := 2) (am_dec tX12_init_4 19 rfl) (am_m8 52 rfl rfl) (by decide) (by decide) (by decide) (by decide) (show 1 + 220 ≤ _ by omega) rfl (fun j hj => md_t_readCode _ _ hj) ?_
  refine M_putF 54 (am_dec tX12_init_4 20 rfl) flX12_124_11 rfl rfl rfl rfl rfl trivial rfl (by decide) ?_
  refine T_aload_n (am_dec tX12_init_4 21 rfl) rfl ?_
  refine T_sipush 220 (am_dec tX12_init_4 22 rfl) rfl ⟨by decide, by decide⟩ ?_
  refine M_newI (n := 727) (am_dec tX12_init_4 23 rfl) (by decide) (by decide) (by omega) rfl ?_
  refine M_putF 55 (am_dec tX12_init_4 24 rfl) flX12_127_11 rfl rfl rfl rfl rfl trivial rfl (by decide) ?_
  refine T_aload_n (am_dec tX12_init_4 25 rfl) rfl ?_
  refine T_iconst (-1) (am_dec tX12_init_4 26 rfl) rfl ⟨by decide, by decide⟩ ?_
  refine M_put 58 (am_dec tX12_init_4 27 rfl) flX12_130_11 rfl rfl rfl trivial rfl (by decide) ?_
  refine T_aload_n (am_dec tX12_init_4 28 rfl) rfl ?_
  refine T_iconst (-1) (am_dec tX12_init_4 29 rfl) rfl ⟨by decide, by decide⟩ ?_
  refine M_put 61 (am_dec tX12_init_4 30 rfl) flX12_133_11 rfl rfl rfl trivial rfl (by decide) ?_
  refine T_aload_n (am_dec tX12_init_4 31 rfl) rfl ?_
  refine T_bipush 81 (am_dec tX12_init_4 32 rfl) rfl ⟨by decide, by decide⟩ ?_
  refine M_newI (n := 728) (am_dec tX12_init_4 33 rfl) (by decide) (by decide) (by omega) rfl ?_
  refine M_putF 62 (am_dec tX12_init_4 34 rfl) flX12_136_11 rfl rfl rfl rfl rfl trivial rfl (by decide) ?_
  refine T_aload_n (am_dec tX12_init_4 35 rfl) rfl ?_
  refine T_bipush 81 (am_dec tX12_init_4 36 rfl) rfl ⟨by decide, by decide⟩ ?_
  refine M_newI (n := 729) (am_dec tX12_init_4 37 rfl) (by decide) (by decide) (by omega) rfl ?_
  refine M_putF 63 (am_dec tX12_init_4 38 rfl) flX12_139_11 rfl rfl rfl rfl rfl trivial rfl (by decide) ?_
  refine T_aload_n (am_dec tX12_init_4 39 rfl) rfl ?_
  refine T_iconst 4 (am_dec tX12_init_5 0 rfl) rfl ⟨by decide, by decide⟩ ?_
  refine M_newI (n := 730) (am_dec tX12_init_5 1 rfl) (by decide) (by decide) (by omega) rfl ?_
  refine M_putF 64 (am_dec tX12_init_5 2 rfl) flX12_142_11 rfl rfl rfl rfl rfl trivial rfl (by decide) ?_
  refine T_aload_n (am_dec tX12_init_5 3 rfl) rfl ?_
  refine T_bipush 12 (am_dec tX12_init_5 4 rfl) rfl ⟨by decide, by decide⟩ ?_
  refine M_newI (n := 731) (am_dec tX12_init_5 5 rfl) (by decide) (by decide) (by omega) rfl ?_
  refine M_putF 65 (am_dec tX12_init_5 6 rfl) flX12_145_11 rfl rfl rfl rfl rfl trivial rfl (by decide) ?_
  refine T_aload_n (am_dec tX12_init_5 7 rfl) rfl ?_
  refine T_bipush 12 (am_dec tX12_init_5 8 rfl) rfl ⟨by decide, by decide⟩ ?_
  refine M_newI (n := 732) (am_dec tX12_init_5 9 rfl) (by decide) (by decide) (by omega) rfl ?_
  refine M_putF 66 (am_dec tX12_init_5 10 rfl) flX12_148_11 rfl rfl rfl rfl rfl trivial rfl (by decide) ?_
  refine T_aload_n (am_dec tX12_init_5 11 rfl) rfl ?_
  refine T_bipush 40 (am_dec tX12_init_5 12 rfl) rfl ⟨by decide, by decide⟩ ?_
  refine M_newI (n := 733) (am_dec tX12_init_5 13 rfl) (by decide) (by decide) (by omega) rfl ?_
  refine M_putF 68 (am_dec tX12_init_5 14 rfl) flX12_151_11 rfl rfl rfl rfl rfl trivial rfl (by decide) ?_
  refine T_aload_n (am_dec tX12_init_5 15 rfl) rfl ?_
  refine T_callV (as := []) rfl (am_dec tX12_init_5 16 rfl) lkX12_154 ((ap_get (i := 0)).trans rfl) rfl rfl (Nat.le_of_ble_eq_true rfl) (show (d - 1) + 1 ≤ d by omega) (am_OutE (mk_tellsNothing (w := v ++ (cO 11 (mf v.length) :: ml v.length 734)) (b := v.length) (c := c0F) (q := z0F) mf_len) mf_W rfl) (fun _ => ?_)
  refine T_aload_n (am_dec tX12_init_5 17 rfl) rfl ?_
  refine T_callV (as := []) rfl (am_dec tX12_init_5 18 rfl) lkX12_157 (md_obj mf_len) rfl rfl (Nat.le_of_ble_eq_true rfl) (show (d - 1) + 1 ≤ d by omega) (mk_stands mf_len mf_RW (by omega)) (fun _ => ?_)
  exact T_return (am_dec tX12_init_5 19 rfl) rfl ⟨rfl, rfl⟩
