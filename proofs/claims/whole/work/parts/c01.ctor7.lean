/-! constructors: the class -/
def ruL (b : Nat) : AH := [cO 6 [aI 0, aI 0, aR (b + 1), aR (b + 2), aR (b + 3), aR (b + 4)], cP 0 200 (fun _ => 0), cP 0 8 (fun _ => 0), cP 0 8 (fun _ => 0), cP 0 64 (fun _ => 0)]
def eyL (b : Nat) : AH := [cO 2 [aR (b + 1), aR (b + 2)], cP 0 90 (fun _ => 0), cP 0 90 (fun _ => 0)]
def auL (b : Nat) : AH := [cO 0 [aR (b + 1), aR (b + 2), aR (b + 3), aR (b + 4), aR (b + 5), aI 0], cP 0 9 (fun _ => 0), cP 0 12 (fun _ => 0), cP 0 12 (fun _ => 0), cP 0 12 (fun _ => 0), cP 1 12 (fun _ => 0)]
def tbL (b : Nat) (m : Int) : AH := [cO 9 [aI (if 12 < m then 12 else m), aR (b + 1), aI 0], cP 0 48 (fun _ => 0)]
def imL (b : Nat) : AH := [cO 4 [aR (b + 1), aR (b + 2), aR (b + 4)], cP 0 90 (fun _ => 0), cO 9 [aI 12, aR (b + 3), aI 0], cP 0 48 (fun _ => 0), cO 9 [aI 8, aR (b + 5), aI 0], cP 0 48 (fun _ => 0)]
section DD
variable {S : am_S} {z : am_Z} {d u : Nat} {Q : AO → AH → Prop} {pc : Nat} {ls : List (Option AV)} {st : List AV}
theorem D_new {w : AH} {k9 idx : Nat} (ci : Nat) {fs : List AV} {q : vw_C} (hd : decode (am_cc z) pc = .ok (.new idx, 3)) (hq : vwCl[ci]? = some q) (hcl : am_cls ci) (hl : Cond.classLink (am_own z) idx q.1 ∈ am_G) (hin : Cond.instantiable q.1 q.2.2 ∈ am_G) (hini : Cond.initialized q.1 ∈ am_G) (hfs : ∀ j, j < q.2.2 → ∃ v, fs[j]? = some v ∧ ∀ ad ax, am_v ad ax v = defaultValue ((parseFieldDescriptor (q.2.1 j).2.2.1).getD .int)) (hok : ∀ v ∈ fs, am_ok 0 v) (hn : q.2.2 ≤ am_U) (hu : 1 ≤ u) (hk : w.length = k9)
    (k : am_T S z d (u - 1) Q (pc + 3) ls (aR k9 :: st) (w ++ [cO ci fs])) : am_T S z d u Q pc ls st w := by
  refine T_new ci hd hq hcl hl hin hini hfs hok hn hu ?_
  rw [hk]
  exact k
theorem D_newI {w : AH} {k9 : Nat} {n : Int} (hd : decode (am_cc z) pc = .ok (.newarray .int, 2)) (hcl : Cond.arrayClass .int ∈ am_G) (h0 : 0 ≤ n) (hn : n ≤ 3700) (hu : 1 ≤ u) (hk : w.length = k9)
    (k : am_T S z d (u - 1) Q (pc + 2) ls (aR k9 :: st) (w ++ [cP 0 n.toNat (fun _ => 0)])) : am_T S z d u Q pc ls (aI n :: st) w := by
  refine T_newI hd hcl h0 hn hu ?_
  rw [hk]
  exact k
theorem D_newImg {w : AH} {k9 idx : Nat} {n : Int} (hd : decode (am_cc z) pc = .ok (.anewarray idx, 3)) (hcl : Cond.classLink (am_own z) idx RX4 ∈ am_G) (h0 : 0 ≤ n) (hn : n ≤ 3700) (hu : 1 ≤ u) (hk : w.length = k9)
    (k : am_T S z d (u - 1) Q (pc + 3) ls (aR k9 :: st) (w ++ [cQ 4 n.toNat (fun _ => none)])) : am_T S z d u Q pc ls (aI n :: st) w := by
  refine T_newImg hd hcl h0 hn hu ?_
  rw [hk]
  exact k
theorem D_put {r L : AH} {idx : Nat} (ci k : Nat) {fs fs' : List AV} {x9 : AV} {ty : FieldType} {q : vw_C} (hd : decode (am_cc z) pc = .ok (.putfield idx, 3)) (hf : am_fl (am_own z) idx ci k) (hq : vwCl[ci]? = some q) (hfin : (q.2.1 k).2.2.2 = false) (hty : parseFieldDescriptor (q.2.1 k).2.2.1 = some ty) (hfit : am_fit ty x9) (hk : k < fs.length) (hfs : fs.set k x9 = fs')
    (kk : am_T S z d u Q (pc + 3) ls st (cO ci fs' :: (r ++ L))) : am_T S z d u Q pc ls (x9 :: aR 0 :: st) ((cO ci fs :: r) ++ L) :=
  T_putfield ci k hd hf hq hfin hty hfit rfl hk hfs kk
theorem D_putF {r L : AH} {idx : Nat} (ci k : Nat) {fs fs' : List AV} {x9 : AV} {ty : FieldType} {q : vw_C} (hd : decode (am_cc z) pc = .ok (.putfield idx, 3)) (hf : am_fl (am_own z) idx ci k) (hq : vwCl[ci]? = some q) (hfin : (q.2.1 k).2.2.2 = true) (hin : z.2.1.name = "<init>") (hdecl : (q.2.1 k).1 = am_own z) (hty : parseFieldDescriptor (q.2.1 k).2.2.1 = some ty) (hfit : am_fit ty x9) (hk : k < fs.length) (hfs : fs.set k x9 = fs')
    (kk : am_T S z d u Q (pc + 3) ls st (cO ci fs' :: (r ++ L))) : am_T S z d u Q pc ls (x9 :: aR 0 :: st) ((cO ci fs :: r) ++ L) :=
  T_putfinal ci k hd hf hq hfin hin hdecl hty hfit rfl hk hfs kk
end DD
theorem mi_harbour' {S : am_S} {d k9 : Nat} {w : AH} (hk : w.length = k9) (hd : 2 ≤ d) : am_Out S zX3_init d 19 [aR k9] (w ++ [cO 3 [aI 0, aI 0, aI 0, aN, aN, aN, aN, aN, aN, aN, aN, aN, aN, aN]]) (.inl none) (w ++ hbL k9 (c_reset z0F)) := by
  subst hk
  exact mi_harbour (v := w) hd
theorem mi_rule' {S : am_S} {d k9 : Nat} {w : AH} (hk : w.length = k9) (hd : 1 ≤ d) : am_Out S zX7_init d 4 [aR k9] (w ++ [cO 6 [aI 0, aI 0, aN, aN, aN, aN]]) (.inl none) (w ++ ruL k9) := by
  subst hk
  exact mi_rule (v := w) hd
theorem mi_eyes' {S : am_S} {d k9 : Nat} {w : AH} (hk : w.length = k9) (hd : 1 ≤ d) : am_Out S zX2_init d 2 [aR k9] (w ++ [cO 2 [aN, aN]]) (.inl none) (w ++ eyL k9) := by
  subst hk
  exact mi_eyes (v := w) hd
theorem mi_auction' {S : am_S} {d k9 : Nat} {w : AH} (hk : w.length = k9) (hd : 1 ≤ d) : am_Out S zX0_init d 5 [aR k9] (w ++ [cO 0 [aN, aN, aN, aN, aN, aI 0]]) (.inl none) (w ++ auL k9) := by
  subst hk
  exact mi_auction (v := w) hd
theorem mi_duels' {S : am_S} {d k9 : Nat} {w : AH} (hk : w.length = k9) (hd : 1 ≤ d) : am_Out S zX1_init d 0 [aR k9] (w ++ [cO 1 [aI 0, aI 0, aI 0, aI 0, aI 0, aI 0, aI 0]]) (.inl none) (w ++ [cO 1 [aI 0, aI 0, aI 0, aI 0, aI 0, aI 0, aI 0]]) := by
  subst hk
  exact mi_duels (v := w) hd
theorem mi_image' {S : am_S} {d k9 : Nat} {w : AH} (hk : w.length = k9) (hd : 2 ≤ d) : am_Out S zX4_init d 5 [aR k9] (w ++ [cO 4 [aN, aN, aN]]) (.inl none) (w ++ imL k9) := by
  subst hk
  exact mi_image (v := w) hd
theorem mi_portReader' {S : am_S} {d k9 : Nat} {w : AH} (t : Nat) (hk : w.length = k9) (hd : 2 ≤ d) : am_Out S zX5_init d 0 [aR k9, aR t] (w ++ [cO 5 [aN, aI 0, aI 0, aI 0, aI 0, aI 0, aN, aI 0, aI 0, aI 0, aI 0]]) (.inl none) (w ++ [cO 5 [aR t, aI 0, aI 0, aI 0, aI 0, aI 0, aN, aI 0, aI 0, aI 0, aI 0]]) := by
  subst hk
  exact mi_portReader (v := w) t hd
theorem mi_ruleReader' {S : am_S} {d k9 : Nat} {w : AH} (t : Nat) (hk : w.length = k9) (hd : 2 ≤ d) : am_Out S zX8_init d 0 [aR k9, aR t] (w ++ [cO 7 [aN, aI 0, aI 0, aI 0, aI 0, aI 0, aN]]) (.inl none) (w ++ [cO 7 [aR t, aI 0, aI 0, aI 0, aI 0, aI 0, aN]]) := by
  subst hk
  exact mi_ruleReader (v := w) t hd
theorem mi_table' {S : am_S} {d k9 : Nat} {w : AH} (m : Int) (hm : am_i32 m) (hk : w.length = k9) (hd : 1 ≤ d) : am_Out S zX10_init d 1 [aR k9, aI m] (w ++ [cO 9 [aI 0, aN, aI 0]]) (.inl none) (w ++ tbL k9 m) := by
  subst hk
  exact mi_table (v := w) m hm hd
theorem mi_run' {S : am_S} {d k9 c : Nat} {h : am_F} {w : AH} (hk : w.length = k9) (hH : Hb w c h) (hcl : c + 20 ≤ k9) (hV : HbV h) (hFs : FsB h) (hd : 3 ≤ d) : am_Out S zX9_init d 9 [aR k9, aR c] (w ++ [cO 8 [aN, aI 0, aI 0, aI 0, aI 0, aI 0, aN, aN, aN, aN, aN, aN, aN, aN, aN]]) (.inl none) (w ++ rnL k9 c (f_begin h z0F)) := by
  subst hk
  exact mi_run (v := w) hH hcl hV hFs hd
theorem c_resetS_P {h : am_F} (hFs : FsB h) (hPa : PaB h) : SpI (c_resetS h) := by
  have hLt2 : LotB (c_resetS h) := fun c => by
    unfold f_lotOn
    show -1 ≤ (if 0 ≤ c ∧ c < 90 then am_fill 90 (h 10) (-1) c.toNat else -1) ∧ (if 0 ≤ c ∧ c < 90 then am_fill 90 (h 10) (-1) c.toNat else -1) < 6
    split
    · rw [am_fill_at 90 _ _ _ (by omega)]; omega
    · omega
  have hFs2 : FsB (c_resetS h) := am_fillB hFs (by omega)
  have hPa2 : PaB (c_resetS h) := hPa
  have hW2 : HbW (c_resetS h) := fun k => by
    unfold f_comes f_moves
    show (0 ≤ f_at 0 _ k 0 ∧ f_at 0 _ k 0 < 40) ∧ 0 ≤ f_at 0 _ k 1 ∧ f_at 0 _ k 1 ≤ 12
    rw [f_at_0, f_at_0]; omega
  refine ⟨⟨⟨?_, hLt2, ?_, ?_, ?_, ?_⟩, hW2, CoB_of hPa2, ?_, hFs2, ?_, PaP_of hW2 hPa2 (by show (0 : Int) ≤ 4; omega), ?_⟩, hPa2⟩
  · exact ⟨by show (2 : Int) ≤ 6; decide, by show (6 : Int) ≤ 9; decide, by show (2 : Int) ≤ 5; decide, by show (5 : Int) ≤ 9; decide, by show (1 : Int) ≤ 20; decide, by show (20 : Int) ≤ 99; decide, by show (0 : Int) ≤ 0; decide, by show (0 : Int) ≤ 12; decide, by show (0 : Int) ≤ 0; decide, by show (0 : Int) ≤ 12; decide, by show (0 : Int) ≤ 0; decide, by show (0 : Int) ≤ 6; decide, by show (0 : Int) ≤ 0; decide, by show (0 : Int) ≤ 6; decide, by show (0 : Int) ≤ 0; decide, by show (0 : Int) ≤ 6; decide, by show (0 : Int) ≤ 0; decide, by show (0 : Int) ≤ 4; decide, by show (0 : Int) ≤ 0; decide, by show (0 : Int) ≤ 4; decide, by show (0 : Int) ≤ 0; decide, by show (0 : Int) ≤ 4; decide⟩
  · intro k; show (0 ≤ f_at 0 _ k 1 ∧ f_at 0 _ k 1 ≤ 8) ∧ 0 ≤ f_at 0 _ k 2 ∧ f_at 0 _ k 2 ≤ 8; rw [f_at_0, f_at_0]; omega
  · intro k; show 0 ≤ f_at 0 _ k 1 ∧ f_at 0 _ k 1 ≤ 88; rw [f_at_0]; omega
  · intro k; show (0 ≤ f_at 0 _ k 0 ∧ f_at 0 _ k 0 ≤ 88) ∧ 0 ≤ f_at 0 _ k 1 ∧ f_at 0 _ k 1 ≤ 99; rw [f_at_0, f_at_0]; omega
  · intro k; show 0 ≤ f_at 0 _ k 1 ∧ f_at 0 _ k 1 ≤ 99; rw [f_at_0]; omega
  · intro k; show 0 ≤ f_at 0 _ k 0 ∧ f_at 0 _ k 0 ≤ 88; rw [f_at_0]; omega
  · intro k; show -100000 ≤ f_at 0 _ k 0 ∧ f_at 0 _ k 0 ≤ 100000; rw [f_at_0]; omega
  · intro k; show (0 ≤ f_at 0 _ k 0 ∧ f_at 0 _ k 0 ≤ 9) ∧ 0 ≤ f_at 0 _ k 1 ∧ f_at 0 _ k 1 ≤ 9; rw [f_at_0, f_at_0]; omega
theorem c_reset_e (h : am_F) : c_reset h = c_resetS h := rfl
theorem z0_Sp : SpI (c_reset z0F) := by
  rw [c_reset_e]
  exact c_resetS_P (fun j => ⟨Int.le_refl 0, (by decide : (0 : Int) ≤ 99)⟩) (fun j => ⟨Int.le_refl 0, (by decide : (0 : Int) ≤ 88)⟩)
theorem z0_HbV : HbV (c_reset z0F) := by
  have h := z0_Sp.1.1.1
  exact h
theorem z0_FsB : FsB (c_reset z0F) := z0_Sp.1.2.2.2.2.1
theorem hbL_Hb {a : AC} {h : am_F} {r L : AH} : Hb ((a :: (hbL 1 h ++ r)) ++ L) 1 h := fun k hk => by
  rw [List.cons_append, List.append_assoc, Nat.add_comm, List.getElem?_cons_succ, List.getElem?_append_left (by rw [hbL_len]; exact hk)]
  unfold hbL
  rw [List.getElem?_map, List.getElem?_range hk]
  rfl
