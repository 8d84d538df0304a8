/-! constructors: cells laid behind a heap -/
theorem ap_get {v l : AH} {i : Nat} : (v ++ l)[v.length + i]? = l[i]? := by
  rw [List.getElem?_append_right (by omega)]
  congr 1
  omega
theorem ap_set {v l : AH} {i : Nat} {c : AC} : (v ++ l).set (v.length + i) c = v ++ l.set i c := by
  rw [List.set_append_right _ _ (by omega)]
  congr 2
  omega
theorem ap_len {v l : AH} {k : Nat} (h : l.length = k) : (v ++ l).length = v.length + k := by rw [List.length_append, h]
theorem C_newI {S : am_S} {z : am_Z} {d u : Nat} {Q : AO → AH → Prop} {pc : Nat} {ls : List (Option AV)} {st : List AV} {v l : AH} {k9 : Nat} {n : Int} (hd : decode (am_cc z) pc = .ok (.newarray .int, 2)) (hcl : Cond.arrayClass .int ∈ am_G) (h0 : 0 ≤ n) (hn : n ≤ 3700) (hu : 1 ≤ u) (hk : l.length = k9)
    (k : am_T S z d (u - 1) Q (pc + 2) ls (aR (v.length + k9) :: st) (v ++ (l ++ [cP 0 n.toNat (fun _ => 0)]))) : am_T S z d u Q pc ls (aI n :: st) (v ++ l) := by
  refine T_newI hd hcl h0 hn hu ?_
  rw [ap_len hk, List.append_assoc]
  exact k
theorem C_newZ {S : am_S} {z : am_Z} {d u : Nat} {Q : AO → AH → Prop} {pc : Nat} {ls : List (Option AV)} {st : List AV} {v l : AH} {k9 : Nat} {n : Int} (hd : decode (am_cc z) pc = .ok (.newarray .boolean, 2)) (hcl : Cond.arrayClass .boolean ∈ am_G) (h0 : 0 ≤ n) (hn : n ≤ 3700) (hu : 1 ≤ u) (hk : l.length = k9)
    (k : am_T S z d (u - 1) Q (pc + 2) ls (aR (v.length + k9) :: st) (v ++ (l ++ [cP 1 n.toNat (fun _ => 0)]))) : am_T S z d u Q pc ls (aI n :: st) (v ++ l) := by
  refine T_newZ hd hcl h0 hn hu ?_
  rw [ap_len hk, List.append_assoc]
  exact k
theorem C_put {S : am_S} {z : am_Z} {d u : Nat} {Q : AO → AH → Prop} {pc : Nat} {ls : List (Option AV)} {st : List AV} {v l l' : AH} {i idx : Nat} (ci k : Nat) {fs fs' : List AV} {x : AV} {ty : FieldType} {q : vw_C} (hd : decode (am_cc z) pc = .ok (.putfield idx, 3)) (hf : am_fl (am_own z) idx ci k) (hq : vwCl[ci]? = some q) (hfin : (q.2.1 k).2.2.2 = false) (hty : parseFieldDescriptor (q.2.1 k).2.2.1 = some ty) (hfit : am_fit ty x) (hw : l[i]? = some (cO ci fs)) (hk : k < fs.length) (hfs : fs.set k x = fs') (hl : l.set i (cO ci fs') = l')
    (kk : am_T S z d u Q (pc + 3) ls st (v ++ l')) : am_T S z d u Q pc ls (x :: aR (v.length + i) :: st) (v ++ l) := by
  refine T_putfield ci k hd hf hq hfin hty hfit (ap_get.trans hw) hk hfs ?_
  rw [ap_set, hl]
  exact kk
theorem C_putF {S : am_S} {z : am_Z} {d u : Nat} {Q : AO → AH → Prop} {pc : Nat} {ls : List (Option AV)} {st : List AV} {v l l' : AH} {i idx : Nat} (ci k : Nat) {fs fs' : List AV} {x : AV} {ty : FieldType} {q : vw_C} (hd : decode (am_cc z) pc = .ok (.putfield idx, 3)) (hf : am_fl (am_own z) idx ci k) (hq : vwCl[ci]? = some q) (hfin : (q.2.1 k).2.2.2 = true) (hin : z.2.1.name = "<init>") (hdecl : (q.2.1 k).1 = am_own z) (hty : parseFieldDescriptor (q.2.1 k).2.2.1 = some ty) (hfit : am_fit ty x) (hw : l[i]? = some (cO ci fs)) (hk : k < fs.length) (hfs : fs.set k x = fs') (hl : l.set i (cO ci fs') = l')
    (kk : am_T S z d u Q (pc + 3) ls st (v ++ l')) : am_T S z d u Q pc ls (x :: aR (v.length + i) :: st) (v ++ l) := by
  refine T_putfinal ci k hd hf hq hfin hin hdecl hty hfit (ap_get.trans hw) hk hfs ?_
  rw [ap_set, hl]
  exact kk
