/-! constructors: new ones behind cells -/
theorem C_new {S : am_S} {z : am_Z} {d u : Nat} {Q : AO → AH → Prop} {pc : Nat} {ls : List (Option AV)} {st : List AV} {v l : AH} {k9 : Nat} {idx : Nat} (ci : Nat) {fs : List AV} {q : vw_C} (hd : decode (am_cc z) pc = .ok (.new idx, 3)) (hq : vwCl[ci]? = some q) (hcl : am_cls ci) (hl : Cond.classLink (am_own z) idx q.1 ∈ am_G) (hin : Cond.instantiable q.1 q.2.2 ∈ am_G) (hini : Cond.initialized q.1 ∈ am_G) (hfs : ∀ j, j < q.2.2 → ∃ v, fs[j]? = some v ∧ ∀ ad ax, am_v ad ax v = defaultValue ((parseFieldDescriptor (q.2.1 j).2.2.1).getD .int)) (hok : ∀ v ∈ fs, am_ok 0 v) (hn : q.2.2 ≤ am_U) (hu : 1 ≤ u) (hk : l.length = k9)
    (k : am_T S z d (u - 1) Q (pc + 3) ls (aR (v.length + k9) :: st) (v ++ (l ++ [cO ci fs]))) : am_T S z d u Q pc ls st (v ++ l) := by
  refine T_new ci hd hq hcl hl hin hini hfs hok hn hu ?_
  rw [ap_len hk, List.append_assoc]
  exact k
theorem mi_table_at {S : am_S} {d : Nat} {v l : AH} {k : Nat} (m : Int) (hm : am_i32 m) (hd : 1 ≤ d) (hk : l.length = k) : am_Out S zX10_init d 1 [aR (v.length + k), aI m] (v ++ (l ++ [cO 9 [aI 0, aN, aI 0]])) (.inl none) (v ++ (l ++ [cO 9 [aI (if 12 < m then 12 else m), aR (v.length + (k + 1)), aI 0], cP 0 48 (fun _ => 0)])) := by
  have h := mi_table (S := S) (v := v ++ l) m hm hd
  rw [ap_len hk, List.append_assoc, List.append_assoc] at h
  exact h
