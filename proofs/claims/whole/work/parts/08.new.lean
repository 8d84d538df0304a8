/-! rows of arrays, arrays of objects -/
section AM8
variable {S : am_S} {z y : am_Z} {d u : Nat} {Q Qm : AO → AH → Prop} {pc pc' : Nat} {ls : List (Option AV)} {st st' rest as : List AV} {w : AH}
theorem T_newImg {idx : Nat} {n : Int} (hd : decode (am_cc z) pc = .ok (.anewarray idx, 3)) (hcl : Cond.classLink (am_own z) idx RX4 ∈ am_G) (h0 : 0 ≤ n) (hn : n ≤ 3700) (hu : 1 ≤ u) (k : am_T S z d (u - 1) Q (pc + 3) ls (aR w.length :: st) (w ++ [cQ 4 n.toNat (fun _ => none)])) : am_T S z d u Q pc ls (aI n :: st) w := by
  intro p l e R s m args below meth c lo dC dI dA ax n0 ad0 ad H locs cells slots lsc B h1 h2 h3 h4 h5 h6 hR hL hst hS
  have hU : am_U * 1 ≤ am_U * u := Nat.mul_le_mul_left _ hu
  have hU2 : am_U = 3700 := rfl
  refine va_newq (C := RX4) (N' := n.toNat) B.1 B.2.1 B.2.2.2.1 (B.ts _ hcl) B.E.2.2.2.2.2.2.2.2.2.1.2.2.2.1 B.K hR.1 hR.2.1 hS (fun x hx => Nat.le_trans B.lo hx) (fun q => by have := (am_lt (am_ok_hd hst) am_z0).mp q; omega) (am_cn h0 (by omega)) (by show n.toNat * 4 ≤ _; omega) (by omega) (by omega) hd (fun q cA H1 hK hP hD hS1 => ?_)
  have hA : cA = dA 4 := am_cA (hK.2 5 _ rfl).2 (hK.2 4 _ rfl).2
  subst hA
  exact am_new (c1 := cQ 4 n.toNat (fun _ => none)) k hu B h1 h2 h3 h4 h5 h6 hR.2.2 hL (am_ok_tl hst) hP hD (fun j i hj => by cases hj) hS1 (by omega)
def am_upQ (f : Nat → Option Nat) (k : Nat) (x : Option Nat) : Nat → Option Nat := fun j => if j = k then x else f j
theorem am_upQ_eq (ad : Nat → Nat) (f : Nat → Option Nat) (k b : Nat) : va_up (fun j => (f j).map ad) k (some (ad b)) = fun j => (am_upQ f k (some b) j).map ad := by
  funext j
  unfold va_up am_upQ
  split <;> rfl
theorem T_aastore {a b n : Nat} {f : Nat → Option Nat} {fs : List AV} {i : Int} (hd : decode (am_cc z) pc = .ok (.aastore, 1)) (hw : w[a]? = some (cQ 4 n f)) (hb : w[b]? = some (cO 4 fs)) (h0 : 0 ≤ i) (hi : i < n) (kk : am_T S z d u Q (pc + 1) ls st (w.set a (cQ 4 n (am_upQ f i.toNat (some b))))) : am_T S z d u Q pc ls (aR b :: aI i :: aR a :: st) w :=
  am_write (c1 := cQ 4 n (am_upQ f i.toNat (some b))) (fun p l e R s m args below meth c lo dC dI dA ax H locs cells slots Z lsc ad B hR hst hS kk => va_astq (r := (RX4, TX4, 3)) (f := fun j => (f j).map ad) B.1 B.2.1 B.K hR.1 hR.2.1 hS a 4 b 4 (am_at hw) rfl (am_at hb) rfl (am_ai h0 hi (am_ok_hd (am_ok_tl hst))).1 hd (fun H1 locs1 hP hD hS1 => by
      rw [(am_ai h0 hi (am_ok_hd (am_ok_tl hst))).2, am_upQ_eq] at hP hD
      exact kk H1 locs1 hP hD hS1))
    (fun hs hc => fun j i2 => by
      have h : ∀ i2, f j = some i2 → i2 < w.length := fun i2 => hc _ (List.mem_of_getElem? hw) j i2
      show am_upQ f i.toNat (some b) j = some i2 → i2 < w.length
      unfold am_upQ
      split
      · intro q
        cases q
        exact (am_ok_hd hs : b < w.length)
      · exact h i2) (fun hs => am_ok_tl (am_ok_tl (am_ok_tl hs))) kk
theorem am_zip {α : Type} (g : AC × Nat → α) (c : AC) : ∀ (N k : Nat), ((List.replicate N c).zipIdx k).map g = (List.range N).map (fun i => g (c, k + i)) := by
  intro N k
  refine List.ext_getElem? fun j => ?_
  rw [List.getElem?_map, List.getElem?_map, List.getElem?_zipIdx, List.getElem?_replicate]
  by_cases h : j < N
  · rw [if_pos h, List.getElem?_range h]
    rfl
  · rw [if_neg h, List.getElem?_eq_none (by rw [List.length_range]; omega)]
    rfl
theorem T_mna {idx : Nat} {n m9 : Int} (hd : decode (am_cc z) pc = .ok (.multianewarray idx 2, 4)) (hcl : Cond.classLink (am_own z) idx "[[I" ∈ am_G) (har : Cond.arrayClass .int ∈ am_G) (h0 : 0 ≤ n) (hn : n ≤ 3700) (h0m : 0 ≤ m9) (hm : m9 ≤ 3700) (hu : 1 + n.toNat ≤ u)
    (k : am_T S z d (u - (1 + n.toNat)) Q (pc + 4) ls (aR w.length :: st) (w ++ (cQ 3 n.toNat (fun i => if i < n.toNat then some (w.length + 1 + i) else none) :: List.replicate n.toNat (cP 0 m9.toNat (fun _ => 0))))) : am_T S z d u Q pc ls (aI m9 :: aI n :: st) w := by
  intro p l e R s m args below meth c lo dC dI dA ax n0 ad0 ad H locs cells slots lsc B h1 h2 h3 h4 h5 h6 hR hL hst hS
  have on : am_i32 n := am_ok_hd (am_ok_tl hst)
  have om : am_i32 m9 := am_ok_hd hst
  have hU2 : am_U = 3700 := rfl
  obtain ⟨N, hN⟩ : ∃ N : Nat, N = n.toNat := ⟨_, rfl⟩
  obtain ⟨M, hM⟩ : ∃ M : Nat, M = m9.toNat := ⟨_, rfl⟩
  rw [← hN, ← hM] at k
  rw [← hN] at hu
  have hU : am_U * (1 + N) + am_U * (u - (1 + N)) = am_U * u := by rw [← Nat.mul_add]; congr 1; omega
  have hNM : N + N * M ≤ am_U * (1 + N) := by
    rw [Nat.mul_add, Nat.mul_one]
    have : N * M ≤ am_U * N := by rw [Nat.mul_comm]; exact Nat.mul_le_mul_right _ (by omega)
    omega
  have hcy : s.vm.findClass (FieldType.array .int).toString = some (dA 0) := (B.K.2 0 _ rfl).2
  refine va_mna (X := am_W dA ad ax w) (L := []) (f := fun _ => .inr (0, [])) (ty := .int) (N' := N) (K' := M) (z := (M, .inl (fun _ => Int32.ofInt 0))) B.1 B.2.1 B.2.2.2.1 (B.ts _ hcl) B.E.2.2.2.2.2.2.2.2.2.1.2.2.2.2 (B.ts _ har) hcy B.K (by rw [show va_pl [] (fun _ => (Sum.inr (0, []) : va_E)) = [] from rfl, List.append_nil]; exact hR.1) (by rw [show va_pl [] (fun _ => (Sum.inr (0, []) : va_E)) = [] from rfl, List.append_nil]; exact hR.2.1) hS (fun x hx => Nat.le_trans B.lo hx)
    (fun q => by have := (am_lt on am_z0).mp q; omega) (fun q => by have := (am_lt om am_z0).mp q; omega) (by rw [hN]; exact am_cn h0 (by omega)) (by rw [hM]; exact am_cn h0m (by omega)) (by omega) (by show M * 4 ≤ _; omega) (by omega) rfl rfl (by omega) (by omega) (fun c9 => by rw [vp_cell_i]; exact arrV_new _ _ _) hd (fun q r cA H1 hinj hnl hK hP hD hS1 => ?_)
  have hA : cA = dA 3 := am_cA (hK.2 5 _ rfl).2 (hK.2 3 _ rfl).2
  subst hA
  obtain ⟨ad', had⟩ : ∃ ad' : Nat → Nat, ad' = fun i => if i < w.length then ad i else if i = w.length then q else r (i - (w.length + 1)) := ⟨_, rfl⟩
  have e0 : ad' w.length = q := by rw [had]; simp
  have e1 : ∀ i, i < w.length → ad' i = ad i := fun i hi => by rw [had]; simp [hi]
  have e2 : ∀ i, ad' (w.length + 1 + i) = r i := fun i => by
    rw [had]
    simp only
    rw [if_neg (by omega), if_neg (by omega)]
    congr 1
    omega
  generalize hcs : (cQ 3 N (fun i => if i < N then some (w.length + 1 + i) else none) :: List.replicate N (cP 0 M (fun _ => 0)) : List AC) = cs at k
  have hlen : (w ++ cs).length = w.length + (1 + N) := by rw [← hcs]; simp; omega
  have hW : am_W dA ad' ax (w ++ cs) = (am_W dA ad ax w ++ [(q, .inl (dA 3, N, .inr (.inr (.inr (.inr (fun i => if i < N then some (r i) else none))))))]) ++ va_pl ([] ++ (List.range N).map r) (vr_up (fun _ => .inr (0, [])) ((List.range N).map r) (.inl (dA 0, (M, .inl (fun _ => Int32.ofInt 0))))) := by
    rw [am_W_app, am_W_ext e1 hR.2.2, ← hcs, List.zipIdx_cons, List.map_cons, List.append_assoc, List.nil_append]
    congr 1
    rw [List.singleton_append]
    congr 1
    · show (ad' w.length, am_c dA ad' ax _) = _
      rw [e0]
      unfold am_c
      have : (fun j => Option.map ad' (if j < N then some (w.length + 1 + j) else none)) = fun i => if i < N then some (r i) else none := by
        funext j
        split
        · rw [Option.map_some, e2]
        · rfl
      simp only [this]
    · rw [am_zip, va_pl, List.map_map]
      refine List.map_congr_left fun i hi => ?_
      show (ad' (w.length + 1 + i), am_c dA ad' ax _) = (r i, vr_up _ _ _ (r i))
      rw [e2, vr_up_in (List.mem_map.mpr ⟨i, hi, rfl⟩)]
      rfl
  have hok : ∀ x ∈ w ++ cs, am_okc (w ++ cs).length x := by
    intro x hx
    rw [hlen]
    rcases List.mem_append.mp hx with h | h
    · exact am_okc_mono (by omega) (hR.2.2 x h)
    · rw [← hcs] at h
      rcases List.mem_cons.mp h with h | h
      · rw [h]
        intro j i hj
        simp only at hj
        split at hj
        · cases hj; omega
        · cases hj
      · rw [List.eq_of_mem_replicate h]
        exact fun j => (show am_i32 0 from am_z0)
  have := k p l e R s m args below meth c lo dC dI dA ax n0 ad0 ad' H1 locs (cells + 1 + N) (slots + N + N * M) lsc B h1 h2 (by omega) (by omega) (fun i hi => (e1 i (by omega)).trans (h5 i hi)) (by omega) ⟨by rw [hW]; exact hP, by rw [hW]; exact hD, hok⟩ (am_L_ext hL e1 (by omega)) (am_ok_cons (show w.length < (w ++ cs).length by omega) (fun v hv => am_ok_mono (by omega) (am_ok_tl (am_ok_tl hst) v hv))) hS1
  rw [List.map_cons, am_ad e1 (am_ok_tl (am_ok_tl hst))] at this
  rw [show am_v ad' ax (aR w.length) = Value.ref q by show Value.ref _ = _; rw [e0]] at this
  exact this
end AM8
