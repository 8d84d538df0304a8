/-! switches, compares of longs, the locals, the heap's reads and writes, the ends -/
def am_kill (ls : List (Option AV)) : Nat → List (Option AV)
  | 0 => ls
  | j + 1 => match ls[j]? with
    | some (some (.inr (.inl _))) => ls.set j none
    | _ => ls
def am_st1 (ls : List (Option AV)) (i : Nat) (v : AV) : List (Option AV) := (am_kill ls i).set i (some v)
def am_st2 (ls : List (Option AV)) (i : Nat) (v : AV) : List (Option AV) := ((am_kill ls i).set i (some v)).set (i + 1) none
def am_lv (ad ax : Nat → Nat) (ls : List (Option AV)) : List (Nat × Value) := ls.zipIdx.filterMap fun q => q.1.map fun v => (q.2, am_v ad ax v)
theorem am_lv_mem {ad ax : Nat → Nat} {ls : List (Option AV)} {q : Nat × Value} : q ∈ am_lv ad ax ls ↔ ∃ v, ls[q.1]? = some (some v) ∧ q.2 = am_v ad ax v := by
  unfold am_lv
  rw [List.mem_filterMap]
  constructor
  · rintro ⟨⟨o, i⟩, h1, h2⟩
    rw [List.mem_zipIdx_iff_getElem?] at h1
    cases o with
    | none => cases h2
    | some v =>
      simp only [Option.map_some, Option.some.injEq] at h2
      subst h2
      exact ⟨v, h1, rfl⟩
  · rintro ⟨v, h1, h2⟩
    refine ⟨(some v, q.1), ?_, ?_⟩
    · rw [List.mem_zipIdx_iff_getElem?]
      exact h1
    · simp only [Option.map_some]
      rw [← h2]
theorem am_L_has {ad ax : Nat → Nat} {n nL : Nat} {lsc : Array Slot} {ls : List (Option AV)} (h : am_L ad ax n nL lsc ls) : lv_has lsc nL (am_lv ad ax ls) := by
  refine ⟨h.1, h.2.2.1, fun q hq => ?_⟩
  obtain ⟨v, h1, h2⟩ := am_lv_mem.mp hq
  rw [h2]
  exact (h.2.2.2 _ _ h1).1
theorem am_kill_len (ls : List (Option AV)) (i : Nat) : (am_kill ls i).length = ls.length := by
  cases i with
  | zero => rfl
  | succ j =>
    simp only [am_kill]
    split
    · simp
    · rfl
theorem am_kill_get {ls : List (Option AV)} {i j : Nat} {v : AV} (hj : j ≠ i) (h : (am_kill ls i)[j]? = some (some v)) : ls[j]? = some (some v) ∧ (j + 1 = i → am_cat v = 1) := by
  cases i with
  | zero => exact ⟨h, fun q => by omega⟩
  | succ k =>
    simp only [am_kill] at h
    split at h
    · rename_i z hz
      rw [List.getElem?_set] at h
      by_cases hk : k = j
      · subst hk
        simp only [if_true] at h
        split at h <;> cases h
      · rw [if_neg hk] at h
        exact ⟨h, fun q => absurd (by omega) hk⟩
    · rename_i hz
      refine ⟨h, fun q => ?_⟩
      have hk : j = k := by omega
      subst hk
      rcases v with x | x | x
      · rfl
      · exact absurd h (hz x)
      · rfl
theorem am_vcat (ad ax : Nat → Nat) (v : AV) : (am_v ad ax v).category = am_cat v := by
  rcases v with x | x | (_ | i) | j <;> rfl
theorem am_L_st1 {ad ax : Nat → Nat} {n nL i : Nat} {lsc' : Array Slot} {ls : List (Option AV)} {v : AV} {l : List (Nat × Value)} (hlen : ls.length = nL) (hok : ∀ (j : Nat) (x : AV), ls[j]? = some (some x) → am_ok n x) (hsub : ∀ q ∈ am_lv ad ax ls, q.1 ≠ i → q ∈ l) (h : lv_has lsc' nL ((i, am_v ad ax v) :: l.filter (fun q => !(q.1 == i) && !(q.1 + 1 == i && q.2.category == 2)))) (hv : am_ok n v) : am_L ad ax n nL lsc' (am_st1 ls i v) := by
  refine ⟨h.1, by unfold am_st1; rw [List.length_set, am_kill_len, hlen], h.2.1, fun j x hj => ?_⟩
  unfold am_st1 at hj
  rw [List.getElem?_set] at hj
  by_cases hi : i = j
  · subst hi
    simp only [if_true] at hj
    split at hj
    · cases hj
      exact ⟨h.2.2 _ List.mem_cons_self, hv⟩
    · cases hj
  · rw [if_neg hi] at hj
    obtain ⟨h1, h2⟩ := am_kill_get (fun q => hi q.symm) hj
    refine ⟨h.2.2 (j, am_v ad ax x) (List.mem_cons_of_mem _ (List.mem_filter.mpr ⟨hsub _ (am_lv_mem.mpr ⟨x, h1, rfl⟩) (fun q => hi q.symm), ?_⟩)), hok _ _ h1⟩
    have hji : (j == i) = false := by simp; exact fun q => hi q.symm
    rw [hji]
    by_cases hq : j + 1 = i
    · rw [am_vcat, h2 hq]
      simp
    · have : (j + 1 == i) = false := by simp [hq]
      rw [this]
      rfl
theorem am_L_st2 {ad ax : Nat → Nat} {n nL i : Nat} {lsc' : Array Slot} {ls : List (Option AV)} {v : AV} (hlen : ls.length = nL) (hok : ∀ (j : Nat) (x : AV), ls[j]? = some (some x) → am_ok n x) (h : lv_has lsc' nL ((i, am_v ad ax v) :: (am_lv ad ax ls).filter (fun q => !(q.1 == i) && (!(q.1 == i + 1) && !(q.1 + 1 == i && q.2.category == 2))))) (hv : am_ok n v) : am_L ad ax n nL lsc' (am_st2 ls i v) := by
  refine ⟨h.1, by unfold am_st2; rw [List.length_set, List.length_set, am_kill_len, hlen], h.2.1, fun j x hj => ?_⟩
  unfold am_st2 at hj
  rw [List.getElem?_set] at hj
  by_cases hi1 : i + 1 = j
  · rw [if_pos hi1] at hj
    split at hj <;> cases hj
  rw [if_neg hi1, List.getElem?_set] at hj
  by_cases hi : i = j
  · subst hi
    simp only [if_true] at hj
    split at hj
    · cases hj
      exact ⟨h.2.2 _ List.mem_cons_self, hv⟩
    · cases hj
  · rw [if_neg hi] at hj
    obtain ⟨h1, h2⟩ := am_kill_get (fun q => hi q.symm) hj
    refine ⟨h.2.2 (j, am_v ad ax x) (List.mem_cons_of_mem _ (List.mem_filter.mpr ⟨am_lv_mem.mpr ⟨x, h1, rfl⟩, ?_⟩)), hok _ _ h1⟩
    have hji : (j == i) = false := by simp; exact fun q => hi q.symm
    have hji1 : (j == i + 1) = false := by simp; exact fun q => hi1 q.symm
    rw [hji, hji1]
    by_cases hq : j + 1 = i
    · rw [am_vcat, h2 hq]
      simp
    · have : (j + 1 == i) = false := by simp [hq]
      rw [this]
      rfl
section AM3
variable {S : am_S} {z : am_Z} {d u : Nat} {Q : AO → AH → Prop} {pc pc' : Nat} {ls ls' : List (Option AV)} {st st' : List AV} {w : AH}
/-- a step that writes the locals -/
theorem am_store (h : ∀ (p : Program) (l : Launch) (e : Env) (R : Room) (s : State) (m : MethodId) (args : Array Value) (below : List Frame) (meth : Method) (c : Code) (H : Heap) (locs : List Loc) (cells slots : Nat) (Z : State → Prop) (lsc : Array Slot) (ad ax : Nat → Nat), p.tables.exec = Jvm.exec → c.code = z.2.2.1 → am_L ad ax w.length z.2.2.2.1 lsc ls → (∀ v ∈ st, am_ok w.length v) →
      (∀ lsc', am_L ad ax w.length z.2.2.2.1 lsc' ls' → W p l e R s m args below meth c H locs cells slots Z (F0 m pc' lsc' (st'.map (am_v ad ax)))) → W p l e R s m args below meth c H locs cells slots Z (F0 m pc lsc (st.map (am_v ad ax))))
    (hok : (∀ v ∈ st, am_ok w.length v) → ∀ v ∈ st', am_ok w.length v) (k : am_T S z d u Q pc' ls' st' w) : am_T S z d u Q pc ls st w := by
  intro p l e R s m args below meth c lo dC dI dA ax n0 ad0 ad H locs cells slots lsc B h1 h2 h3 h4 h5 h6 hR hL hst hS
  exact h p l e R s m args below meth c H locs cells slots _ lsc ad ax B.1 B.2.1 hL hst (fun lsc' hL' => k p l e R s m args below meth c lo dC dI dA ax n0 ad0 ad H locs cells slots lsc' B h1 h2 h3 h4 h5 h6 hR hL' (hok hst) hS)
theorem T_istore_n {i : Fin 4} {v : Int} (hd : decode (am_cc z) pc = .ok (.istore_n i, 1)) (hi : i.val < z.2.2.2.1) (hl : am_st1 ls i.val (aI v) = ls') (k : am_T S z d u Q (pc + 1) ls' st w) : am_T S z d u Q pc ls (aI v :: st) w := by
  subst hl
  exact am_store (fun p l e R s m args below meth c H locs cells slots Z lsc ad ax hx hb hL hst kk => lv_istore_n hx hb hd rfl (am_L_has hL) hi rfl (fun lsc' h => kk lsc' (am_L_st1 hL.2.1 (fun j x hj => (hL.2.2.2 j x hj).2) (fun q hq _ => hq) h (am_ok_hd hst)))) (fun hs => am_ok_tl hs) k
theorem T_istore {i : Nat} {v : Int} (hd : decode (am_cc z) pc = .ok (.istore i, 2)) (hi : i < z.2.2.2.1) (hl : am_st1 ls i (aI v) = ls') (k : am_T S z d u Q (pc + 2) ls' st w) : am_T S z d u Q pc ls (aI v :: st) w := by
  subst hl
  exact am_store (fun p l e R s m args below meth c H locs cells slots Z lsc ad ax hx hb hL hst kk => lv_istore hx hb hd (am_L_has hL) hi rfl (fun lsc' h => kk lsc' (am_L_st1 hL.2.1 (fun j x hj => (hL.2.2.2 j x hj).2) (fun q hq _ => hq) h (am_ok_hd hst)))) (fun hs => am_ok_tl hs) k
theorem T_astore_n {i : Fin 4} {v : Nat} (hd : decode (am_cc z) pc = .ok (.astore_n i, 1)) (hi : i.val < z.2.2.2.1) (hl : am_st1 ls i.val (aR v) = ls') (k : am_T S z d u Q (pc + 1) ls' st w) : am_T S z d u Q pc ls (aR v :: st) w := by
  subst hl
  exact am_store (fun p l e R s m args below meth c H locs cells slots Z lsc ad ax hx hb hL hst kk => lv_astore_n hx hb hd rfl (am_L_has hL) hi rfl (fun lsc' h => kk lsc' (am_L_st1 (v := aR v) hL.2.1 (fun j x hj => (hL.2.2.2 j x hj).2) (fun q hq _ => hq) h (am_ok_hd hst)))) (fun hs => am_ok_tl hs) k
theorem T_astore {i : Nat} {v : Nat} (hd : decode (am_cc z) pc = .ok (.astore i, 2)) (hi : i < z.2.2.2.1) (hl : am_st1 ls i (aR v) = ls') (k : am_T S z d u Q (pc + 2) ls' st w) : am_T S z d u Q pc ls (aR v :: st) w := by
  subst hl
  exact am_store (fun p l e R s m args below meth c H locs cells slots Z lsc ad ax hx hb hL hst kk => lv_astore hx hb hd (am_L_has hL) hi rfl (fun lsc' h => kk lsc' (am_L_st1 (v := aR v) hL.2.1 (fun j x hj => (hL.2.2.2 j x hj).2) (fun q hq _ => hq) h (am_ok_hd hst)))) (fun hs => am_ok_tl hs) k
theorem T_lstore_n {i : Fin 4} {v : Int} (hd : decode (am_cc z) pc = .ok (.lstore_n i, 1)) (hi : i.val + 1 < z.2.2.2.1) (hl : am_st2 ls i.val (aL v) = ls') (k : am_T S z d u Q (pc + 1) ls' st w) : am_T S z d u Q pc ls (aL v :: st) w := by
  subst hl
  exact am_store (fun p l e R s m args below meth c H locs cells slots Z lsc ad ax hx hb hL hst kk => lv_lstore_n hx hb hd rfl (am_L_has hL) hi rfl (fun lsc' h => kk lsc' (am_L_st2 hL.2.1 (fun j x hj => (hL.2.2.2 j x hj).2) h (am_ok_hd hst)))) (fun hs => am_ok_tl hs) k
theorem T_lstore {i : Nat} {v : Int} (hd : decode (am_cc z) pc = .ok (.lstore i, 2)) (hi : i + 1 < z.2.2.2.1) (hl : am_st2 ls i (aL v) = ls') (k : am_T S z d u Q (pc + 2) ls' st w) : am_T S z d u Q pc ls (aL v :: st) w := by
  subst hl
  exact am_store (fun p l e R s m args below meth c H locs cells slots Z lsc ad ax hx hb hL hst kk => lv_lstore hx hb hd (am_L_has hL) hi rfl (fun lsc' h => kk lsc' (am_L_st2 hL.2.1 (fun j x hj => (hL.2.2.2 j x hj).2) h (am_ok_hd hst)))) (fun hs => am_ok_tl hs) k
theorem T_iincW {i : Nat} {n x : Int} (v : Int) (hd : decode (am_cc z) pc = .ok (.iinc i n, 3)) (hx0 : ls[i]? = some (some (aI x))) (hv : Int32.ofInt (x + n) = Int32.ofInt v) (hr : am_i32 v) (hi : i < z.2.2.2.1) (hl : am_st1 ls i (aI v) = ls') (k : am_T S z d u Q (pc + 3) ls' st w) : am_T S z d u Q pc ls st w := by
  subst hl
  exact am_store (fun p l e R s m args below meth c H locs cells slots Z lsc ad ax hx hb hL hst kk => lv_iinc (k := 0) (x := Int32.ofInt x) (lv := (i, .int (Int32.ofInt x)) :: am_lv ad ax ls) hx hb hd ⟨hL.1, hL.2.2.1, fun q hq => by
      rcases List.mem_cons.mp hq with h | h
      · rw [h]
        exact (hL.2.2.2 _ _ hx0).1
      · exact (am_L_has hL).2.2 q h⟩ rfl (v := Int32.ofInt v) (by rw [← Int32.ofInt_add, hv]) hi rfl (fun lsc' h => kk lsc' (am_L_st1 hL.2.1 (fun j x hj => (hL.2.2.2 j x hj).2) (fun q hq _ => List.mem_cons_of_mem _ hq) h (am_okI hr)))) (fun hs => hs) k
theorem T_iinc {i : Nat} {n x : Int} (v : Int) (hd : decode (am_cc z) pc = .ok (.iinc i n, 3)) (hx0 : ls[i]? = some (some (aI x))) (hv : x + n = v) (hr : am_i32 v) (hi : i < z.2.2.2.1) (hl : am_st1 ls i (aI v) = ls') (k : am_T S z d u Q (pc + 3) ls' st w) : am_T S z d u Q pc ls st w := T_iincW v hd hx0 (by rw [hv]) hr hi hl k
-- switches
theorem T_tableIn {dflt lo hi : Int} {offs : Array Int} {len : Nat} {x off : Int} (tgt : Nat) (hd : decode (am_cc z) pc = .ok (.tableswitch dflt lo hi offs, len)) (h1 : lo ≤ x) (h2 : x ≤ hi) (ho : offs[(x - lo).toNat]? = some off) (ht : (pc : Int) + off = (tgt : Int)) (k : am_T S z d u Q tgt ls st w) : am_T S z d u Q pc ls (aI x :: st) w :=
  am_simple (fun p l e R s m args below meth c H locs cells slots Z lsc ad ax hx hb ho9 ht9 hL hst kk => lv_tableIn hx hb hd (by rw [am_i32_i (am_ok_hd hst)]; omega) (by rw [am_i32_i (am_ok_hd hst)]; omega) (off := off) (by rw [am_i32_i (am_ok_hd hst)]; exact ho) ht kk) (fun hs _ => am_ok_tl hs) k
theorem T_tableOut {dflt lo hi : Int} {offs : Array Int} {len : Nat} {x : Int} (tgt : Nat) (hd : decode (am_cc z) pc = .ok (.tableswitch dflt lo hi offs, len)) (h : x < lo ∨ hi < x) (ht : (pc : Int) + dflt = (tgt : Int)) (k : am_T S z d u Q tgt ls st w) : am_T S z d u Q pc ls (aI x :: st) w :=
  am_simple (fun p l e R s m args below meth c H locs cells slots Z lsc ad ax hx hb ho9 ht9 hL hst kk => lv_tableOut hx hb hd (by rw [am_i32_i (am_ok_hd hst)]; exact h) ht kk) (fun hs _ => am_ok_tl hs) k
theorem T_lookup {dflt : Int} {ps : Array (Int × Int)} {len : Nat} {x off : Int} (tgt : Nat) (hd : decode (am_cc z) pc = .ok (.lookupswitch dflt ps, len)) (hp : (ps.toList.zip (ps.toList.drop 1)).all (fun (a, next) => a.1 < next.1) = true) (ho : Op.lookupswitch.offset ps.toList dflt x = off) (ht : (pc : Int) + off = (tgt : Int)) (k : am_T S z d u Q tgt ls st w) : am_T S z d u Q pc ls (aI x :: st) w :=
  am_simple (fun p l e R s m args below meth c H locs cells slots Z lsc ad ax hx hb ho9 ht9 hL hst kk => lv_lookup hx hb hd hp (off := off) (by rw [am_i32_i (am_ok_hd hst)]; exact ho) ht kk) (fun hs _ => am_ok_tl hs) k
theorem T_lcmp {a b : Int} (hd : decode (am_cc z) pc = .ok (.lcmp, 1)) (k : am_T S z d u Q (pc + 1) ls (aI (if b < a then 1 else if a = b then 0 else -1) :: st) w) : am_T S z d u Q pc ls (aL b :: aL a :: st) w :=
  am_simple (fun p l e R s m args below meth c H locs cells slots Z lsc ad ax hx hb ho9 ht9 hL hst kk => W.lcmp hx hb hd (by
    have ha : am_i64 a := am_ok_hd (am_ok_tl hst)
    have hb' : am_i64 b := am_ok_hd hst
    have e1 : (Int64.ofInt b < Int64.ofInt a) ↔ b < a := by rw [Int64.lt_iff_toInt_lt, am_i64_i ha, am_i64_i hb']
    have e2 : (Int64.ofInt a = Int64.ofInt b) ↔ a = b := by rw [← Int64.toInt_inj, am_i64_i ha, am_i64_i hb']
    have e3 : lg_cmp (Int64.ofInt a) (Int64.ofInt b) = Int32.ofInt (if b < a then 1 else if a = b then 0 else -1) := by
      unfold lg_cmp
      by_cases c1 : b < a
      · rw [if_pos c1]
        simp [e1.mpr c1]
      · rw [if_neg c1]
        by_cases c2 : a = b
        · subst c2
          simp
        · rw [if_neg c2]
          simp [e1, e2, c1, c2]
    rw [e3]
    exact kk)) (fun hs _ => am_ok_cons (am_okI (by split; · exact ⟨by decide, by decide⟩
                                                   · split <;> exact ⟨by decide, by decide⟩)) (am_ok_tl (am_ok_tl hs))) k
-- the heap: reads
theorem am_read (h : ∀ (p : Program) (l : Launch) (e : Env) (R : Room) (s : State) (m : MethodId) (args : Array Value) (below : List Frame) (meth : Method) (c : Code) (lo : Nat) (dC : Nat → ClassId) (dI : Nat → Nat → Nat) (dA : Nat → ClassId) (ax : Nat → Nat) (H : Heap) (locs : List Loc) (cells slots : Nat) (Z : State → Prop) (lsc : Array Slot) (ad : Nat → Nat), am_B p l e s m args meth c S z lo dC dI dA ax → am_R dC dI dA ax lo w ad H → (∀ v ∈ st, am_ok w.length v) → va_S (fun q => lo ≤ q) s.heap H locs →
      W p l e R s m args below meth c H locs cells slots Z (F0 m pc' lsc (st'.map (am_v ad ax))) → W p l e R s m args below meth c H locs cells slots Z (F0 m pc lsc (st.map (am_v ad ax))))
    (hok : (∀ v ∈ st, am_ok w.length v) → (∀ c ∈ w, am_okc w.length c) → ∀ v ∈ st', am_ok w.length v) (k : am_T S z d u Q pc' ls st' w) : am_T S z d u Q pc ls st w := by
  intro p l e R s m args below meth c lo dC dI dA ax n0 ad0 ad H locs cells slots lsc B h1 h2 h3 h4 h5 h6 hR hL hst hS
  exact h p l e R s m args below meth c lo dC dI dA ax H locs cells slots _ lsc ad B hR hst hS (k p l e R s m args below meth c lo dC dI dA ax n0 ad0 ad H locs cells slots lsc B h1 h2 h3 h4 h5 h6 hR hL (hok hst hR.2.2) hS)
theorem am_at {dA : Nat → ClassId} {ad ax : Nat → Nat} {a : Nat} {c : AC} (hw : w[a]? = some c) : (am_W dA ad ax w)[a]? = some (ad a, am_c dA ad ax c) := by
  rw [am_W_get, hw]
  rfl
/-- a class of the worlds: its words are there, its types, its names differ -/
def am_cls (ci : Nat) : Prop := ∀ q : vw_C, vwCl[ci]? = some q → (∀ x ∈ u_ws q.1 q.2.1 q.2.2, x ∈ am_G) ∧ (∀ k, k < q.2.2 → (parseFieldDescriptor (q.2.1 k).2.2.1).isSome = true) ∧ (∀ a, a < q.2.2 → ∀ b, b < q.2.2 → a ≠ b → (q.2.1 a).2.1 ≠ (q.2.1 b).2.1)
/-- the entry idx of class own's file is field k of the class ci -/
def am_fl (own : String) (idx ci k : Nat) : Prop := ∃ (q : vw_C) (ref : String), vwCl[ci]? = some q ∧ k < q.2.2 ∧ am_cls ci ∧ Cond.fieldLink own idx ref (q.2.1 k).2.1 (q.2.1 k).2.2.1 ∈ am_G ∧ (ref = (q.2.1 k).1 ∨ Cond.sameField ref (q.2.1 k).1 (q.2.1 k).2.1 (q.2.1 k).2.2.1 ∈ am_G)
theorem am_same {own : String} {ref o n dd : String} {s : State} {args : Array Value} (hts : ∀ x ∈ am_G, x.before args s = true) (h : ref = o ∨ Cond.sameField ref o n dd ∈ am_G) : ∀ x, s.fieldFound? o n dd = some x → s.fieldFound? ref n dd = some x := by
  intro x hx
  rcases h with h | h
  · rw [h]; exact hx
  · exact u_same (hts _ h) x hx
theorem am_ok_of {n : Nat} {ci k : Nat} {fs : List AV} {v : AV} (h : am_okc n (cO ci fs)) (hv : fs[k]? = some v) : am_ok n v := h v (List.mem_of_getElem? hv)
theorem T_getfield {idx a : Nat} (ci k : Nat) {fs : List AV} {v : AV} (hd : decode (am_cc z) pc = .ok (.getfield idx, 3)) (hf : am_fl (am_own z) idx ci k) (hw : w[a]? = some (cO ci fs)) (hv : fs[k]? = some v) (kk : am_T S z d u Q (pc + 3) ls (v :: st) w) : am_T S z d u Q pc ls (aR a :: st) w := by
  obtain ⟨q, ref, g1, g2, g3, g4, g5⟩ := hf
  exact am_read (fun p l e R s m args below meth c lo dC dI dA ax H locs cells slots Z lsc ad B hR hst hS kk => va_get (C := q.1) (T := q.2.1) (N := q.2.2) B.1 B.2.1 B.2.2.2.2.1 (g3 q g1).1 B.2.2.2.1 B.2.2.2.2.2.2.2.2.1 hR.1 a (am_at hw) g1 k g2 (B.2.2.2.2.1 _ g4) (am_same (own := ref) B.2.2.2.2.1 g5) (v := am_v ad ax v) (by rw [List.getElem?_map, hv]; rfl) hd kk)
    (fun hs hc => am_ok_cons (am_ok_of (hc _ (List.mem_of_getElem? hw)) hv) (am_ok_tl hs)) kk
theorem am_ai {n : Nat} {i : Int} {m : Nat} (h0 : 0 ≤ i) (hi : i < m) (hok : am_ok n (aI i)) : vp_in (Int32.ofInt i) m ∧ (Int32.ofInt i).toNatClampNeg = i.toNat := ⟨am_in h0 hok.2 hi, am_cn h0 hok.2⟩
theorem T_iaload {a n : Nat} {f : Nat → Int} {i : Int} (hd : decode (am_cc z) pc = .ok (.iaload, 1)) (hw : w[a]? = some (cP 0 n f)) (h0 : 0 ≤ i) (hi : i < n) (kk : am_T S z d u Q (pc + 1) ls (aI (f i.toNat) :: st) w) : am_T S z d u Q pc ls (aI i :: aR a :: st) w :=
  am_read (fun p l e R s m args below meth c lo dC dI dA ax H locs cells slots Z lsc ad B hR hst hS kk => va_iald (f := fun j => Int32.ofInt (f j)) B.1 B.2.1 B.2.2.2.2.2.2.2.2.1 hR.1 a 0 (am_at hw) rfl (am_ai h0 hi (am_ok_hd hst)).1 hd (by rw [(am_ai h0 hi (am_ok_hd hst)).2]; exact kk))
    (fun hs hc => am_ok_cons (by have := hc _ (List.mem_of_getElem? hw) i.toNat; exact (by simpa using this : am_i32 _)) (am_ok_tl (am_ok_tl hs))) kk
theorem T_baload {a n : Nat} {f : Nat → Int} {i : Int} (hd : decode (am_cc z) pc = .ok (.baload, 1)) (hw : w[a]? = some (cP 1 n f)) (h0 : 0 ≤ i) (hi : i < n) (kk : am_T S z d u Q (pc + 1) ls (aI (f i.toNat) :: st) w) : am_T S z d u Q pc ls (aI i :: aR a :: st) w :=
  am_read (fun p l e R s m args below meth c lo dC dI dA ax H locs cells slots Z lsc ad B hR hst hS kk => va_zald (f := fun j => Int32.ofInt (f j)) B.1 B.2.1 B.2.2.2.2.2.2.2.2.1 hR.1 a 1 (am_at hw) rfl (am_ai h0 hi (am_ok_hd hst)).1 hd (by rw [(am_ai h0 hi (am_ok_hd hst)).2]; exact kk))
    (fun hs hc => am_ok_cons (by have := hc _ (List.mem_of_getElem? hw) i.toNat; exact (by simpa using this : am_i32 _)) (am_ok_tl (am_ok_tl hs))) kk
theorem T_laload {a n : Nat} {f : Nat → Int} {i : Int} (hd : decode (am_cc z) pc = .ok (.laload, 1)) (hw : w[a]? = some (cP 2 n f)) (h0 : 0 ≤ i) (hi : i < n) (kk : am_T S z d u Q (pc + 1) ls (aL (f i.toNat) :: st) w) : am_T S z d u Q pc ls (aI i :: aR a :: st) w :=
  am_read (fun p l e R s m args below meth c lo dC dI dA ax H locs cells slots Z lsc ad B hR hst hS kk => va_lald (f := fun j => Int64.ofInt (f j)) B.1 B.2.1 B.2.2.2.2.2.2.2.2.1 hR.1 a 2 (am_at hw) rfl (am_ai h0 hi (am_ok_hd hst)).1 hd (by rw [(am_ai h0 hi (am_ok_hd hst)).2]; exact kk))
    (fun hs hc => am_ok_cons (by have := hc _ (List.mem_of_getElem? hw) i.toNat; exact (by simpa using this : am_i64 _)) (am_ok_tl (am_ok_tl hs))) kk
theorem am_rf (ad ax : Nat → Nat) (r : Option Nat) : va_rf (r.map ad) = am_v ad ax (aQ r) := by cases r <;> rfl
theorem T_aaload {a n t : Nat} {f : Nat → Option Nat} {i : Int} (hd : decode (am_cc z) pc = .ok (.aaload, 1)) (ht : t = 3 ∨ t = 4) (hw : w[a]? = some (cQ t n f)) (h0 : 0 ≤ i) (hi : i < n) (kk : am_T S z d u Q (pc + 1) ls (aQ (f i.toNat) :: st) w) : am_T S z d u Q pc ls (aI i :: aR a :: st) w :=
  am_read (fun p l e R s m args below meth c lo dC dI dA ax H locs cells slots Z lsc ad B hR hst hS kk => by
    have hlt : i.toNat < n := by omega
    have hin := (am_ai h0 hi (am_ok_hd hst)).1
    have hcn := (am_ai h0 hi (am_ok_hd hst)).2
    have hK := B.2.2.2.2.2.2.2.2.1
    have hc : H[ad a]? = some (vp_cell (dA t) (n, .inr (.inr (.inr (.inr (fun j => (f j).map ad)))))) := hR.1 a _ (am_at hw)
    obtain ⟨ty, hty, hArr⟩ : ∃ ty : FieldType, ty.isReference = true ∧ ArrOfT s (dA t) ty := by
      rcases ht with rfl | rfl
      · exact ⟨.array .int, rfl, (hK.2 3 _ rfl).1⟩
      · exact ⟨.object RX4, rfl, (hK.2 4 _ rfl).1⟩
    refine W.aald (v := va_rf ((f i.toNat).map ad)) (ty := ty) B.1 B.2.1 hc (hArr n (fun j => va_rf ((f j).map ad))) hty (fun q => by cases q) (by show ¬ (Int32.ofInt i < 0 ∨ (arrV _ _ _).slots.size ≤ _); rw [arrV_size]; exact hin) (by show (arrV _ _ _).slots[_]? = _; rw [hcn, arrV_read _ _ hlt]) rfl rfl hd ?_
    rw [am_rf (ax := ax)]
    exact kk)
    (fun hs hc => am_ok_cons (by
      cases hj : f i.toNat with
      | none => trivial
      | some j => exact hc _ (List.mem_of_getElem? hw) _ _ hj) (am_ok_tl (am_ok_tl hs))) kk
theorem T_alenP {a n t : Nat} {f : Nat → Int} (hd : decode (am_cc z) pc = .ok (.arraylength, 1)) (ht : t < 3) (hw : w[a]? = some (cP t n f)) (hn : n < 2147483648) (kk : am_T S z d u Q (pc + 1) ls (aI n :: st) w) : am_T S z d u Q pc ls (aR a :: st) w :=
  am_read (fun p l e R s m args below meth c lo dC dI dA ax H locs cells slots Z lsc ad B hR hst hS kk => by
    have hK := B.2.2.2.2.2.2.2.2.1
    obtain ⟨ty, hty⟩ : ∃ ty : FieldType, (am_tys dA)[t]? = some (dA t, ty) := by
      match t, ht with
      | 0, _ => exact ⟨_, rfl⟩
      | 1, _ => exact ⟨_, rfl⟩
      | 2, _ => exact ⟨_, rfl⟩
    exact va_alen B.1 B.2.1 hK hR.1 a t (am_at hw) hty (v := Int32.ofInt n) rfl hd kk)
    (fun hs hc => am_ok_cons (am_okI ⟨by omega, by omega⟩) (am_ok_tl hs)) kk
-- the heap: writes
theorem am_okl {w : AH} {a : Nat} {c1 : AC} (h : ∀ c ∈ w, am_okc w.length c) (h1 : am_okc w.length c1) : ∀ c ∈ w.set a c1, am_okc (w.set a c1).length c := by
  intro c hc
  rw [List.length_set]
  rcases List.mem_or_eq_of_mem_set hc with q | q
  · exact h c q
  · rw [q]; exact h1
theorem am_write {a : Nat} {c1 : AC} (h : ∀ (p : Program) (l : Launch) (e : Env) (R : Room) (s : State) (m : MethodId) (args : Array Value) (below : List Frame) (meth : Method) (c : Code) (lo : Nat) (dC : Nat → ClassId) (dI : Nat → Nat → Nat) (dA : Nat → ClassId) (ax : Nat → Nat) (H : Heap) (locs : List Loc) (cells slots : Nat) (Z : State → Prop) (lsc : Array Slot) (ad : Nat → Nat), am_B p l e s m args meth c S z lo dC dI dA ax → am_R dC dI dA ax lo w ad H → (∀ v ∈ st, am_ok w.length v) → va_S (fun q => lo ≤ q) s.heap H locs →
      (∀ (H1 : Heap) (locs1 : List Loc), va_P (dC, dI) vwCl ((am_W dA ad ax w).set a (ad a, am_c dA ad ax c1)) H1 → va_D (fun q => lo ≤ q) ((am_W dA ad ax w).set a (ad a, am_c dA ad ax c1)) → va_S (fun q => lo ≤ q) s.heap H1 locs1 → W p l e R s m args below meth c H1 locs1 cells slots Z (F0 m pc' lsc (st'.map (am_v ad ax)))) → W p l e R s m args below meth c H locs cells slots Z (F0 m pc lsc (st.map (am_v ad ax))))
    (hok : (∀ v ∈ st, am_ok w.length v) → (∀ c ∈ w, am_okc w.length c) → am_okc w.length c1) (hst' : (∀ v ∈ st, am_ok w.length v) → ∀ v ∈ st', am_ok w.length v) (k : am_T S z d u Q pc' ls st' (w.set a c1)) : am_T S z d u Q pc ls st w := by
  intro p l e R s m args below meth c lo dC dI dA ax n0 ad0 ad H locs cells slots lsc B h1 h2 h3 h4 h5 h6 hR hL hst hS
  refine h p l e R s m args below meth c lo dC dI dA ax H locs cells slots _ lsc ad B hR hst hS (fun H1 locs1 hP hD hS1 => ?_)
  rw [am_W_set] at hP hD
  have hlen : (w.set a c1).length = w.length := List.length_set
  exact k p l e R s m args below meth c lo dC dI dA ax n0 ad0 ad H1 locs1 cells slots lsc B h1 h2 h3 h4 h5 (by rw [hlen]; exact h6) ⟨hP, hD, am_okl hR.2.2 (hok hst hR.2.2)⟩ (by rw [hlen]; exact hL) (by rw [hlen]; exact hst' hst) hS1
def am_fit : FieldType → AV → Prop
  | .int, .inl _ => True
  | .boolean, .inl z => z = 0 ∨ z = 1
  | .object _, .inr (.inr _) => True
  | .array _, .inr (.inr _) => True
  | _, _ => False
theorem am_fits {ty : FieldType} {v : AV} (ad ax : Nat → Nat) (h : am_fit ty v) : narrow ty (am_v ad ax v) = am_v ad ax v ∧ fits ty (am_v ad ax v) = true := by
  rcases v with x | x | (_ | i) | j <;> cases ty <;> first | exact h.elim | exact ⟨rfl, rfl⟩ | skip
  rcases h with rfl | rfl <;> exact ⟨rfl, rfl⟩
theorem T_putfield {idx a : Nat} (ci k : Nat) {fs fs' : List AV} {v : AV} {ty : FieldType} {q : vw_C} (hd : decode (am_cc z) pc = .ok (.putfield idx, 3)) (hf : am_fl (am_own z) idx ci k) (hq : vwCl[ci]? = some q) (hfin : (q.2.1 k).2.2.2 = false) (hty : parseFieldDescriptor (q.2.1 k).2.2.1 = some ty) (hfit : am_fit ty v) (hw : w[a]? = some (cO ci fs)) (hk : k < fs.length) (hfs : fs.set k v = fs') (kk : am_T S z d u Q (pc + 3) ls st (w.set a (cO ci fs'))) : am_T S z d u Q pc ls (v :: aR a :: st) w := by
  subst hfs
  obtain ⟨q', ref, g1, g2, g3, g4, g5⟩ := hf
  cases Option.some.inj (hq.symm.trans g1)
  refine am_write (fun p l e R s m args below meth c lo dC dI dA ax H locs cells slots Z lsc ad B hR hst hS kk => ?_) (fun hs hc => ?_) (fun hs => am_ok_tl (am_ok_tl hs)) kk
  · obtain ⟨c1, c2, c3⟩ := g3 q g1
    refine va_put (C := q.1) (T := q.2.1) (N := q.2.2) (v := am_v ad ax v) B.1 B.2.1 B.2.2.2.2.1 c1 (fun j => ((parseFieldDescriptor (q.2.1 j).2.2.1).getD .int)) (fun j hj => ?_) c3 B.2.2.2.1 B.2.2.2.2.2.2.2.2.1 hR.1 hR.2.1 hS a (am_at hw) g1 k g2 (B.2.2.2.2.1 _ g4) (am_same (own := ref) B.2.2.2.2.1 g5) hfin hty (am_fits ad ax hfit).1 (am_fits ad ax hfit).2 (by simpa using hk) hd (fun H1 locs1 hP hD hS1 => kk H1 locs1 ?_ ?_ hS1)
    · obtain ⟨y, hy⟩ := Option.isSome_iff_exists.mp (c2 j hj)
      rw [hy]
      rfl
    · rw [← List.map_set] at hP
      exact hP
    · rw [← List.map_set] at hD
      exact hD
  · intro x hx
    rcases List.mem_or_eq_of_mem_set hx with h | h
    · exact hc _ (List.mem_of_getElem? hw) x h
    · rw [h]; exact am_ok_hd hs
theorem T_putfinal {idx a : Nat} (ci k : Nat) {fs fs' : List AV} {v : AV} {ty : FieldType} {q : vw_C} (hd : decode (am_cc z) pc = .ok (.putfield idx, 3)) (hf : am_fl (am_own z) idx ci k) (hq : vwCl[ci]? = some q) (hfin : (q.2.1 k).2.2.2 = true) (hin : z.2.1.name = "<init>") (hdecl : (q.2.1 k).1 = am_own z) (hty : parseFieldDescriptor (q.2.1 k).2.2.1 = some ty) (hfit : am_fit ty v) (hw : w[a]? = some (cO ci fs)) (hk : k < fs.length) (hfs : fs.set k v = fs') (kk : am_T S z d u Q (pc + 3) ls st (w.set a (cO ci fs'))) : am_T S z d u Q pc ls (v :: aR a :: st) w := by
  subst hfs
  obtain ⟨q', ref, g1, g2, g3, g4, g5⟩ := hf
  cases Option.some.inj (hq.symm.trans g1)
  refine am_write (fun p l e R s m args below meth c lo dC dI dA ax H locs cells slots Z lsc ad B hR hst hS kk => ?_) (fun hs hc => ?_) (fun hs => am_ok_tl (am_ok_tl hs)) kk
  · obtain ⟨c1, c2, c3⟩ := g3 q g1
    refine va_putF (C := q.1) (T := q.2.1) (N := q.2.2) (v := am_v ad ax v) B.1 B.2.1 B.2.2.2.2.1 c1 (fun j => ((parseFieldDescriptor (q.2.1 j).2.2.1).getD .int)) (fun j hj => ?_) c3 B.2.2.2.1 B.2.2.2.2.2.2.2.2.1 hR.1 hR.2.1 hS a (am_at hw) g1 k g2 (B.2.2.2.2.1 _ g4) (am_same (own := ref) B.2.2.2.2.1 g5) hfin (by rw [B.2.2.2.2.2.2.2.2.2.2.2.2]; exact hin) hdecl hty (am_fits ad ax hfit).1 (am_fits ad ax hfit).2 (by simpa using hk) hd (fun H1 locs1 hP hD hS1 => kk H1 locs1 ?_ ?_ hS1)
    · obtain ⟨y, hy⟩ := Option.isSome_iff_exists.mp (c2 j hj)
      rw [hy]
      rfl
    · rw [← List.map_set] at hP
      exact hP
    · rw [← List.map_set] at hD
      exact hD
  · intro x hx
    rcases List.mem_or_eq_of_mem_set hx with h | h
    · exact hc _ (List.mem_of_getElem? hw) x h
    · rw [h]; exact am_ok_hd hs
def am_up (f : Nat → Int) (k : Nat) (x : Int) : Nat → Int := fun j => if j = k then x else f j
theorem am_upd (f : Nat → Int) (k : Nat) (x : Int) : upd (fun j => Int32.ofInt (f j)) k (Int32.ofInt x) = fun j => Int32.ofInt (am_up f k x j) := by
  funext j
  unfold upd am_up
  split <;> rfl
theorem am_updL (f : Nat → Int) (k : Nat) (x : Int) : vp_updL (fun j => Int64.ofInt (f j)) k (Int64.ofInt x) = fun j => Int64.ofInt (am_up f k x j) := by
  funext j
  unfold vp_updL am_up
  split <;> rfl
theorem T_iastore {a n : Nat} {f : Nat → Int} {i x : Int} (hd : decode (am_cc z) pc = .ok (.iastore, 1)) (hw : w[a]? = some (cP 0 n f)) (h0 : 0 ≤ i) (hi : i < n) (kk : am_T S z d u Q (pc + 1) ls st (w.set a (cP 0 n (am_up f i.toNat x)))) : am_T S z d u Q pc ls (aI x :: aI i :: aR a :: st) w :=
  am_write (c1 := cP 0 n (am_up f i.toNat x)) (fun p l e R s m args below meth c lo dC dI dA ax H locs cells slots Z lsc ad B hR hst hS kk => va_iast (f := fun j => Int32.ofInt (f j)) B.1 B.2.1 B.2.2.2.2.2.2.2.2.1 hR.1 hR.2.1 hS a 0 (am_at hw) rfl (am_ai h0 hi (am_ok_hd (am_ok_tl hst))).1 hd (fun H1 locs1 hP hD hS1 => by
      rw [(am_ai h0 hi (am_ok_hd (am_ok_tl hst))).2, am_upd] at hP hD
      exact kk H1 locs1 hP hD hS1))
    (fun hs hc => fun j => by
      have h : (if 0 = 2 then am_i64 (f j) else am_i32 (f j)) := hc _ (List.mem_of_getElem? hw) j
      show (if 0 = 2 then am_i64 (am_up f i.toNat x j) else am_i32 (am_up f i.toNat x j))
      rw [if_neg (by decide)] at h ⊢
      unfold am_up
      split
      · exact am_ok_hd hs
      · exact h) (fun hs => am_ok_tl (am_ok_tl (am_ok_tl hs))) kk
theorem T_bastore {a n : Nat} {f : Nat → Int} {i x : Int} (hd : decode (am_cc z) pc = .ok (.bastore, 1)) (hw : w[a]? = some (cP 1 n f)) (h0 : 0 ≤ i) (hi : i < n) (hx : x = 0 ∨ x = 1) (kk : am_T S z d u Q (pc + 1) ls st (w.set a (cP 1 n (am_up f i.toNat x)))) : am_T S z d u Q pc ls (aI x :: aI i :: aR a :: st) w :=
  am_write (c1 := cP 1 n (am_up f i.toNat x)) (fun p l e R s m args below meth c lo dC dI dA ax H locs cells slots Z lsc ad B hR hst hS kk => va_zast (f := fun j => Int32.ofInt (f j)) B.1 B.2.1 B.2.2.2.2.2.2.2.2.1 hR.1 hR.2.1 hS a 1 (am_at hw) rfl (am_ai h0 hi (am_ok_hd (am_ok_tl hst))).1 hd (fun H1 locs1 hP hD hS1 => by
      have e : vp_nar .boolean (Int32.ofInt x) = Int32.ofInt x := by rcases hx with rfl | rfl <;> rfl
      rw [(am_ai h0 hi (am_ok_hd (am_ok_tl hst))).2, e, am_upd] at hP hD
      exact kk H1 locs1 hP hD hS1))
    (fun hs hc => fun j => by
      have h : (if 1 = 2 then am_i64 (f j) else am_i32 (f j)) := hc _ (List.mem_of_getElem? hw) j
      show (if 1 = 2 then am_i64 (am_up f i.toNat x j) else am_i32 (am_up f i.toNat x j))
      rw [if_neg (by decide)] at h ⊢
      unfold am_up
      split
      · exact am_ok_hd hs
      · exact h) (fun hs => am_ok_tl (am_ok_tl (am_ok_tl hs))) kk
theorem T_lastore {a n : Nat} {f : Nat → Int} {i x : Int} (hd : decode (am_cc z) pc = .ok (.lastore, 1)) (hw : w[a]? = some (cP 2 n f)) (h0 : 0 ≤ i) (hi : i < n) (kk : am_T S z d u Q (pc + 1) ls st (w.set a (cP 2 n (am_up f i.toNat x)))) : am_T S z d u Q pc ls (aL x :: aI i :: aR a :: st) w :=
  am_write (c1 := cP 2 n (am_up f i.toNat x)) (fun p l e R s m args below meth c lo dC dI dA ax H locs cells slots Z lsc ad B hR hst hS kk => va_last (f := fun j => Int64.ofInt (f j)) B.1 B.2.1 B.2.2.2.2.2.2.2.2.1 hR.1 hR.2.1 hS a 2 (am_at hw) rfl (am_ai h0 hi (am_ok_hd (am_ok_tl hst))).1 hd (fun H1 locs1 hP hD hS1 => by
      rw [(am_ai h0 hi (am_ok_hd (am_ok_tl hst))).2] at hP hD
      change va_P _ _ ((am_W dA ad ax w).set a (ad a, .inl (dA 2, n, .inr (.inl (vp_updL (fun j => Int64.ofInt (f j)) i.toNat (Int64.ofInt x)))))) H1 at hP
      change va_D _ ((am_W dA ad ax w).set a (ad a, .inl (dA 2, n, .inr (.inl (vp_updL (fun j => Int64.ofInt (f j)) i.toNat (Int64.ofInt x)))))) at hD
      rw [am_updL] at hP hD
      exact kk H1 locs1 hP hD hS1))
    (fun hs hc => fun j => by
      have h : (if 2 = 2 then am_i64 (f j) else am_i32 (f j)) := hc _ (List.mem_of_getElem? hw) j
      show (if 2 = 2 then am_i64 (am_up f i.toNat x j) else am_i32 (am_up f i.toNat x j))
      rw [if_pos rfl] at h ⊢
      unfold am_up
      split
      · exact am_ok_hd hs
      · exact h) (fun hs => am_ok_tl (am_ok_tl (am_ok_tl hs))) kk
-- the ends
theorem am_FE {s : State} {Hs : Heap} {A : Nat → Prop} {H : Heap} {locs : List Loc} {t : State} (hS : va_S A s.heap H locs) (ht : t.heap = H) : va_F A s t := ⟨by rw [ht]; exact hS.1, fun q h1 h2 => by rw [ht]; exact hS.2.1 q h1 h2⟩
theorem T_ireturn {v : Int} (hd : decode (am_cc z) pc = .ok (.ireturn, 1)) (hr : z.2.2.2.2.1 = some .int) (hq : Q (.inl (some (aI v))) w) : am_T S z d u Q pc ls [aI v] w := by
  intro p l e R s m args below meth c lo dC dI dA ax n0 ad0 ad H locs cells slots lsc B h1 h2 h3 h4 h5 h6 hR hL hst hS
  refine vx_ret (W.widen (k := R.cells) (n := R.slots) (by omega) (by omega) (W.iret B.1 B.2.1 (B.2.2.2.2.2.1.trans hr) (fun t ht hW => ?_) hS.2.2 hd B.2.2.2.2.2.2.1))
  exact ⟨⟨some (aI v), w, ad, rfl, h5, h6, by rw [ht]; exact hR, fun x hx => by cases hx; exact am_ok_hd hst, hq⟩, am_FE (Hs := H) hS ht⟩
theorem T_zreturn {v : Int} (hd : decode (am_cc z) pc = .ok (.ireturn, 1)) (hr : z.2.2.2.2.1 = some .boolean) (hv : v = 0 ∨ v = 1) (hq : Q (.inl (some (aI v))) w) : am_T S z d u Q pc ls [aI v] w := by
  intro p l e R s m args below meth c lo dC dI dA ax n0 ad0 ad H locs cells slots lsc B h1 h2 h3 h4 h5 h6 hR hL hst hS
  refine vx_ret (W.widen (k := R.cells) (n := R.slots) (by omega) (by omega) (W.zret B.1 B.2.1 (B.2.2.2.2.2.1.trans hr) (by rcases hv with rfl | rfl <;> rfl) (fun t ht hW => ?_) hS.2.2 hd B.2.2.2.2.2.2.1))
  exact ⟨⟨some (aI v), w, ad, rfl, h5, h6, by rw [ht]; exact hR, fun x hx => by cases hx; exact am_ok_hd hst, hq⟩, am_FE (Hs := H) hS ht⟩
theorem T_return (hd : decode (am_cc z) pc = .ok (.return_, 1)) (hr : z.2.2.2.2.1 = none) (hq : Q (.inl none) w) : am_T S z d u Q pc ls [] w := by
  intro p l e R s m args below meth c lo dC dI dA ax n0 ad0 ad H locs cells slots lsc B h1 h2 h3 h4 h5 h6 hR hL hst hS
  refine vx_ret (W.widen (k := R.cells) (n := R.slots) (by omega) (by omega) (W.vret B.1 B.2.1 (B.2.2.2.2.2.1.trans hr) (fun t ht hW => ?_) hS.2.2 hd B.2.2.2.2.2.2.1))
  exact ⟨⟨none, w, ad, rfl, h5, h6, by rw [ht]; exact hR, fun x hx => (by cases hx), hq⟩, am_FE (Hs := H) hS ht⟩
theorem T_lreturn {v : Int} (hd : decode (am_cc z) pc = .ok (.lreturn, 1)) (hr : z.2.2.2.2.1 = some .long) (hq : Q (.inl (some (aL v))) w) : am_T S z d u Q pc ls [aL v] w := by
  intro p l e R s m args below meth c lo dC dI dA ax n0 ad0 ad H locs cells slots lsc B h1 h2 h3 h4 h5 h6 hR hL hst hS
  refine vx_ret (W.widen (k := R.cells) (n := R.slots) (by omega) (by omega) (W.lret B.1 B.2.1 (B.2.2.2.2.2.1.trans hr) (fun t ht hW => ?_) hS.2.2 hd B.2.2.2.2.2.2.1))
  exact ⟨⟨some (aL v), w, ad, rfl, h5, h6, by rw [ht]; exact hR, fun x hx => by cases hx; exact am_ok_hd hst, hq⟩, am_FE (Hs := H) hS ht⟩
theorem T_mono {Q2 : AO → AH → Prop} (h : am_T S z d u Q pc ls st w) (hm : ∀ o w', Q o w' → Q2 o w') : am_T S z d u Q2 pc ls st w := by
  intro p l e R s m args below meth c lo dC dI dA ax n0 ad0 ad H locs cells slots lsc B h1 h2 h3 h4 h5 h6 hR hL hst hS
  intro T hT X
  obtain ⟨t, a1, b1⟩ := h p l e R s m args below meth c lo dC dI dA ax n0 ad0 ad H locs cells slots lsc B h1 h2 h3 h4 h5 h6 hR hL hst hS T hT X
  refine ⟨t, a1, ?_⟩
  obtain ⟨o, e1, e2, e3⟩ := b1
  refine ⟨o, e1, e2, ?_⟩
  rcases e3 with ⟨⟨⟨v, w', ad', f1, f2, f3, f4, f5, f6⟩, f7⟩, g⟩ | ⟨q, g1, E, ce, L, ⟨⟨k, w', ad', f1, f2, f3, f4, f5, f6⟩, f7⟩, g3⟩
  · exact Or.inl ⟨⟨⟨v, w', ad', f1, f2, f3, f4, f5, hm _ _ f6⟩, f7⟩, g⟩
  · exact Or.inr ⟨q, g1, E, ce, L, ⟨⟨k, w', ad', f1, f2, f3, f4, f5, hm _ _ f6⟩, f7⟩, g3⟩
end AM3
