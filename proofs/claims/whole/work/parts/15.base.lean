/-! contracts that tell the outcome, and the heap behind it -/
def am_Out (S : am_S) (y : am_Z) (d u : Nat) (as : List AV) (w : AH) (o : AO) (w1 : AH) : Prop := am_M S y d u as w (fun o' w' => o' = o ∧ w' = w1)
theorem am_cats_nil : ∀ v ∈ ([] : List AV), am_cat v = 1 := fun _ h => by cases h
theorem am_cats_cons {v : AV} {t : List AV} (h : am_cat v = 1) (ht : ∀ x ∈ t, am_cat x = 1) : ∀ x ∈ v :: t, am_cat x = 1 := fun x hx => (List.mem_cons.mp hx).elim (fun e => by rw [e]; exact h) (ht x)
theorem am_gs {w : AH} {a : Nat} {c c0 : AC} (h : w[a]? = some c0) : (w.set a c)[a]? = some c := by
  rw [List.getElem?_set, if_pos rfl, if_pos (List.getElem?_eq_some_iff.mp h).1]
theorem am_gn {w : AH} {a b : Nat} {c c1 : AC} (hne : a ≠ b) (h : w[b]? = some c1) : (w.set a c)[b]? = some c1 := by
  rw [List.getElem?_set_ne hne]
  exact h
theorem am_out {v v' : AV} {w w1 : AH} (h : v = v') (hw : w = w1) : (Sum.inl (some v) : AO) = .inl (some v') ∧ w = w1 := ⟨by rw [h], hw⟩
theorem am_outI {x y : Int} {w : AH} (h : x = y) : (Sum.inl (some (aI x)) : AO) = .inl (some (aI y)) ∧ w = w := ⟨by rw [h], rfl⟩
section AM15
variable {S : am_S} {z y : am_Z} {d u : Nat} {Q : AO → AH → Prop} {pc : Nat} {ls : List (Option AV)} {st rest as : List AV} {w w1 : AH} {v : Option AV}
theorem am_Out.dn {u' : Nat} {o : AO} (h : am_Out S y d u as w o w1) : am_Out S y d u as w o w1 := h
theorem T_callV {idx a d' ci : Nat} {fs : List AV} (h0t : z.2.2.2.2.2 = []) (hd : decode (am_cc z) pc = .ok (.invokevirtual idx, 3)) (hlk : am_lkV (am_own z) idx y as.length) (hw : w[a]? = some (cO ci fs)) (hci : (vwCl[ci]?).map (fun q => q.1) = some y.2.1.cls) (hst : st = as.reverse ++ aR a :: rest) (hcat : (rest.map am_cat).sum ≤ 8) (hd1 : d' + 1 ≤ d)
    (hM : am_Out S y d' 0 (aR a :: as) w (.inl v) w1) (kk : w.length ≤ w1.length → am_T S z d u Q (pc + 3) ls (v.toList ++ rest) w1) : am_T S z d u Q pc ls st w :=
  T_invokeV h0t hd hlk hw hci hst hcat hd1 (Nat.zero_le _) hM (fun v' w' hq hl => by
    obtain ⟨h1, h2⟩ := hq
    cases h1
    subst h2
    exact kk hl) (fun k w' hq _ => by cases hq.1)
theorem T_callVx {idx a d' u' ci k : Nat} {fs : List AV} (h0t : z.2.2.2.2.2 = []) (hd : decode (am_cc z) pc = .ok (.invokevirtual idx, 3)) (hlk : am_lkV (am_own z) idx y as.length) (hw : w[a]? = some (cO ci fs)) (hci : (vwCl[ci]?).map (fun q => q.1) = some y.2.1.cls) (hst : st = as.reverse ++ aR a :: rest) (hcat : (rest.map am_cat).sum ≤ 8) (hd1 : d' + 1 ≤ d) (hu : u' ≤ u)
    (hM : am_Out S y d' u' (aR a :: as) w (.inr k) w1) (kk : Q (.inr k) w1) : am_T S z d u Q pc ls st w :=
  T_invokeV h0t hd hlk hw hci hst hcat hd1 hu hM (fun v' w' hq hl => by cases hq.1) (fun k' w' hq _ => by
    obtain ⟨h1, h2⟩ := hq
    cases h1
    subst h2
    exact kk)
theorem T_callS {idx d' : Nat} (h0t : z.2.2.2.2.2 = []) (hd : decode (am_cc z) pc = .ok (.invokestatic idx, 3)) (hlk : am_lkS (am_own z) idx y as.length) (hst : st = as.reverse ++ rest) (hcat : (rest.map am_cat).sum ≤ 8) (hd1 : d' + 1 ≤ d)
    (hM : am_Out S y d' 0 as w (.inl v) w1) (kk : w.length ≤ w1.length → am_T S z d u Q (pc + 3) ls (v.toList ++ rest) w1) : am_T S z d u Q pc ls st w :=
  T_invokeS h0t hd hlk hst hcat hd1 (Nat.zero_le _) hM (fun v' w' hq hl => by
    obtain ⟨h1, h2⟩ := hq
    cases h1
    subst h2
    exact kk hl) (fun k w' hq _ => by cases hq.1)
theorem T_callU {idx a d' ci : Nat} {fs : List AV} {C X : String} (h0t : z.2.2.2.2.2 = []) (hd : decode (am_cc z) pc = .ok (.invokevirtual idx, 3)) (hlk : am_lkU (am_own z) idx C X y as.length) (hw : w[a]? = some (cO ci fs)) (hci : (vwCl[ci]?).map (fun q => q.1) = some C) (hst : st = as.reverse ++ aR a :: rest) (hcat : (rest.map am_cat).sum ≤ 8) (hd1 : d' + 1 ≤ d)
    (hM : am_Out S y d' 0 (aR a :: as) w (.inl v) w1) (kk : w.length ≤ w1.length → am_T S z d u Q (pc + 3) ls (v.toList ++ rest) w1) : am_T S z d u Q pc ls st w :=
  T_invokeU h0t hd hlk hw hci hst hcat hd1 (Nat.zero_le _) hM (fun k w' hq => by cases hq.1) (fun v' w' hq hl => by
    obtain ⟨h1, h2⟩ := hq
    cases h1
    subst h2
    exact kk hl)
theorem T_callI {idx a d' u' : Nat} (h0t : z.2.2.2.2.2 = []) (hd : decode (am_cc z) pc = .ok (.invokespecial idx, 3)) (hlk : am_lkI (am_own z) idx y as.length) (hst : st = as.reverse ++ aR a :: rest) (hcat : (rest.map am_cat).sum ≤ 8) (hd1 : d' + 1 ≤ d) (hu : u' ≤ u)
    (hM : am_Out S y d' u' (aR a :: as) w (.inl v) w1) (kk : w.length ≤ w1.length → am_T S z d (u - u') Q (pc + 3) ls (v.toList ++ rest) w1) : am_T S z d u Q pc ls st w :=
  T_invokeI h0t hd hlk hst hcat hd1 hu hM (fun k w' hq => by cases hq.1) (fun v' w' hq hl => by
    obtain ⟨h1, h2⟩ := hq
    cases h1
    subst h2
    exact kk hl)
end AM15
/-! folds over a count, and the first that answers -/
def am_fold {α : Type} (g : Int → α → α) (i : Int) : Nat → α → α
  | 0, x => x
  | n + 1, x => am_fold g (i + 1) n (g i x)
theorem am_fold_s {α : Type} (g : Int → α → α) (i : Int) (n : Nat) (x : α) : am_fold g i (n + 1) x = am_fold g (i + 1) n (g i x) := rfl
def am_find {β : Type} (p : Int → Option β) (i : Int) : Nat → Option β
  | 0 => none
  | n + 1 => match p i with
    | some r => some r
    | none => am_find p (i + 1) n
theorem am_find_n {β : Type} {p : Int → Option β} {i : Int} {n : Nat} (h : p i = none) : am_find p i (n + 1) = am_find p (i + 1) n := by
  show (match p i with | some r => some r | none => am_find p (i + 1) n) = _
  rw [h]
theorem am_find_y {β : Type} {p : Int → Option β} {i : Int} {n : Nat} {r : β} (h : p i = some r) : am_find p i (n + 1) = some r := by
  show (match p i with | some r => some r | none => am_find p (i + 1) n) = _
  rw [h]
/-! less told of the locals -/
def am_sub (ls' ls : List (Option AV)) : Prop := ls'.length = ls.length ∧ ∀ (i : Nat) (v : AV), ls'[i]? = some (some v) → ls[i]? = some (some v)
theorem am_sub_nil : am_sub [] [] := ⟨rfl, fun _ _ h => h⟩
theorem am_sub_n {a b : List (Option AV)} {v : Option AV} (h : am_sub a b) : am_sub (none :: a) (v :: b) := ⟨by simp [h.1], fun i v' hi => by
  cases i with
  | zero => simp at hi
  | succ i => exact h.2 i v' (by simpa using hi)⟩
theorem am_sub_s {a b : List (Option AV)} {v : Option AV} (h : am_sub a b) : am_sub (v :: a) (v :: b) := ⟨by simp [h.1], fun i v' hi => by
  cases i with
  | zero => exact hi
  | succ i => exact h.2 i v' (by simpa using hi)⟩
theorem T_weak {S : am_S} {z : am_Z} {d u : Nat} {Q : AO → AH → Prop} {pc : Nat} {ls ls' : List (Option AV)} {st : List AV} {w : AH} (h : am_sub ls' ls) (k : am_T S z d u Q pc ls' st w) : am_T S z d u Q pc ls st w := by
  intro p l e R s m args below meth c lo dC dI dA ax n0 ad0 ad H locs cells slots lsc B h1 h2 h3 h4 h5 h6 hR hL hst hS
  exact k p l e R s m args below meth c lo dC dI dA ax n0 ad0 ad H locs cells slots lsc B h1 h2 h3 h4 h5 h6 hR ⟨hL.1, h.1.trans hL.2.1, hL.2.2.1, fun i v hi => hL.2.2.2 i v (h.2 i v hi)⟩ hst hS
/-! Math.min, max, abs of ints -/
section AM15b
variable {S : am_S} {z y : am_Z} {d u : Nat} {Q : AO → AH → Prop} {pc : Nat} {ls : List (Option AV)} {st : List AV} {w : AH}
def am_lkM (own : String) (idx : Nat) (nm : MethodName) (cd : ByteArray) (n : Nat) : Prop := Cond.methodLink own idx nm ∈ am_G ∧ Cond.static nm ∈ am_G ∧ Cond.initialized "java/lang/Math" ∈ am_G ∧ Cond.code nm cd n (some .int) ∈ am_G
theorem T_mmin {idx : Nat} {a b : Int} (hd : decode (am_cc z) pc = .ok (.invokestatic idx, 3)) (hl : am_lkM (am_own z) idx Lib.Math.min.name Lib.Math.min.code 2) (hcat : (st.map am_cat).sum ≤ 8) (hd1 : 1 ≤ d) (k : am_T S z d u Q (pc + 3) ls (aI (if b < a then b else a) :: st) w) : am_T S z d u Q pc ls (aI b :: aI a :: st) w := by
  intro p l e R s m args below meth c lo dC dI dA ax n0 ad0 ad H locs cells slots lsc B h1 h2 h3 h4 h5 h6 hR hL hst hS
  have hc := am_restW (ad := ad) (ax := ax) hcat
  refine va_mmin B.1 B.2.1 (B.2.2.1.trans hL.1.symm) B.2.2.2.1 (B.ts _ hl.1) (B.ts _ hl.2.1) (B.ts _ hl.2.2.1) (B.ts _ hl.2.2.2) (by omega) (by omega) (by omega) (by omega) hd ?_
  have e1 : (if Int32.ofInt b < Int32.ofInt a then Int32.ofInt b else Int32.ofInt a) = Int32.ofInt (if b < a then b else a) := by
    have := am_lt (am_ok_hd hst : am_i32 b) (am_ok_hd (am_ok_tl hst) : am_i32 a)
    by_cases h : b < a
    · rw [if_pos h, if_pos (this.mpr h)]
    · rw [if_neg h, if_neg (fun q => h (this.mp q))]
  have ha : am_i32 a := am_ok_hd (am_ok_tl hst)
  have hb : am_i32 b := am_ok_hd hst
  have e2 : am_i32 (if b < a then b else a) := ⟨by have := ha.1; have := hb.1; omega, by have := ha.2; have := hb.2; omega⟩
  rw [e1]
  exact k p l e R s m args below meth c lo dC dI dA ax n0 ad0 ad H locs cells slots lsc B h1 h2 h3 h4 h5 h6 hR hL (am_ok_cons (am_okI e2) (am_ok_tl (am_ok_tl hst))) hS
theorem T_mmax {idx : Nat} {a b : Int} (hd : decode (am_cc z) pc = .ok (.invokestatic idx, 3)) (hl : am_lkM (am_own z) idx Lib.Math.max.name Lib.Math.max.code 2) (hcat : (st.map am_cat).sum ≤ 8) (hd1 : 1 ≤ d) (k : am_T S z d u Q (pc + 3) ls (aI (if a < b then b else a) :: st) w) : am_T S z d u Q pc ls (aI b :: aI a :: st) w := by
  intro p l e R s m args below meth c lo dC dI dA ax n0 ad0 ad H locs cells slots lsc B h1 h2 h3 h4 h5 h6 hR hL hst hS
  have hc := am_restW (ad := ad) (ax := ax) hcat
  refine va_mmax B.1 B.2.1 (B.2.2.1.trans hL.1.symm) B.2.2.2.1 (B.ts _ hl.1) (B.ts _ hl.2.1) (B.ts _ hl.2.2.1) (B.ts _ hl.2.2.2) (by omega) (by omega) (by omega) (by omega) hd ?_
  have e1 : (if Int32.ofInt a < Int32.ofInt b then Int32.ofInt b else Int32.ofInt a) = Int32.ofInt (if a < b then b else a) := by
    have := am_lt (am_ok_hd (am_ok_tl hst) : am_i32 a) (am_ok_hd hst : am_i32 b)
    by_cases h : a < b
    · rw [if_pos h, if_pos (this.mpr h)]
    · rw [if_neg h, if_neg (fun q => h (this.mp q))]
  have ha : am_i32 a := am_ok_hd (am_ok_tl hst)
  have hb : am_i32 b := am_ok_hd hst
  have e2 : am_i32 (if a < b then b else a) := ⟨by have := ha.1; have := hb.1; omega, by have := ha.2; have := hb.2; omega⟩
  rw [e1]
  exact k p l e R s m args below meth c lo dC dI dA ax n0 ad0 ad H locs cells slots lsc B h1 h2 h3 h4 h5 h6 hR hL (am_ok_cons (am_okI e2) (am_ok_tl (am_ok_tl hst))) hS
theorem T_mabs {idx : Nat} {a : Int} (hd : decode (am_cc z) pc = .ok (.invokestatic idx, 3)) (hl : am_lkM (am_own z) idx Lib.Math.abs.name Lib.Math.abs.code 1) (hlo : -1000000 < a) (hcat : (st.map am_cat).sum ≤ 8) (hd1 : 1 ≤ d) (k : am_T S z d u Q (pc + 3) ls (aI (if 0 ≤ a then a else 0 - a) :: st) w) : am_T S z d u Q pc ls (aI a :: st) w := by
  intro p l e R s m args below meth c lo dC dI dA ax n0 ad0 ad H locs cells slots lsc B h1 h2 h3 h4 h5 h6 hR hL hst hS
  have hc := am_restW (ad := ad) (ax := ax) hcat
  have ha : am_i32 a := am_ok_hd hst
  refine va_mabs B.1 B.2.1 (B.2.2.1.trans hL.1.symm) B.2.2.2.1 (B.ts _ hl.1) (B.ts _ hl.2.1) (B.ts _ hl.2.2.1) (B.ts _ hl.2.2.2) (by omega) (by omega) (by omega) (by omega) hd ?_
  have e1 : (if 0 ≤ Int32.ofInt a then Int32.ofInt a else 0 - Int32.ofInt a) = Int32.ofInt (if 0 ≤ a then a else 0 - a) := by
    have : (0 : Int32) ≤ Int32.ofInt a ↔ 0 ≤ a := am_le am_z0 ha
    by_cases h : 0 ≤ a
    · rw [if_pos h, if_pos (this.mpr h)]
    · rw [if_neg h, if_neg (fun q => h (this.mp q)), Int32.ofInt_sub]
      rfl
  have e2 : am_i32 (if 0 ≤ a then a else 0 - a) := ⟨by have := ha.1; omega, by have := ha.2; omega⟩
  rw [e1]
  exact k p l e R s m args below meth c lo dC dI dA ax n0 ad0 ad H locs cells slots lsc B h1 h2 h3 h4 h5 h6 hR hL (am_ok_cons (am_okI e2) (am_ok_tl hst)) hS
end AM15b
