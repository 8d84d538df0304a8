/-! the structured walks' own rows; the model's region -/
theorem am_tr {α : Type} (P : α → Prop) {x y : α} (h : x = y) (hx : P x) : P y := h ▸ hx
theorem am_el_s {α β : Type} {o : Option α} {r : α} {x : β} {f : α → β} (h : o = some r) : o.elim x f = f r := by rw [h]; rfl
theorem am_el_n {α β : Type} {o : Option α} {x : β} {f : α → β} (h : o = none) : o.elim x f = x := by rw [h]; rfl
theorem am_put_k {r : am_F} {k i k' j : Nat} {v : Int} (h : k' ≠ k) : am_put r k i v k' j = r k' j := if_neg h
theorem am_put_s {r : am_F} {k i : Nat} {v : Int} : am_put r k i v k i = v := (if_pos rfl).trans (if_pos rfl)
theorem am_put_i {r : am_F} {k i j : Nat} {v : Int} (h : j ≠ i) : am_put r k i v k j = r k j := (if_pos rfl).trans (if_neg h)
/-- a loop by fuel: .inl: on; .inr: out -/
def am_wh {α : Type} (f : α → α ⊕ α) : Nat → α → α
  | 0, x => x
  | n + 1, x => match f x with
    | .inl y => am_wh f n y
    | .inr y => y
theorem am_wh_l {α : Type} {f : α → α ⊕ α} {x y : α} {n : Nat} (h : f x = .inl y) : am_wh f (n + 1) x = am_wh f n y := by
  show (match f x with | .inl y => am_wh f n y | .inr y => y) = _
  rw [h]
theorem am_wh_r {α : Type} {f : α → α ⊕ α} {x y : α} {n : Nat} (h : f x = .inr y) : am_wh f (n + 1) x = y := by
  show (match f x with | .inl y => am_wh f n y | .inr y => y) = _
  rw [h]
theorem T_rng {S : am_S} {z : am_Z} {d u : Nat} {Q : AO → AH → Prop} {pc i : Nat} {ls : List (Option AV)} {st : List AV} {w : AH} {x : Int} (hl : ls[i]? = some (some (aI x))) (k : am_i32 x → am_T S z d u Q pc ls st w) : am_T S z d u Q pc ls st w := fun p l e R s m args below meth c lo dC dI dA ax n0 ad0 ad H locs cells slots lsc B h1 h2 h3 h4 h5 h6 hR hL hst hS =>
  k (hL.2.2.2 i _ hl).2 p l e R s m args below meth c lo dC dI dA ax n0 ad0 ad H locs cells slots lsc B h1 h2 h3 h4 h5 h6 hR hL hst hS
theorem T_nm {S : am_S} {z : am_Z} {d u : Nat} {Q : AO → AH → Prop} {pc : Nat} {ls : List (Option AV)} {st : List AV} {w : AH} {v : Int} (k : ∀ m : Int, m = v → am_T S z d u Q pc ls (aI m :: st) w) : am_T S z d u Q pc ls (aI v :: st) w := k v rfl
theorem T_nmL {S : am_S} {z : am_Z} {d u : Nat} {Q : AO → AH → Prop} {pc : Nat} {ls : List (Option AV)} {st : List AV} {w : AH} {v : Int} (k : ∀ m : Int, m = v → am_T S z d u Q pc ls (aL m :: st) w) : am_T S z d u Q pc ls (aL v :: st) w := k v rfl
theorem T_nmH {S : am_S} {z : am_Z} {d u : Nat} {Q : AO → AH → Prop} {pc : Nat} {ls : List (Option AV)} {st : List AV} {W : am_F → AH} {v : am_F} (k : ∀ m : am_F, m = v → am_T S z d u Q pc ls st (W m)) : am_T S z d u Q pc ls st (W v) := k v rfl
theorem T_aaloadR {S : am_S} {z : am_Z} {d u : Nat} {Q : AO → AH → Prop} {pc : Nat} {ls : List (Option AV)} {st : List AV} {w : AH} {a n t r : Nat} {f : Nat → Option Nat} {i : Int} (hd : decode (am_cc z) pc = .ok (.aaload, 1)) (ht : t = 3 ∨ t = 4) (hw : w[a]? = some (cQ t n f)) (h0 : 0 ≤ i) (hi : i < n) (e : f i.toNat = some r) (kk : am_T S z d u Q (pc + 1) ls (aR r :: st) w) : am_T S z d u Q pc ls (aI i :: aR a :: st) w :=
  T_aaload hd ht hw h0 hi (by rw [e]; exact kk)
def mdO (b : Nat) (f g : Nat → Int) : List AV := [aI (g 0), aI (f 1), aI (f 2), aI (f 3), aI (f 4), aI (f 5), aI (f 6), aI (f 7), aR (b + 1), aR (b + 2), aR (b + 3), aR (b + 4), aR (b + 5), aR (b + 6), aR (b + 7), aR (b + 20), aR (b + 33), aR (b + 46), aR (b + 59), aR (b + 66), aR (b + 74), aR (b + 81), aR (b + 88), aR (b + 95), aR (b + 102), aR (b + 107), aR (b + 112), aR (b + 117), aR (b + 122), aR (b + 127), aI (f 30), aI (f 31), aI (f 32), aI (f 33), aR (b + 132), aR (b + 145), aR (b + 154), aR (b + 158), aR (b + 200), aR (b + 242), aR (b + 250), aR (b + 258), aR (b + 265), aR (b + 266), aR (b + 267), aI (f 45), aI (f 46), aI (f 47), aI (f 48), aI (f 49), aI (f 50), aR (b + 268), aR (b + 277), aR (b + 286), aR (b + 507), aR (b + 728), aI (f 56), aI (f 57), aI (f 58), aI (f 59), aI (g 60), aI (f 61), aR (b + 729), aR (b + 730), aR (b + 731), aR (b + 732), aR (b + 733), aI (g 67), aR (b + 734)]
def mdR (b : Nat) (f g : Nat → Int) (k : Nat) : AC :=
  if k = 0 then cO 11 (mdO b f g)
  else if k = 1 then cP 0 600 f
  else if k = 2 then cP 0 3 g
  else if k = 3 then cP 0 11 f
  else if k = 4 then cP 0 11 f
  else if k = 5 then cP 0 81 f
  else if k = 6 then cP 0 81 f
  else if k = 7 then cQ 3 12 (fun i => if i < 12 then some (b + (8 + i)) else none)
  else if k < 20 then cP 0 4 f
  else if k = 20 then cQ 3 12 (fun i => if i < 12 then some (b + (21 + i)) else none)
  else if k < 33 then cP 0 4 f
  else if k = 33 then cQ 3 12 (fun i => if i < 12 then some (b + (34 + i)) else none)
  else if k < 46 then cP 0 2 f
  else if k = 46 then cQ 3 12 (fun i => if i < 12 then some (b + (47 + i)) else none)
  else if k < 59 then cP 0 2 f
  else if k = 59 then cQ 3 6 (fun i => if i < 6 then some (b + (60 + i)) else none)
  else if k < 66 then cP 0 3 f
  else if k = 66 then cQ 3 7 (fun i => if i < 7 then some (b + (67 + i)) else none)
  else if k < 74 then cP 0 3 f
  else if k = 74 then cQ 3 6 (fun i => if i < 6 then some (b + (75 + i)) else none)
  else if k < 81 then cP 0 3 f
  else if k = 81 then cQ 3 6 (fun i => if i < 6 then some (b + (82 + i)) else none)
  else if k < 88 then cP 0 3 f
  else if k = 88 then cQ 3 6 (fun i => if i < 6 then some (b + (89 + i)) else none)
  else if k < 95 then cP 0 6 f
  else if k = 95 then cQ 3 6 (fun i => if i < 6 then some (b + (96 + i)) else none)
  else if k < 102 then cP 0 6 f
  else if k = 102 then cQ 3 4 (fun i => if i < 4 then some (b + (103 + i)) else none)
  else if k < 107 then cP 0 16 f
  else if k = 107 then cQ 3 4 (fun i => if i < 4 then some (b + (108 + i)) else none)
  else if k < 112 then cP 0 16 f
  else if k = 112 then cQ 3 4 (fun i => if i < 4 then some (b + (113 + i)) else none)
  else if k < 117 then cP 0 2 f
  else if k = 117 then cQ 3 4 (fun i => if i < 4 then some (b + (118 + i)) else none)
  else if k < 122 then cP 0 2 f
  else if k = 122 then cQ 3 4 (fun i => if i < 4 then some (b + (123 + i)) else none)
  else if k < 127 then cP 0 2 f
  else if k = 127 then cQ 3 4 (fun i => if i < 4 then some (b + (128 + i)) else none)
  else if k < 132 then cP 0 2 f
  else if k = 132 then cQ 3 12 (fun i => if i < 12 then some (b + (133 + i)) else none)
  else if k < 145 then cP 0 3 f
  else if k = 145 then cQ 3 8 (fun i => if i < 8 then some (b + (146 + i)) else none)
  else if k < 154 then cP 0 3 f
  else if k = 154 then cQ 3 3 (fun i => if i < 3 then some (b + (155 + i)) else none)
  else if k < 158 then cP 0 143 f
  else if k = 158 then cQ 3 41 (fun i => if i < 41 then some (b + (159 + i)) else none)
  else if k < 200 then cP 0 81 g
  else if k = 200 then cQ 3 41 (fun i => if i < 41 then some (b + (201 + i)) else none)
  else if k < 242 then cP 0 4 g
  else if k = 242 then cQ 3 7 (fun i => if i < 7 then some (b + (243 + i)) else none)
  else if k < 250 then cP 0 41 g
  else if k = 250 then cQ 3 7 (fun i => if i < 7 then some (b + (251 + i)) else none)
  else if k < 258 then cP 0 81 g
  else if k = 258 then cQ 3 6 (fun i => if i < 6 then some (b + (259 + i)) else none)
  else if k < 265 then cP 0 6 g
  else if k = 265 then cP 0 81 g
  else if k = 266 then cP 0 81 g
  else if k = 267 then cP 0 40 g
  else if k = 268 then cQ 3 8 (fun i => if i < 8 then some (b + (269 + i)) else none)
  else if k < 277 then cP 0 3 f
  else if k = 277 then cQ 3 8 (fun i => if i < 8 then some (b + (278 + i)) else none)
  else if k < 286 then cP 0 3 f
  else if k = 286 then cQ 3 220 (fun i => if i < 220 then some (b + (287 + i)) else none)
  else if k < 507 then cP 0 2 f
  else if k = 507 then cQ 3 220 (fun i => if i < 220 then some (b + (508 + i)) else none)
  else if k < 728 then cP 0 2 f
  else if k = 728 then cP 0 220 g
  else if k = 729 then cP 0 81 g
  else if k = 730 then cP 0 81 g
  else if k = 731 then cP 0 4 g
  else if k = 732 then cP 0 12 g
  else if k = 733 then cP 0 12 g
  else if k = 734 then cP 0 40 g
  else cP 0 0 f
def mdC (b : Nat) (c q : am_F) (k : Nat) : AC := mdR b (c k) (q k) k
def mdW (w : AH) (b : Nat) (c q : am_F) : AH := am_ov w b 735 (mdC b c q)
theorem md_c {w : AH} {b : Nat} {c q : am_F} (hl : b + 735 ≤ w.length) (k : Nat) (hk : k < 735) : (mdW w b c q)[b + k]? = some (mdC b c q k) := am_ovi hl k hk
theorem mdW_o {w : AH} {b : Nat} {c q : am_F} {j : Nat} (hj : j < b ∨ b + 735 ≤ j) : (mdW w b c q)[j]? = w[j]? := am_ovo j hj
theorem mdW_self {w : AH} {b : Nat} {c q : am_F} (h : ∀ k, k < 735 → w[b + k]? = some (mdC b c q k)) : mdW w b c q = w := am_ovself h
theorem mdW_W {w : AH} {b : Nat} {c q c2 q2 : am_F} : mdW (mdW w b c q) b c2 q2 = mdW w b c2 q2 := am_ovov
theorem mdW_l {w : AH} {b : Nat} {c q : am_F} : (mdW w b c q).length = w.length := am_ovl
theorem md_obj {w : AH} {b : Nat} {c q : am_F} (hl : b + 735 ≤ w.length) : (mdW w b c q)[b]? = some (cO 11 (mdO b (c 0) (q 0))) := md_c hl 0 (by decide)
theorem md_pc {w : AH} {b : Nat} {c q : am_F} {k i n : Nat} {v : Int} (hk : k < 735) (hr : ∀ f g, mdR b f g k = cP 0 n f) : (mdW w b c q).set (b + k) (cP 0 n (am_up (c k) i v)) = mdW w b (am_put c k i v) q := am_ovset k hk (fun j hj => by
  by_cases e : j = k
  · subst e
    rw [if_pos rfl]
    show _ = mdR b (am_put c j i v j) (q j) j
    rw [show am_put c j i v j = am_up (c j) i v from funext fun x => if_pos rfl, hr]
  · rw [if_neg e]
    show mdR b (c j) (q j) j = mdR b (am_put c k i v j) (q j) j
    rw [show am_put c k i v j = c j from funext fun x => if_neg e])
theorem md_pq {w : AH} {b : Nat} {c q : am_F} {k i n : Nat} {v : Int} (hk : k < 735) (hr : ∀ f g, mdR b f g k = cP 0 n g) : (mdW w b c q).set (b + k) (cP 0 n (am_up (q k) i v)) = mdW w b c (am_put q k i v) := am_ovset k hk (fun j hj => by
  by_cases e : j = k
  · subst e
    rw [if_pos rfl]
    show _ = mdR b (c j) (am_put q j i v j) j
    rw [show am_put q j i v j = am_up (q j) i v from funext fun x => if_pos rfl, hr]
  · rw [if_neg e]
    show mdR b (c j) (q j) j = mdR b (c j) (am_put q k i v j) j
    rw [show am_put q k i v j = q j from funext fun x => if_neg e])
theorem md_fc {w : AH} {b : Nat} {c q : am_F} {i : Nat} {v : Int} : (mdW w b c q).set b (cO 11 (mdO b (am_up (c 0) i v) (q 0))) = mdW w b (am_put c 0 i v) q := am_ovset (b := b) 0 (by decide) (fun j hj => by
  by_cases e : j = 0
  · subst e
    rw [if_pos rfl]
    rfl
  · rw [if_neg e]
    show mdR b (c j) (q j) j = mdR b (am_put c 0 i v j) (q j) j
    rw [show am_put c 0 i v j = c j from funext fun x => if_neg e])
theorem md_fq {w : AH} {b : Nat} {c q : am_F} {i : Nat} {v : Int} : (mdW w b c q).set b (cO 11 (mdO b (c 0) (am_up (q 0) i v))) = mdW w b c (am_put q 0 i v) := am_ovset (b := b) 0 (by decide) (fun j hj => by
  by_cases e : j = 0
  · subst e
    rw [if_pos rfl]
    rfl
  · rw [if_neg e]
    show mdR b (c j) (q j) j = mdR b (c j) (am_put q 0 i v j) j
    rw [show am_put q 0 i v j = q j from funext fun x => if_neg e])
theorem md_fed {w : AH} {b : Nat} {c q : am_F} (hl : b + 735 ≤ w.length) : (mdW w b c q)[b + 1]? = some (cP 0 600 (c 1)) := md_c hl 1 (by decide)
theorem md_refused {w : AH} {b : Nat} {c q : am_F} (hl : b + 735 ≤ w.length) : (mdW w b c q)[b + 2]? = some (cP 0 3 (q 2)) := md_c hl 2 (by decide)
theorem md_readTold {w : AH} {b : Nat} {c q : am_F} (hl : b + 735 ≤ w.length) : (mdW w b c q)[b + 3]? = some (cP 0 11 (c 3)) := md_c hl 3 (by decide)
theorem md_told {w : AH} {b : Nat} {c q : am_F} (hl : b + 735 ≤ w.length) : (mdW w b c q)[b + 4]? = some (cP 0 11 (c 4)) := md_c hl 4 (by decide)
theorem md_readFog {w : AH} {b : Nat} {c q : am_F} (hl : b + 735 ≤ w.length) : (mdW w b c q)[b + 5]? = some (cP 0 81 (c 5)) := md_c hl 5 (by decide)
theorem md_first {w : AH} {b : Nat} {c q : am_F} (hl : b + 735 ≤ w.length) : (mdW w b c q)[b + 6]? = some (cP 0 81 (c 6)) := md_c hl 6 (by decide)
theorem mh_readWind {w : AH} {b : Nat} {c q : am_F} (hl : b + 735 ≤ w.length) : (mdW w b c q)[b + 7]? = some (cQ 3 12 (fun i => if i < 12 then some (b + (8 + i)) else none)) := md_c hl 7 (by decide)
theorem md_t_readWind {b : Nat} (f g : Nat → Int) {j : Nat} (hj : j < 12) : mdR b f g (8 + j) = cP 0 4 f := by
  unfold mdR
  rw [if_neg (by omega), if_neg (by omega), if_neg (by omega), if_neg (by omega), if_neg (by omega), if_neg (by omega), if_neg (by omega), if_neg (by omega), if_pos (by omega)]
theorem mr_readWind {w : AH} {b : Nat} {c q : am_F} (hl : b + 735 ≤ w.length) {i : Int} (h0 : 0 ≤ i) (hi : i < 12) : (mdW w b c q)[b + (8 + i.toNat)]? = some (cP 0 4 (c (8 + i.toNat))) := (md_c hl (8 + i.toNat) (by omega)).trans (congrArg some (md_t_readWind _ _ (by omega)))
theorem mh_wind {w : AH} {b : Nat} {c q : am_F} (hl : b + 735 ≤ w.length) : (mdW w b c q)[b + 20]? = some (cQ 3 12 (fun i => if i < 12 then some (b + (21 + i)) else none)) := md_c hl 20 (by decide)
theorem md_t_wind {b : Nat} (f g : Nat → Int) {j : Nat} (hj : j < 12) : mdR b f g (21 + j) = cP 0 4 f := by
  unfold mdR
  rw [if_neg (by omega), if_neg (by omega), if_neg (by omega), if_neg (by omega), if_neg (by omega), if_neg (by omega), if_neg (by omega), if_neg (by omega), if_neg (by omega), if_neg (by omega), if_pos (by omega)]
theorem mr_wind {w : AH} {b : Nat} {c q : am_F} (hl : b + 735 ≤ w.length) {i : Int} (h0 : 0 ≤ i) (hi : i < 12) : (mdW w b c q)[b + (21 + i.toNat)]? = some (cP 0 4 (c (21 + i.toNat))) := (md_c hl (21 + i.toNat) (by omega)).trans (congrArg some (md_t_wind _ _ (by omega)))
theorem mh_readThin {w : AH} {b : Nat} {c q : am_F} (hl : b + 735 ≤ w.length) : (mdW w b c q)[b + 33]? = some (cQ 3 12 (fun i => if i < 12 then some (b + (34 + i)) else none)) := md_c hl 33 (by decide)
theorem md_t_readThin {b : Nat} (f g : Nat → Int) {j : Nat} (hj : j < 12) : mdR b f g (34 + j) = cP 0 2 f := by
  unfold mdR
  rw [if_neg (by omega), if_neg (by omega), if_neg (by omega), if_neg (by omega), if_neg (by omega), if_neg (by omega), if_neg (by omega), if_neg (by omega), if_neg (by omega), if_neg (by omega), if_neg (by omega), if_neg (by omega), if_pos (by omega)]
theorem mr_readThin {w : AH} {b : Nat} {c q : am_F} (hl : b + 735 ≤ w.length) {i : Int} (h0 : 0 ≤ i) (hi : i < 12) : (mdW w b c q)[b + (34 + i.toNat)]? = some (cP 0 2 (c (34 + i.toNat))) := (md_c hl (34 + i.toNat) (by omega)).trans (congrArg some (md_t_readThin _ _ (by omega)))
theorem mh_thin {w : AH} {b : Nat} {c q : am_F} (hl : b + 735 ≤ w.length) : (mdW w b c q)[b + 46]? = some (cQ 3 12 (fun i => if i < 12 then some (b + (47 + i)) else none)) := md_c hl 46 (by decide)
theorem md_t_thin {b : Nat} (f g : Nat → Int) {j : Nat} (hj : j < 12) : mdR b f g (47 + j) = cP 0 2 f := by
  unfold mdR
  rw [if_neg (by omega), if_neg (by omega), if_neg (by omega), if_neg (by omega), if_neg (by omega), if_neg (by omega), if_neg (by omega), if_neg (by omega), if_neg (by omega), if_neg (by omega), if_neg (by omega), if_neg (by omega), if_neg (by omega), if_neg (by omega), if_pos (by omega)]
theorem mr_thin {w : AH} {b : Nat} {c q : am_F} (hl : b + 735 ≤ w.length) {i : Int} (h0 : 0 ≤ i) (hi : i < 12) : (mdW w b c q)[b + (47 + i.toNat)]? = some (cP 0 2 (c (47 + i.toNat))) := (md_c hl (47 + i.toNat) (by omega)).trans (congrArg some (md_t_thin _ _ (by omega)))
theorem mh_readLamp {w : AH} {b : Nat} {c q : am_F} (hl : b + 735 ≤ w.length) : (mdW w b c q)[b + 59]? = some (cQ 3 6 (fun i => if i < 6 then some (b + (60 + i)) else none)) := md_c hl 59 (by decide)
theorem md_t_readLamp {b : Nat} (f g : Nat → Int) {j : Nat} (hj : j < 6) : mdR b f g (60 + j) = cP 0 3 f := by
  unfold mdR
  rw [if_neg (by omega), if_neg (by omega), if_neg (by omega), if_neg (by omega), if_neg (by omega), if_neg (by omega), if_neg (by omega), if_neg (by omega), if_neg (by omega), if_neg (by omega), if_neg (by omega), if_neg (by omega), if_neg (by omega), if_neg (by omega), if_neg (by omega), if_neg (by omega), if_pos (by omega)]
theorem mr_readLamp {w : AH} {b : Nat} {c q : am_F} (hl : b + 735 ≤ w.length) {i : Int} (h0 : 0 ≤ i) (hi : i < 6) : (mdW w b c q)[b + (60 + i.toNat)]? = some (cP 0 3 (c (60 + i.toNat))) := (md_c hl (60 + i.toNat) (by omega)).trans (congrArg some (md_t_readLamp _ _ (by omega)))
theorem mh_lamp {w : AH} {b : Nat} {c q : am_F} (hl : b + 735 ≤ w.length) : (mdW w b c q)[b + 66]? = some (cQ 3 7 (fun i => if i < 7 then some (b + (67 + i)) else none)) := md_c hl 66 (by decide)
theorem md_t_lamp {b : Nat} (f g : Nat → Int) {j : Nat} (hj : j < 7) : mdR b f g (67 + j) = cP 0 3 f := by
  unfold mdR
  rw [if_neg (by omega), if_neg (by omega), if_neg (by omega), if_neg (by omega), if_neg (by omega), if_neg (by omega), if_neg (by omega), if_neg (by omega), if_neg (by omega), if_neg (by omega), if_neg (by omega), if_neg (by omega), if_neg (by omega), if_neg (by omega), if_neg (by omega), if_neg (by omega), if_neg (by omega), if_neg (by omega), if_pos (by omega)]
theorem mr_lamp {w : AH} {b : Nat} {c q : am_F} (hl : b + 735 ≤ w.length) {i : Int} (h0 : 0 ≤ i) (hi : i < 7) : (mdW w b c q)[b + (67 + i.toNat)]? = some (cP 0 3 (c (67 + i.toNat))) := (md_c hl (67 + i.toNat) (by omega)).trans (congrArg some (md_t_lamp _ _ (by omega)))
theorem mh_readSteamer {w : AH} {b : Nat} {c q : am_F} (hl : b + 735 ≤ w.length) : (mdW w b c q)[b + 74]? = some (cQ 3 6 (fun i => if i < 6 then some (b + (75 + i)) else none)) := md_c hl 74 (by decide)
theorem md_t_readSteamer {b : Nat} (f g : Nat → Int) {j : Nat} (hj : j < 6) : mdR b f g (75 + j) = cP 0 3 f := by
  unfold mdR
  rw [if_neg (by omega), if_neg (by omega), if_neg (by omega), if_neg (by omega), if_neg (by omega), if_neg (by omega), if_neg (by omega), if_neg (by omega), if_neg (by omega), if_neg (by omega), if_neg (by omega), if_neg (by omega), if_neg (by omega), if_neg (by omega), if_neg (by omega), if_neg (by omega), if_neg (by omega), if_neg (by omega), if_neg (by omega), if_neg (by omega), if_pos (by omega)]
theorem mr_readSteamer {w : AH} {b : Nat} {c q : am_F} (hl : b + 735 ≤ w.length) {i : Int} (h0 : 0 ≤ i) (hi : i < 6) : (mdW w b c q)[b + (75 + i.toNat)]? = some (cP 0 3 (c (75 + i.toNat))) := (md_c hl (75 + i.toNat) (by omega)).trans (congrArg some (md_t_readSteamer _ _ (by omega)))
theorem mh_steamer {w : AH} {b : Nat} {c q : am_F} (hl : b + 735 ≤ w.length) : (mdW w b c q)[b + 81]? = some (cQ 3 6 (fun i => if i < 6 then some (b + (82 + i)) else none)) := md_c hl 81 (by decide)
theorem md_t_steamer {b : Nat} (f g : Nat → Int) {j : Nat} (hj : j < 6) : mdR b f g (82 + j) = cP 0 3 f := by
  unfold mdR
  rw [if_neg (by omega), if_neg (by omega), if_neg (by omega), if_neg (by omega), if_neg (by omega), if_neg (by omega), if_neg (by omega), if_neg (by omega), if_neg (by omega), if_neg (by omega), if_neg (by omega), if_neg (by omega), if_neg (by omega), if_neg (by omega), if_neg (by omega), if_neg (by omega), if_neg (by omega), if_neg (by omega), if_neg (by omega), if_neg (by omega), if_neg (by omega), if_neg (by omega), if_pos (by omega)]
theorem mr_steamer {w : AH} {b : Nat} {c q : am_F} (hl : b + 735 ≤ w.length) {i : Int} (h0 : 0 ≤ i) (hi : i < 6) : (mdW w b c q)[b + (82 + i.toNat)]? = some (cP 0 3 (c (82 + i.toNat))) := (md_c hl (82 + i.toNat) (by omega)).trans (congrArg some (md_t_steamer _ _ (by omega)))
theorem mh_readLot {w : AH} {b : Nat} {c q : am_F} (hl : b + 735 ≤ w.length) : (mdW w b c q)[b + 88]? = some (cQ 3 6 (fun i => if i < 6 then some (b + (89 + i)) else none)) := md_c hl 88 (by decide)
theorem md_t_readLot {b : Nat} (f g : Nat → Int) {j : Nat} (hj : j < 6) : mdR b f g (89 + j) = cP 0 6 f := by
  unfold mdR
  rw [if_neg (by omega), if_neg (by omega), if_neg (by omega), if_neg (by omega), if_neg (by omega), if_neg (by omega), if_neg (by omega), if_neg (by omega), if_neg (by omega), if_neg (by omega), if_neg (by omega), if_neg (by omega), if_neg (by omega), if_neg (by omega), if_neg (by omega), if_neg (by omega), if_neg (by omega), if_neg (by omega), if_neg (by omega), if_neg (by omega), if_neg (by omega), if_neg (by omega), if_neg (by omega), if_neg (by omega), if_pos (by omega)]
theorem mr_readLot {w : AH} {b : Nat} {c q : am_F} (hl : b + 735 ≤ w.length) {i : Int} (h0 : 0 ≤ i) (hi : i < 6) : (mdW w b c q)[b + (89 + i.toNat)]? = some (cP 0 6 (c (89 + i.toNat))) := (md_c hl (89 + i.toNat) (by omega)).trans (congrArg some (md_t_readLot _ _ (by omega)))
theorem mh_lot {w : AH} {b : Nat} {c q : am_F} (hl : b + 735 ≤ w.length) : (mdW w b c q)[b + 95]? = some (cQ 3 6 (fun i => if i < 6 then some (b + (96 + i)) else none)) := md_c hl 95 (by decide)
theorem md_t_lot {b : Nat} (f g : Nat → Int) {j : Nat} (hj : j < 6) : mdR b f g (96 + j) = cP 0 6 f := by
  unfold mdR
  rw [if_neg (by omega), if_neg (by omega), if_neg (by omega), if_neg (by omega), if_neg (by omega), if_neg (by omega), if_neg (by omega), if_neg (by omega), if_neg (by omega), if_neg (by omega), if_neg (by omega), if_neg (by omega), if_neg (by omega), if_neg (by omega), if_neg (by omega), if_neg (by omega), if_neg (by omega), if_neg (by omega), if_neg (by omega), if_neg (by omega), if_neg (by omega), if_neg (by omega), if_neg (by omega), if_neg (by omega), if_neg (by omega), if_neg (by omega), if_pos (by omega)]
theorem mr_lot {w : AH} {b : Nat} {c q : am_F} (hl : b + 735 ≤ w.length) {i : Int} (h0 : 0 ≤ i) (hi : i < 6) : (mdW w b c q)[b + (96 + i.toNat)]? = some (cP 0 6 (c (96 + i.toNat))) := (md_c hl (96 + i.toNat) (by omega)).trans (congrArg some (md_t_lot _ _ (by omega)))
theorem mh_readWalker {w : AH} {b : Nat} {c q : am_F} (hl : b + 735 ≤ w.length) : (mdW w b c q)[b + 102]? = some (cQ 3 4 (fun i => if i < 4 then some (b + (103 + i)) else none)) := md_c hl 102 (by decide)
theorem md_t_readWalker {b : Nat} (f g : Nat → Int) {j : Nat} (hj : j < 4) : mdR b f g (103 + j) = cP 0 16 f := by
  unfold mdR
  rw [if_neg (by omega), if_neg (by omega), if_neg (by omega), if_neg (by omega), if_neg (by omega), if_neg (by omega), if_neg (by omega), if_neg (by omega), if_neg (by omega), if_neg (by omega), if_neg (by omega), if_neg (by omega), if_neg (by omega), if_neg (by omega), if_neg (by omega), if_neg (by omega), if_neg (by omega), if_neg (by omega), if_neg (by omega), if_neg (by omega), if_neg (by omega), if_neg (by omega), if_neg (by omega), if_neg (by omega), if_neg (by omega), if_neg (by omega), if_neg (by omega), if_neg (by omega), if_pos (by omega)]
theorem mr_readWalker {w : AH} {b : Nat} {c q : am_F} (hl : b + 735 ≤ w.length) {i : Int} (h0 : 0 ≤ i) (hi : i < 4) : (mdW w b c q)[b + (103 + i.toNat)]? = some (cP 0 16 (c (103 + i.toNat))) := (md_c hl (103 + i.toNat) (by omega)).trans (congrArg some (md_t_readWalker _ _ (by omega)))
theorem mh_walker {w : AH} {b : Nat} {c q : am_F} (hl : b + 735 ≤ w.length) : (mdW w b c q)[b + 107]? = some (cQ 3 4 (fun i => if i < 4 then some (b + (108 + i)) else none)) := md_c hl 107 (by decide)
theorem md_t_walker {b : Nat} (f g : Nat → Int) {j : Nat} (hj : j < 4) : mdR b f g (108 + j) = cP 0 16 f := by
  unfold mdR
  rw [if_neg (by omega), if_neg (by omega), if_neg (by omega), if_neg (by omega), if_neg (by omega), if_neg (by omega), if_neg (by omega), if_neg (by omega), if_neg (by omega), if_neg (by omega), if_neg (by omega), if_neg (by omega), if_neg (by omega), if_neg (by omega), if_neg (by omega), if_neg (by omega), if_neg (by omega), if_neg (by omega), if_neg (by omega), if_neg (by omega), if_neg (by omega), if_neg (by omega), if_neg (by omega), if_neg (by omega), if_neg (by omega), if_neg (by omega), if_neg (by omega), if_neg (by omega), if_neg (by omega), if_neg (by omega), if_pos (by omega)]
theorem mr_walker {w : AH} {b : Nat} {c q : am_F} (hl : b + 735 ≤ w.length) {i : Int} (h0 : 0 ≤ i) (hi : i < 4) : (mdW w b c q)[b + (108 + i.toNat)]? = some (cP 0 16 (c (108 + i.toNat))) := (md_c hl (108 + i.toNat) (by omega)).trans (congrArg some (md_t_walker _ _ (by omega)))
theorem mh_readWatch {w : AH} {b : Nat} {c q : am_F} (hl : b + 735 ≤ w.length) : (mdW w b c q)[b + 112]? = some (cQ 3 4 (fun i => if i < 4 then some (b + (113 + i)) else none)) := md_c hl 112 (by decide)
theorem md_t_readWatch {b : Nat} (f g : Nat → Int) {j : Nat} (hj : j < 4) : mdR b f g (113 + j) = cP 0 2 f := by
  unfold mdR
  rw [if_neg (by omega), if_neg (by omega), if_neg (by omega), if_neg (by omega), if_neg (by omega), if_neg (by omega), if_neg (by omega), if_neg (by omega), if_neg (by omega), if_neg (by omega), if_neg (by omega), if_neg (by omega), if_neg (by omega), if_neg (by omega), if_neg (by omega), if_neg (by omega), if_neg (by omega), if_neg (by omega), if_neg (by omega), if_neg (by omega), if_neg (by omega), if_neg (by omega), if_neg (by omega), if_neg (by omega), if_neg (by omega), if_neg (by omega), if_neg (by omega), if_neg (by omega), if_neg (by omega), if_neg (by omega), if_neg (by omega), if_neg (by omega), if_pos (by omega)]
theorem mr_readWatch {w : AH} {b : Nat} {c q : am_F} (hl : b + 735 ≤ w.length) {i : Int} (h0 : 0 ≤ i) (hi : i < 4) : (mdW w b c q)[b + (113 + i.toNat)]? = some (cP 0 2 (c (113 + i.toNat))) := (md_c hl (113 + i.toNat) (by omega)).trans (congrArg some (md_t_readWatch _ _ (by omega)))
theorem mh_watch {w : AH} {b : Nat} {c q : am_F} (hl : b + 735 ≤ w.length) : (mdW w b c q)[b + 117]? = some (cQ 3 4 (fun i => if i < 4 then some (b + (118 + i)) else none)) := md_c hl 117 (by decide)
theorem md_t_watch {b : Nat} (f g : Nat → Int) {j : Nat} (hj : j < 4) : mdR b f g (118 + j) = cP 0 2 f := by
  unfold mdR
  rw [if_neg (by omega), if_neg (by omega), if_neg (by omega), if_neg (by omega), if_neg (by omega), if_neg (by omega), if_neg (by omega), if_neg (by omega), if_neg (by omega), if_neg (by omega), if_neg (by omega), if_neg (by omega), if_neg (by omega), if_neg (by omega), if_neg (by omega), if_neg (by omega), if_neg (by omega), if_neg (by omega), if_neg (by omega), if_neg (by omega), if_neg (by omega), if_neg (by omega), if_neg (by omega), if_neg (by omega), if_neg (by omega), if_neg (by omega), if_neg (by omega), if_neg (by omega), if_neg (by omega), if_neg (by omega), if_neg (by omega), if_neg (by omega), if_neg (by omega), if_neg (by omega), if_pos (by omega)]
theorem mr_watch {w : AH} {b : Nat} {c q : am_F} (hl : b + 735 ≤ w.length) {i : Int} (h0 : 0 ≤ i) (hi : i < 4) : (mdW w b c q)[b + (118 + i.toNat)]? = some (cP 0 2 (c (118 + i.toNat))) := (md_c hl (118 + i.toNat) (by omega)).trans (congrArg some (md_t_watch _ _ (by omega)))
theorem mh_readShip {w : AH} {b : Nat} {c q : am_F} (hl : b + 735 ≤ w.length) : (mdW w b c q)[b + 122]? = some (cQ 3 4 (fun i => if i < 4 then some (b + (123 + i)) else none)) := md_c hl 122 (by decide)
theorem md_t_readShip {b : Nat} (f g : Nat → Int) {j : Nat} (hj : j < 4) : mdR b f g (123 + j) = cP 0 2 f := by
  unfold mdR
  rw [if_neg (by omega), if_neg (by omega), if_neg (by omega), if_neg (by omega), if_neg (by omega), if_neg (by omega), if_neg (by omega), if_neg (by omega), if_neg (by omega), if_neg (by omega), if_neg (by omega), if_neg (by omega), if_neg (by omega), if_neg (by omega), if_neg (by omega), if_neg (by omega), if_neg (by omega), if_neg (by omega), if_neg (by omega), if_neg (by omega), if_neg (by omega), if_neg (by omega), if_neg (by omega), if_neg (by omega), if_neg (by omega), if_neg (by omega), if_neg (by omega), if_neg (by omega), if_neg (by omega), if_neg (by omega), if_neg (by omega), if_neg (by omega), if_neg (by omega), if_neg (by omega), if_neg (by omega), if_neg (by omega), if_pos (by omega)]
theorem mr_readShip {w : AH} {b : Nat} {c q : am_F} (hl : b + 735 ≤ w.length) {i : Int} (h0 : 0 ≤ i) (hi : i < 4) : (mdW w b c q)[b + (123 + i.toNat)]? = some (cP 0 2 (c (123 + i.toNat))) := (md_c hl (123 + i.toNat) (by omega)).trans (congrArg some (md_t_readShip _ _ (by omega)))
theorem mh_ship {w : AH} {b : Nat} {c q : am_F} (hl : b + 735 ≤ w.length) : (mdW w b c q)[b + 127]? = some (cQ 3 4 (fun i => if i < 4 then some (b + (128 + i)) else none)) := md_c hl 127 (by decide)
theorem md_t_ship {b : Nat} (f g : Nat → Int) {j : Nat} (hj : j < 4) : mdR b f g (128 + j) = cP 0 2 f := by
  unfold mdR
  rw [if_neg (by omega), if_neg (by omega), if_neg (by omega), if_neg (by omega), if_neg (by omega), if_neg (by omega), if_neg (by omega), if_neg (by omega), if_neg (by omega), if_neg (by omega), if_neg (by omega), if_neg (by omega), if_neg (by omega), if_neg (by omega), if_neg (by omega), if_neg (by omega), if_neg (by omega), if_neg (by omega), if_neg (by omega), if_neg (by omega), if_neg (by omega), if_neg (by omega), if_neg (by omega), if_neg (by omega), if_neg (by omega), if_neg (by omega), if_neg (by omega), if_neg (by omega), if_neg (by omega), if_neg (by omega), if_neg (by omega), if_neg (by omega), if_neg (by omega), if_neg (by omega), if_neg (by omega), if_neg (by omega), if_neg (by omega), if_neg (by omega), if_pos (by omega)]
theorem mr_ship {w : AH} {b : Nat} {c q : am_F} (hl : b + 735 ≤ w.length) {i : Int} (h0 : 0 ≤ i) (hi : i < 4) : (mdW w b c q)[b + (128 + i.toNat)]? = some (cP 0 2 (c (128 + i.toNat))) := (md_c hl (128 + i.toNat) (by omega)).trans (congrArg some (md_t_ship _ _ (by omega)))
theorem mh_bid {w : AH} {b : Nat} {c q : am_F} (hl : b + 735 ≤ w.length) : (mdW w b c q)[b + 132]? = some (cQ 3 12 (fun i => if i < 12 then some (b + (133 + i)) else none)) := md_c hl 132 (by decide)
theorem md_t_bid {b : Nat} (f g : Nat → Int) {j : Nat} (hj : j < 12) : mdR b f g (133 + j) = cP 0 3 f := by
  unfold mdR
  rw [if_neg (by omega), if_neg (by omega), if_neg (by omega), if_neg (by omega), if_neg (by omega), if_neg (by omega), if_neg (by omega), if_neg (by omega), if_neg (by omega), if_neg (by omega), if_neg (by omega), if_neg (by omega), if_neg (by omega), if_neg (by omega), if_neg (by omega), if_neg (by omega), if_neg (by omega), if_neg (by omega), if_neg (by omega), if_neg (by omega), if_neg (by omega), if_neg (by omega), if_neg (by omega), if_neg (by omega), if_neg (by omega), if_neg (by omega), if_neg (by omega), if_neg (by omega), if_neg (by omega), if_neg (by omega), if_neg (by omega), if_neg (by omega), if_neg (by omega), if_neg (by omega), if_neg (by omega), if_neg (by omega), if_neg (by omega), if_neg (by omega), if_neg (by omega), if_neg (by omega), if_pos (by omega)]
theorem mr_bid {w : AH} {b : Nat} {c q : am_F} (hl : b + 735 ≤ w.length) {i : Int} (h0 : 0 ≤ i) (hi : i < 12) : (mdW w b c q)[b + (133 + i.toNat)]? = some (cP 0 3 (c (133 + i.toNat))) := (md_c hl (133 + i.toNat) (by omega)).trans (congrArg some (md_t_bid _ _ (by omega)))
theorem mh_gauge {w : AH} {b : Nat} {c q : am_F} (hl : b + 735 ≤ w.length) : (mdW w b c q)[b + 145]? = some (cQ 3 8 (fun i => if i < 8 then some (b + (146 + i)) else none)) := md_c hl 145 (by decide)
theorem md_t_gauge {b : Nat} (f g : Nat → Int) {j : Nat} (hj : j < 8) : mdR b f g (146 + j) = cP 0 3 f := by
  unfold mdR
  rw [if_neg (by omega), if_neg (by omega), if_neg (by omega), if_neg (by omega), if_neg (by omega), if_neg (by omega), if_neg (by omega), if_neg (by omega), if_neg (by omega), if_neg (by omega), if_neg (by omega), if_neg (by omega), if_neg (by omega), if_neg (by omega), if_neg (by omega), if_neg (by omega), if_neg (by omega), if_neg (by omega), if_neg (by omega), if_neg (by omega), if_neg (by omega), if_neg (by omega), if_neg (by omega), if_neg (by omega), if_neg (by omega), if_neg (by omega), if_neg (by omega), if_neg (by omega), if_neg (by omega), if_neg (by omega), if_neg (by omega), if_neg (by omega), if_neg (by omega), if_neg (by omega), if_neg (by omega), if_neg (by omega), if_neg (by omega), if_neg (by omega), if_neg (by omega), if_neg (by omega), if_neg (by omega), if_neg (by omega), if_pos (by omega)]
theorem mr_gauge {w : AH} {b : Nat} {c q : am_F} (hl : b + 735 ≤ w.length) {i : Int} (h0 : 0 ≤ i) (hi : i < 8) : (mdW w b c q)[b + (146 + i.toNat)]? = some (cP 0 3 (c (146 + i.toNat))) := (md_c hl (146 + i.toNat) (by omega)).trans (congrArg some (md_t_gauge _ _ (by omega)))
theorem mh_kept {w : AH} {b : Nat} {c q : am_F} (hl : b + 735 ≤ w.length) : (mdW w b c q)[b + 154]? = some (cQ 3 3 (fun i => if i < 3 then some (b + (155 + i)) else none)) := md_c hl 154 (by decide)
theorem md_t_kept {b : Nat} (f g : Nat → Int) {j : Nat} (hj : j < 3) : mdR b f g (155 + j) = cP 0 143 f := by
  unfold mdR
  rw [if_neg (by omega), if_neg (by omega), if_neg (by omega), if_neg (by omega), if_neg (by omega), if_neg (by omega), if_neg (by omega), if_neg (by omega), if_neg (by omega), if_neg (by omega), if_neg (by omega), if_neg (by omega), if_neg (by omega), if_neg (by omega), if_neg (by omega), if_neg (by omega), if_neg (by omega), if_neg (by omega), if_neg (by omega), if_neg (by omega), if_neg (by omega), if_neg (by omega), if_neg (by omega), if_neg (by omega), if_neg (by omega), if_neg (by omega), if_neg (by omega), if_neg (by omega), if_neg (by omega), if_neg (by omega), if_neg (by omega), if_neg (by omega), if_neg (by omega), if_neg (by omega), if_neg (by omega), if_neg (by omega), if_neg (by omega), if_neg (by omega), if_neg (by omega), if_neg (by omega), if_neg (by omega), if_neg (by omega), if_neg (by omega), if_neg (by omega), if_pos (by omega)]
theorem mr_kept {w : AH} {b : Nat} {c q : am_F} (hl : b + 735 ≤ w.length) {i : Int} (h0 : 0 ≤ i) (hi : i < 3) : (mdW w b c q)[b + (155 + i.toNat)]? = some (cP 0 143 (c (155 + i.toNat))) := (md_c hl (155 + i.toNat) (by omega)).trans (congrArg some (md_t_kept _ _ (by omega)))
theorem mh_fog {w : AH} {b : Nat} {c q : am_F} (hl : b + 735 ≤ w.length) : (mdW w b c q)[b + 158]? = some (cQ 3 41 (fun i => if i < 41 then some (b + (159 + i)) else none)) := md_c hl 158 (by decide)
theorem md_t_fog {b : Nat} (f g : Nat → Int) {j : Nat} (hj : j < 41) : mdR b f g (159 + j) = cP 0 81 g := by
  unfold mdR
  rw [if_neg (by omega), if_neg (by omega), if_neg (by omega), if_neg (by omega), if_neg (by omega), if_neg (by omega), if_neg (by omega), if_neg (by omega), if_neg (by omega), if_neg (by omega), if_neg (by omega), if_neg (by omega), if_neg (by omega), if_neg (by omega), if_neg (by omega), if_neg (by omega), if_neg (by omega), if_neg (by omega), if_neg (by omega), if_neg (by omega), if_neg (by omega), if_neg (by omega), if_neg (by omega), if_neg (by omega), if_neg (by omega), if_neg (by omega), if_neg (by omega), if_neg (by omega), if_neg (by omega), if_neg (by omega), if_neg (by omega), if_neg (by omega), if_neg (by omega), if_neg (by omega), if_neg (by omega), if_neg (by omega), if_neg (by omega), if_neg (by omega), if_neg (by omega), if_neg (by omega), if_neg (by omega), if_neg (by omega), if_neg (by omega), if_neg (by omega), if_neg (by omega), if_neg (by omega), if_pos (by omega)]
theorem mr_fog {w : AH} {b : Nat} {c q : am_F} (hl : b + 735 ≤ w.length) {i : Int} (h0 : 0 ≤ i) (hi : i < 41) : (mdW w b c q)[b + (159 + i.toNat)]? = some (cP 0 81 (q (159 + i.toNat))) := (md_c hl (159 + i.toNat) (by omega)).trans (congrArg some (md_t_fog _ _ (by omega)))
theorem mh_sums {w : AH} {b : Nat} {c q : am_F} (hl : b + 735 ≤ w.length) : (mdW w b c q)[b + 200]? = some (cQ 3 41 (fun i => if i < 41 then some (b + (201 + i)) else none)) := md_c hl 200 (by decide)
theorem md_t_sums {b : Nat} (f g : Nat → Int) {j : Nat} (hj : j < 41) : mdR b f g (201 + j) = cP 0 4 g := by
  unfold mdR
  rw [if_neg (by omega), if_neg (by omega), if_neg (by omega), if_neg (by omega), if_neg (by omega), if_neg (by omega), if_neg (by omega), if_neg (by omega), if_neg (by omega), if_neg (by omega), if_neg (by omega), if_neg (by omega), if_neg (by omega), if_neg (by omega), if_neg (by omega), if_neg (by omega), if_neg (by omega), if_neg (by omega), if_neg (by omega), if_neg (by omega), if_neg (by omega), if_neg (by omega), if_neg (by omega), if_neg (by omega), if_neg (by omega), if_neg (by omega), if_neg (by omega), if_neg (by omega), if_neg (by omega), if_neg (by omega), if_neg (by omega), if_neg (by omega), if_neg (by omega), if_neg (by omega), if_neg (by omega), if_neg (by omega), if_neg (by omega), if_neg (by omega), if_neg (by omega), if_neg (by omega), if_neg (by omega), if_neg (by omega), if_neg (by omega), if_neg (by omega), if_neg (by omega), if_neg (by omega), if_neg (by omega), if_neg (by omega), if_pos (by omega)]
theorem mr_sums {w : AH} {b : Nat} {c q : am_F} (hl : b + 735 ≤ w.length) {i : Int} (h0 : 0 ≤ i) (hi : i < 41) : (mdW w b c q)[b + (201 + i.toNat)]? = some (cP 0 4 (q (201 + i.toNat))) := (md_c hl (201 + i.toNat) (by omega)).trans (congrArg some (md_t_sums _ _ (by omega)))
theorem mh_burned {w : AH} {b : Nat} {c q : am_F} (hl : b + 735 ≤ w.length) : (mdW w b c q)[b + 242]? = some (cQ 3 7 (fun i => if i < 7 then some (b + (243 + i)) else none)) := md_c hl 242 (by decide)
theorem md_t_burned {b : Nat} (f g : Nat → Int) {j : Nat} (hj : j < 7) : mdR b f g (243 + j) = cP 0 41 g := by
  unfold mdR
  rw [if_neg (by omega), if_neg (by omega), if_neg (by omega), if_neg (by omega), if_neg (by omega), if_neg (by omega), if_neg (by omega), if_neg (by omega), if_neg (by omega), if_neg (by omega), if_neg (by omega), if_neg (by omega), if_neg (by omega), if_neg (by omega), if_neg (by omega), if_neg (by omega), if_neg (by omega), if_neg (by omega), if_neg (by omega), if_neg (by omega), if_neg (by omega), if_neg (by omega), if_neg (by omega), if_neg (by omega), if_neg (by omega), if_neg (by omega), if_neg (by omega), if_neg (by omega), if_neg (by omega), if_neg (by omega), if_neg (by omega), if_neg (by omega), if_neg (by omega), if_neg (by omega), if_neg (by omega), if_neg (by omega), if_neg (by omega), if_neg (by omega), if_neg (by omega), if_neg (by omega), if_neg (by omega), if_neg (by omega), if_neg (by omega), if_neg (by omega), if_neg (by omega), if_neg (by omega), if_neg (by omega), if_neg (by omega), if_neg (by omega), if_neg (by omega), if_pos (by omega)]
theorem mr_burned {w : AH} {b : Nat} {c q : am_F} (hl : b + 735 ≤ w.length) {i : Int} (h0 : 0 ≤ i) (hi : i < 7) : (mdW w b c q)[b + (243 + i.toNat)]? = some (cP 0 41 (q (243 + i.toNat))) := (md_c hl (243 + i.toNat) (by omega)).trans (congrArg some (md_t_burned _ _ (by omega)))
theorem mh_burnedOn {w : AH} {b : Nat} {c q : am_F} (hl : b + 735 ≤ w.length) : (mdW w b c q)[b + 250]? = some (cQ 3 7 (fun i => if i < 7 then some (b + (251 + i)) else none)) := md_c hl 250 (by decide)
theorem md_t_burnedOn {b : Nat} (f g : Nat → Int) {j : Nat} (hj : j < 7) : mdR b f g (251 + j) = cP 0 81 g := by
  unfold mdR
  rw [if_neg (by omega), if_neg (by omega), if_neg (by omega), if_neg (by omega), if_neg (by omega), if_neg (by omega), if_neg (by omega), if_neg (by omega), if_neg (by omega), if_neg (by omega), if_neg (by omega), if_neg (by omega), if_neg (by omega), if_neg (by omega), if_neg (by omega), if_neg (by omega), if_neg (by omega), if_neg (by omega), if_neg (by omega), if_neg (by omega), if_neg (by omega), if_neg (by omega), if_neg (by omega), if_neg (by omega), if_neg (by omega), if_neg (by omega), if_neg (by omega), if_neg (by omega), if_neg (by omega), if_neg (by omega), if_neg (by omega), if_neg (by omega), if_neg (by omega), if_neg (by omega), if_neg (by omega), if_neg (by omega), if_neg (by omega), if_neg (by omega), if_neg (by omega), if_neg (by omega), if_neg (by omega), if_neg (by omega), if_neg (by omega), if_neg (by omega), if_neg (by omega), if_neg (by omega), if_neg (by omega), if_neg (by omega), if_neg (by omega), if_neg (by omega), if_neg (by omega), if_neg (by omega), if_pos (by omega)]
theorem mr_burnedOn {w : AH} {b : Nat} {c q : am_F} (hl : b + 735 ≤ w.length) {i : Int} (h0 : 0 ≤ i) (hi : i < 7) : (mdW w b c q)[b + (251 + i.toNat)]? = some (cP 0 81 (q (251 + i.toNat))) := (md_c hl (251 + i.toNat) (by omega)).trans (congrArg some (md_t_burnedOn _ _ (by omega)))
theorem mh_leak {w : AH} {b : Nat} {c q : am_F} (hl : b + 735 ≤ w.length) : (mdW w b c q)[b + 258]? = some (cQ 3 6 (fun i => if i < 6 then some (b + (259 + i)) else none)) := md_c hl 258 (by decide)
theorem md_t_leak {b : Nat} (f g : Nat → Int) {j : Nat} (hj : j < 6) : mdR b f g (259 + j) = cP 0 6 g := by
  unfold mdR
  rw [if_neg (by omega), if_neg (by omega), if_neg (by omega), if_neg (by omega), if_neg (by omega), if_neg (by omega), if_neg (by omega), if_neg (by omega), if_neg (by omega), if_neg (by omega), if_neg (by omega), if_neg (by omega), if_neg (by omega), if_neg (by omega), if_neg (by omega), if_neg (by omega), if_neg (by omega), if_neg (by omega), if_neg (by omega), if_neg (by omega), if_neg (by omega), if_neg (by omega), if_neg (by omega), if_neg (by omega), if_neg (by omega), if_neg (by omega), if_neg (by omega), if_neg (by omega), if_neg (by omega), if_neg (by omega), if_neg (by omega), if_neg (by omega), if_neg (by omega), if_neg (by omega), if_neg (by omega), if_neg (by omega), if_neg (by omega), if_neg (by omega), if_neg (by omega), if_neg (by omega), if_neg (by omega), if_neg (by omega), if_neg (by omega), if_neg (by omega), if_neg (by omega), if_neg (by omega), if_neg (by omega), if_neg (by omega), if_neg (by omega), if_neg (by omega), if_neg (by omega), if_neg (by omega), if_neg (by omega), if_neg (by omega), if_pos (by omega)]
theorem mr_leak {w : AH} {b : Nat} {c q : am_F} (hl : b + 735 ≤ w.length) {i : Int} (h0 : 0 ≤ i) (hi : i < 6) : (mdW w b c q)[b + (259 + i.toNat)]? = some (cP 0 6 (q (259 + i.toNat))) := (md_c hl (259 + i.toNat) (by omega)).trans (congrArg some (md_t_leak _ _ (by omega)))
theorem md_now {w : AH} {b : Nat} {c q : am_F} (hl : b + 735 ≤ w.length) : (mdW w b c q)[b + 265]? = some (cP 0 81 (q 265)) := md_c hl 265 (by decide)
theorem md_next {w : AH} {b : Nat} {c q : am_F} (hl : b + 735 ≤ w.length) : (mdW w b c q)[b + 266]? = some (cP 0 81 (q 266)) := md_c hl 266 (by decide)
theorem md_moved {w : AH} {b : Nat} {c q : am_F} (hl : b + 735 ≤ w.length) : (mdW w b c q)[b + 267]? = some (cP 0 40 (q 267)) := md_c hl 267 (by decide)
theorem mh_part {w : AH} {b : Nat} {c q : am_F} (hl : b + 735 ≤ w.length) : (mdW w b c q)[b + 268]? = some (cQ 3 8 (fun i => if i < 8 then some (b + (269 + i)) else none)) := md_c hl 268 (by decide)
theorem md_t_part {b : Nat} (f g : Nat → Int) {j : Nat} (hj : j < 8) : mdR b f g (269 + j) = cP 0 3 f := by
  unfold mdR
  rw [if_neg (by omega), if_neg (by omega), if_neg (by omega), if_neg (by omega), if_neg (by omega), if_neg (by omega), if_neg (by omega), if_neg (by omega), if_neg (by omega), if_neg (by omega), if_neg (by omega), if_neg (by omega), if_neg (by omega), if_neg (by omega), if_neg (by omega), if_neg (by omega), if_neg (by omega), if_neg (by omega), if_neg (by omega), if_neg (by omega), if_neg (by omega), if_neg (by omega), if_neg (by omega), if_neg (by omega), if_neg (by omega), if_neg (by omega), if_neg (by omega), if_neg (by omega), if_neg (by omega), if_neg (by omega), if_neg (by omega), if_neg (by omega), if_neg (by omega), if_neg (by omega), if_neg (by omega), if_neg (by omega), if_neg (by omega), if_neg (by omega), if_neg (by omega), if_neg (by omega), if_neg (by omega), if_neg (by omega), if_neg (by omega), if_neg (by omega), if_neg (by omega), if_neg (by omega), if_neg (by omega), if_neg (by omega), if_neg (by omega), if_neg (by omega), if_neg (by omega), if_neg (by omega), if_neg (by omega), if_neg (by omega), if_neg (by omega), if_neg (by omega), if_neg (by omega), if_neg (by omega), if_neg (by omega), if_pos (by omega)]
theorem mr_part {w : AH} {b : Nat} {c q : am_F} (hl : b + 735 ≤ w.length) {i : Int} (h0 : 0 ≤ i) (hi : i < 8) : (mdW w b c q)[b + (269 + i.toNat)]? = some (cP 0 3 (c (269 + i.toNat))) := (md_c hl (269 + i.toNat) (by omega)).trans (congrArg some (md_t_part _ _ (by omega)))
theorem mh_readPart {w : AH} {b : Nat} {c q : am_F} (hl : b + 735 ≤ w.length) : (mdW w b c q)[b + 277]? = some (cQ 3 8 (fun i => if i < 8 then some (b + (278 + i)) else none)) := md_c hl 277 (by decide)
theorem md_t_readPart {b : Nat} (f g : Nat → Int) {j : Nat} (hj : j < 8) : mdR b f g (278 + j) = cP 0 3 f := by
  unfold mdR
  rw [if_neg (by omega), if_neg (by omega), if_neg (by omega), if_neg (by omega), if_neg (by omega), if_neg (by omega), if_neg (by omega), if_neg (by omega), if_neg (by omega), if_neg (by omega), if_neg (by omega), if_neg (by omega), if_neg (by omega), if_neg (by omega), if_neg (by omega), if_neg (by omega), if_neg (by omega), if_neg (by omega), if_neg (by omega), if_neg (by omega), if_neg (by omega), if_neg (by omega), if_neg (by omega), if_neg (by omega), if_neg (by omega), if_neg (by omega), if_neg (by omega), if_neg (by omega), if_neg (by omega), if_neg (by omega), if_neg (by omega), if_neg (by omega), if_neg (by omega), if_neg (by omega), if_neg (by omega), if_neg (by omega), if_neg (by omega), if_neg (by omega), if_neg (by omega), if_neg (by omega), if_neg (by omega), if_neg (by omega), if_neg (by omega), if_neg (by omega), if_neg (by omega), if_neg (by omega), if_neg (by omega), if_neg (by omega), if_neg (by omega), if_neg (by omega), if_neg (by omega), if_neg (by omega), if_neg (by omega), if_neg (by omega), if_neg (by omega), if_neg (by omega), if_neg (by omega), if_neg (by omega), if_neg (by omega), if_neg (by omega), if_neg (by omega), if_pos (by omega)]
theorem mr_readPart {w : AH} {b : Nat} {c q : am_F} (hl : b + 735 ≤ w.length) {i : Int} (h0 : 0 ≤ i) (hi : i < 8) : (mdW w b c q)[b + (278 + i.toNat)]? = some (cP 0 3 (c (278 + i.toNat))) := (md_c hl (278 + i.toNat) (by omega)).trans (congrArg some (md_t_readPart _ _ (by omega)))
theorem mh_code {w : AH} {b : Nat} {c q : am_F} (hl : b + 735 ≤ w.length) : (mdW w b c q)[b + 286]? = some (cQ 3 220 (fun i => if i < 220 then some (b + (287 + i)) else none)) := md_c hl 286 (by decide)
theorem md_t_code {b : Nat} (f g : Nat → Int) {j : Nat} (hj : j < 220) : mdR b f g (287 + j) = cP 0 2 f := by
  unfold mdR
  rw [if_neg (by omega), if_neg (by omega), if_neg (by omega), if_neg (by omega), if_neg (by omega), if_neg (by omega), if_neg (by omega), if_neg (by omega), if_neg (by omega), if_neg (by omega), if_neg (by omega), if_neg (by omega), if_neg (by omega), if_neg (by omega), if_neg (by omega), if_neg (by omega), if_neg (by omega), if_neg (by omega), if_neg (by omega), if_neg (by omega), if_neg (by omega), if_neg (by omega), if_neg (by omega), if_neg (by omega), if_neg (by omega), if_neg (by omega), if_neg (by omega), if_neg (by omega), if_neg (by omega), if_neg (by omega), if_neg (by omega), if_neg (by omega), if_neg (by omega), if_neg (by omega), if_neg (by omega), if_neg (by omega), if_neg (by omega), if_neg (by omega), if_neg (by omega), if_neg (by omega), if_neg (by omega), if_neg (by omega), if_neg (by omega), if_neg (by omega), if_neg (by omega), if_neg (by omega), if_neg (by omega), if_neg (by omega), if_neg (by omega), if_neg (by omega), if_neg (by omega), if_neg (by omega), if_neg (by omega), if_neg (by omega), if_neg (by omega), if_neg (by omega), if_neg (by omega), if_neg (by omega), if_neg (by omega), if_neg (by omega), if_neg (by omega), if_neg (by omega), if_neg (by omega), if_pos (by omega)]
theorem mr_code {w : AH} {b : Nat} {c q : am_F} (hl : b + 735 ≤ w.length) {i : Int} (h0 : 0 ≤ i) (hi : i < 220) : (mdW w b c q)[b + (287 + i.toNat)]? = some (cP 0 2 (c (287 + i.toNat))) := (md_c hl (287 + i.toNat) (by omega)).trans (congrArg some (md_t_code _ _ (by omega)))
theorem mh_readCode {w : AH} {b : Nat} {c q : am_F} (hl : b + 735 ≤ w.length) : (mdW w b c q)[b + 507]? = some (cQ 3 220 (fun i => if i < 220 then some (b + (508 + i)) else none)) := md_c hl 507 (by decide)
theorem md_t_readCode {b : Nat} (f g : Nat → Int) {j : Nat} (hj : j < 220) : mdR b f g (508 + j) = cP 0 2 f := by
  unfold mdR
  rw [if_neg (by omega), if_neg (by omega), if_neg (by omega), if_neg (by omega), if_neg (by omega), if_neg (by omega), if_neg (by omega), if_neg (by omega), if_neg (by omega), if_neg (by omega), if_neg (by omega), if_neg (by omega), if_neg (by omega), if_neg (by omega), if_neg (by omega), if_neg (by omega), if_neg (by omega), if_neg (by omega), if_neg (by omega), if_neg (by omega), if_neg (by omega), if_neg (by omega), if_neg (by omega), if_neg (by omega), if_neg (by omega), if_neg (by omega), if_neg (by omega), if_neg (by omega), if_neg (by omega), if_neg (by omega), if_neg (by omega), if_neg (by omega), if_neg (by omega), if_neg (by omega), if_neg (by omega), if_neg (by omega), if_neg (by omega), if_neg (by omega), if_neg (by omega), if_neg (by omega), if_neg (by omega), if_neg (by omega), if_neg (by omega), if_neg (by omega), if_neg (by omega), if_neg (by omega), if_neg (by omega), if_neg (by omega), if_neg (by omega), if_neg (by omega), if_neg (by omega), if_neg (by omega), if_neg (by omega), if_neg (by omega), if_neg (by omega), if_neg (by omega), if_neg (by omega), if_neg (by omega), if_neg (by omega), if_neg (by omega), if_neg (by omega), if_neg (by omega), if_neg (by omega), if_neg (by omega), if_neg (by omega), if_pos (by omega)]
theorem mr_readCode {w : AH} {b : Nat} {c q : am_F} (hl : b + 735 ≤ w.length) {i : Int} (h0 : 0 ≤ i) (hi : i < 220) : (mdW w b c q)[b + (508 + i.toNat)]? = some (cP 0 2 (c (508 + i.toNat))) := (md_c hl (508 + i.toNat) (by omega)).trans (congrArg some (md_t_readCode _ _ (by omega)))
theorem md_stack {w : AH} {b : Nat} {c q : am_F} (hl : b + 735 ≤ w.length) : (mdW w b c q)[b + 728]? = some (cP 0 220 (q 728)) := md_c hl 728 (by decide)
theorem md_least {w : AH} {b : Nat} {c q : am_F} (hl : b + 735 ≤ w.length) : (mdW w b c q)[b + 729]? = some (cP 0 81 (q 729)) := md_c hl 729 (by decide)
theorem md_leastNext {w : AH} {b : Nat} {c q : am_F} (hl : b + 735 ≤ w.length) : (mdW w b c q)[b + 730]? = some (cP 0 81 (q 730)) := md_c hl 730 (by decide)
theorem md_seenBy {w : AH} {b : Nat} {c q : am_F} (hl : b + 735 ≤ w.length) : (mdW w b c q)[b + 731]? = some (cP 0 4 (q 731)) := md_c hl 731 (by decide)
theorem md_got {w : AH} {b : Nat} {c q : am_F} (hl : b + 735 ≤ w.length) : (mdW w b c q)[b + 732]? = some (cP 0 12 (q 732)) := md_c hl 732 (by decide)
theorem md_paid {w : AH} {b : Nat} {c q : am_F} (hl : b + 735 ≤ w.length) : (mdW w b c q)[b + 733]? = some (cP 0 12 (q 733)) := md_c hl 733 (by decide)
theorem md_needed {w : AH} {b : Nat} {c q : am_F} (hl : b + 735 ≤ w.length) : (mdW w b c q)[b + 734]? = some (cP 0 40 (q 734)) := md_c hl 734 (by decide)
