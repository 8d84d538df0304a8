/-! THE LAW: how a call may end -/
def X13 (k : Int) : Prop := k = 1 ∨ k = 3
def X23 (k : Int) : Prop := k = 2 ∨ k = 3
def X3 (k : Int) : Prop := k = 3
def X1 (k : Int) : Prop := k = 1
def X2 (k : Int) : Prop := k = 2
theorem cd_if {α : Type} {k : Int} {A : Int × α} {b : α} {X : Int → Prop} (hk : k = 0 ∨ X k) (hA : A.1 = 0 ∨ X A.1) : (if k = 0 then A else (k, b)).1 = 0 ∨ X (if k = 0 then A else (k, b)).1 := by
  by_cases g : k = 0
  · rw [if_pos g]
    exact hA
  · rw [if_neg g]
    exact hk
theorem cd_or {α : Type} {C : Prop} [Decidable C] {A B : Int × α} {X : Int → Prop} (hA : A.1 = 0 ∨ X A.1) (hB : B.1 = 0 ∨ X B.1) : (if C then A else B).1 = 0 ∨ X (if C then A else B).1 := by
  by_cases g : C
  · rw [if_pos g]
    exact hA
  · rw [if_neg g]
    exact hB
theorem cd_el {α β : Type} {o : Option β} {A : Int × α} {B : β → Int × α} {X : Int → Prop} (hA : A.1 = 0) (hB : ∀ r, (B r).1 = 0) : (o.elim A B).1 = 0 ∨ X (o.elim A B).1 := by
  cases o with
  | none => exact Or.inl hA
  | some r => exact Or.inl (hB r)
theorem n_range_o {X : Int → Prop} (h : X 3) (v lo hi : Int) : n_range v lo hi = 0 ∨ X (n_range v lo hi) := by
  unfold n_range
  split
  · exact Or.inr h
  · exact Or.inl rfl
theorem n_step_o {X : Int → Prop} (h : X 3) (v : Int) : n_step v = 0 ∨ X (n_step v) := n_range_o h v 0 39
theorem n_cell_o {X : Int → Prop} (hX : X 1) (h : am_F) (x y : Int) : n_cell h x y = 0 ∨ X (n_cell h x y) := by
  unfold n_cell
  split
  · exact Or.inr hX
  · exact Or.inl rfl
theorem n_code_o {X : Int → Prop} (hX : X 1) (h : am_F) (x : Int) : n_code h x = 0 ∨ X (n_code h x) := n_cell_o hX h _ _
theorem n_row_o {X : Int → Prop} (hX : X 2) (m k : Int) : n_row m k = 0 ∨ X (n_row m k) := by
  unfold n_row
  split
  · exact Or.inl rfl
  · exact Or.inr hX
theorem n_two_o {X : Int → Prop} (h2 : X 2) (h3 : X 3) (m a b : Int) : n_two m a b = 0 ∨ X (n_two m a b) := by
  unfold n_two
  split
  · split
    · split
      · exact Or.inr h3
      · exact Or.inl rfl
    · exact n_row_o h2 m b
  · exact n_row_o h2 m a
theorem n_seeds_o {X : Int → Prop} (h3 : X 3) (a b : Int) : n_seeds a b = 0 ∨ X (n_seeds a b) := by
  unfold n_seeds
  split
  · exact n_range_o h3 _ _ _
  · exact n_range_o h3 _ _ _
theorem cd_told (ee : am_F) (hh : am_F) (bd : am_F) (ga : am_F) (what : Int) : (c_told ee hh bd ga what).1 = 0 ∨ X3 (c_told ee hh bd ga what).1 := by
  unfold c_told
  exact cd_if (X := X3) (n_range_o (X := X3) rfl _ _ _) (cd_or (X := X3) (Or.inl rfl) (cd_or (X := X3) (Or.inl rfl) (cd_or (X := X3) (Or.inl rfl) (cd_or (X := X3) (Or.inl rfl) (cd_or (X := X3) (Or.inl rfl) (cd_or (X := X3) (Or.inl rfl) (cd_or (X := X3) (Or.inl rfl) (cd_or (X := X3) (Or.inl rfl) (cd_or (X := X3) (Or.inl rfl) (Or.inl rfl))))))))))
theorem cd_fog (ee : am_F) (hh : am_F) (rr : am_F) (x : Int) (y : Int) (st : Int) : (c_fog ee hh rr x y st).1 = 0 ∨ X13 (c_fog ee hh rr x y st).1 := by
  unfold c_fog
  exact cd_if (X := X13) (n_cell_o (X := X13) (Or.inl rfl) _ _ _) (cd_if (X := X13) (n_range_o (X := X13) (Or.inr rfl) _ _ _) (Or.inl rfl))
theorem cd_sums (ee : am_F) (hh : am_F) (rr : am_F) (st : Int) (what : Int) : (c_sums ee hh rr st what).1 = 0 ∨ X3 (c_sums ee hh rr st what).1 := by
  unfold c_sums
  exact cd_if (X := X3) (n_range_o (X := X3) rfl _ _ _) (cd_if (X := X3) (n_range_o (X := X3) rfl _ _ _) (Or.inl rfl))
theorem cd_set (ee : am_F) (hh : am_F) (rr : am_F) (dd : am_F) (x : Int) (y : Int) (yd : Int) : (c_set ee hh rr dd x y yd).1 = 0 ∨ X13 (c_set ee hh rr dd x y yd).1 := by
  unfold c_set
  exact cd_if (X := X13) (n_cell_o (X := X13) (Or.inl rfl) _ _ _) (cd_if (X := X13) (n_range_o (X := X13) (Or.inr rfl) _ _ _) (Or.inl rfl))
theorem cd_led (ee : am_F) (hh : am_F) (rr : am_F) (k : Int) (st : Int) : (c_led ee hh rr k st).1 = 0 ∨ X23 (c_led ee hh rr k st).1 := by
  unfold c_led
  exact cd_if (X := X23) (n_row_o (X := X23) (Or.inl rfl) _ _) (cd_if (X := X23) (n_step_o (X := X23) (Or.inr rfl) _) (Or.inl rfl))
theorem cd_whose (ee : am_F) (hh : am_F) (rr : am_F) (x : Int) (y : Int) : (c_whose ee hh rr x y).1 = 0 ∨ X1 (c_whose ee hh rr x y).1 := by
  unfold c_whose
  exact cd_if (X := X1) (n_cell_o (X := X1) rfl _ _ _) (Or.inl rfl)
theorem cd_line (ee : am_F) (hh : am_F) (rr : am_F) (x : Int) (y : Int) (xa : Int) (yb : Int) (st : Int) : (c_line ee hh rr x y xa yb st).1 = 0 ∨ X13 (c_line ee hh rr x y xa yb st).1 := by
  unfold c_line
  exact cd_if (X := X13) (n_cell_o (X := X13) (Or.inl rfl) _ _ _) (cd_if (X := X13) (n_cell_o (X := X13) (Or.inl rfl) _ _ _) (cd_if (X := X13) (n_step_o (X := X13) (Or.inr rfl) _) (Or.inl rfl)))
theorem cd_where (ee : am_F) (hh : am_F) (k : Int) (st : Int) : (c_where ee hh k st).1 = 0 ∨ X23 (c_where ee hh k st).1 := by
  unfold c_where
  exact cd_if (X := X23) (n_row_o (X := X23) (Or.inl rfl) _ _) (cd_if (X := X23) (n_step_o (X := X23) (Or.inr rfl) _) (Or.inl rfl))
theorem cd_sees (ee : am_F) (hh : am_F) (rr : am_F) (k : Int) (l : Int) (st : Int) : (c_sees ee hh rr k l st).1 = 0 ∨ X23 (c_sees ee hh rr k l st).1 := by
  unfold c_sees
  exact cd_if (X := X23) (n_two_o (X := X23) (Or.inl rfl) (Or.inr rfl) _ _ _) (cd_if (X := X23) (n_step_o (X := X23) (Or.inr rfl) _) (Or.inl rfl))
theorem cd_often (ee : am_F) (hh : am_F) (rr : am_F) (k : Int) (l : Int) : (c_often ee hh rr k l).1 = 0 ∨ X23 (c_often ee hh rr k l).1 := by
  unfold c_often
  exact cd_if (X := X23) (n_two_o (X := X23) (Or.inl rfl) (Or.inr rfl) _ _ _) (Or.inl rfl)
theorem cd_seen (ee : am_F) (hh : am_F) (rr : am_F) (k : Int) (st : Int) : (c_seen ee hh rr k st).1 = 0 ∨ X23 (c_seen ee hh rr k st).1 := by
  unfold c_seen
  exact cd_if (X := X23) (n_row_o (X := X23) (Or.inl rfl) _ _) (cd_if (X := X23) (n_step_o (X := X23) (Or.inr rfl) _) (Or.inl rfl))
theorem cd_could (ee : am_F) (hh : am_F) (rr : am_F) (x : Int) (y : Int) (st : Int) : (c_could ee hh rr x y st).1 = 0 ∨ X13 (c_could ee hh rr x y st).1 := by
  unfold c_could
  exact cd_if (X := X13) (n_cell_o (X := X13) (Or.inl rfl) _ _ _) (cd_if (X := X13) (n_step_o (X := X13) (Or.inr rfl) _) (Or.inl rfl))
theorem cd_buy (ee : am_F) (hh : am_F) (rr : am_F) (k : Int) (what : Int) : (c_buy ee hh rr k what).1 = 0 ∨ X23 (c_buy ee hh rr k what).1 := by
  unfold c_buy
  exact cd_if (X := X23) (n_row_o (X := X23) (Or.inl rfl) _ _) (cd_if (X := X23) (n_range_o (X := X23) (Or.inr rfl) _ _ _) (Or.inl rfl))
theorem cd_way (ee : am_F) (hh : am_F) (rr : am_F) (gg : am_F) (fr : Int) (to : Int) (st : Int) (lt : Int) : (c_way ee hh rr gg fr to st lt).1 = 0 ∨ X13 (c_way ee hh rr gg fr to st lt).1 := by
  unfold c_way
  exact cd_if (X := X13) (n_code_o (X := X13) (Or.inl rfl) _ _) (cd_if (X := X13) (n_code_o (X := X13) (Or.inl rfl) _ _) (cd_if (X := X13) (n_step_o (X := X13) (Or.inr rfl) _) (cd_if (X := X13) (n_range_o (X := X13) (Or.inr rfl) _ _ _) (Or.inl rfl))))
theorem cd_lot (ee : am_F) (hh : am_F) (k : Int) (what : Int) : (c_lot ee hh k what).1 = 0 ∨ X23 (c_lot ee hh k what).1 := by
  unfold c_lot
  exact cd_if (X := X23) (n_row_o (X := X23) (Or.inl rfl) _ _) (cd_if (X := X23) (n_range_o (X := X23) (Or.inr rfl) _ _ _) (Or.inl rfl))
theorem cd_yards (ee : am_F) (hh : am_F) (rr : am_F) (k : Int) (st : Int) : (c_yards ee hh rr k st).1 = 0 ∨ X23 (c_yards ee hh rr k st).1 := by
  unfold c_yards
  exact cd_if (X := X23) (n_row_o (X := X23) (Or.inl rfl) _ _) (cd_if (X := X23) (n_range_o (X := X23) (Or.inr rfl) _ _ _) (Or.inl rfl))
theorem cd_leaks (ee : am_F) (hh : am_F) (rr : am_F) (l : Int) (m : Int) (what : Int) : (c_leaks ee hh rr l m what).1 = 0 ∨ X23 (c_leaks ee hh rr l m what).1 := by
  unfold c_leaks
  exact cd_if (X := X23) (n_two_o (X := X23) (Or.inl rfl) (Or.inr rfl) _ _ _) (cd_if (X := X23) (n_range_o (X := X23) (Or.inr rfl) _ _ _) (Or.inl rfl))
theorem cd_net (ee : am_F) (hh : am_F) (rr : am_F) (l : Int) : (c_net ee hh rr l).1 = 0 ∨ X2 (c_net ee hh rr l).1 := by
  unfold c_net
  exact cd_if (X := X2) (n_row_o (X := X2) rfl _ _) (Or.inl rfl)
theorem cd_bid (ee : am_F) (hh : am_F) (bd : am_F) (l : Int) (yd : Int) (pr : Int) : (c_bid ee hh bd l yd pr).1 = 0 ∨ X23 (c_bid ee hh bd l yd pr).1 := by
  unfold c_bid
  exact cd_if (X := X23) (n_row_o (X := X23) (Or.inl rfl) _ _) (cd_if (X := X23) (n_range_o (X := X23) (Or.inr rfl) _ _ _) (cd_if (X := X23) (n_range_o (X := X23) (Or.inr rfl) _ _ _) (cd_or (X := X23) (Or.inl rfl) (Or.inl rfl))))
theorem cd_gets (ee : am_F) (hh : am_F) (rr : am_F) (aa : am_F) (bd : am_F) (i : Int) (st : Int) (what : Int) : (c_gets ee hh rr aa bd i st what).1 = 0 ∨ X3 (c_gets ee hh rr aa bd i st what).1 := by
  unfold c_gets
  exact cd_if (X := X3) (n_step_o (X := X3) rfl _) (cd_if (X := X3) (n_range_o (X := X3) rfl _ _ _) (cd_or (X := X3) (Or.inl rfl) (Or.inl rfl)))
theorem cd_sold (ee : am_F) (hh : am_F) (rr : am_F) (aa : am_F) (bd : am_F) (l : Int) (st : Int) (wy : Int) : (c_sold ee hh rr aa bd l st wy).1 = 0 ∨ X23 (c_sold ee hh rr aa bd l st wy).1 := by
  unfold c_sold
  exact cd_if (X := X23) (n_row_o (X := X23) (Or.inl rfl) _ _) (cd_if (X := X23) (n_step_o (X := X23) (Or.inr rfl) _) (cd_if (X := X23) (n_range_o (X := X23) (Or.inr rfl) _ _ _) (Or.inl rfl)))
theorem cd_when (ee : am_F) (hh : am_F) (rr : am_F) (aa : am_F) (bd : am_F) (l : Int) (wy : Int) : (c_when ee hh rr aa bd l wy).1 = 0 ∨ X23 (c_when ee hh rr aa bd l wy).1 := by
  unfold c_when
  exact cd_if (X := X23) (n_row_o (X := X23) (Or.inl rfl) _ _) (cd_if (X := X23) (n_range_o (X := X23) (Or.inr rfl) _ _ _) (Or.inl rfl))
theorem cd_ship (ee : am_F) (hh : am_F) (rr : am_F) (k : Int) : (c_ship ee hh rr k).1 = 0 ∨ X2 (c_ship ee hh rr k).1 := by
  unfold c_ship
  exact cd_if (X := X2) (n_row_o (X := X2) rfl _ _) (Or.inl rfl)
theorem cd_worthless (ee : am_F) (hh : am_F) (rr : am_F) (l : Int) (mu : Int) : (c_worthless ee hh rr l mu).1 = 0 ∨ X23 (c_worthless ee hh rr l mu).1 := by
  unfold c_worthless
  exact cd_if (X := X23) (n_row_o (X := X23) (Or.inl rfl) _ _) (cd_if (X := X23) (n_range_o (X := X23) (Or.inr rfl) _ _ _) (Or.inl rfl))
theorem cd_gauge (ee : am_F) (hh : am_F) (dd : am_F) (ga : am_F) (x : Int) (y : Int) (st : Int) (yd : Int) : (c_gauge ee hh dd ga x y st yd).1 = 0 ∨ X13 (c_gauge ee hh dd ga x y st yd).1 := by
  unfold c_gauge
  exact cd_if (X := X13) (n_cell_o (X := X13) (Or.inl rfl) _ _ _) (cd_if (X := X13) (n_step_o (X := X13) (Or.inr rfl) _) (cd_if (X := X13) (n_range_o (X := X13) (Or.inr rfl) _ _ _) (cd_or (X := X13) (Or.inl rfl) (Or.inl rfl))))
theorem cd_found (hb : Nat) (ee : am_F) (hh : am_F) (rr : am_F) (tt : am_F) (dd : am_F) (ga : am_F) (what : Int) : (c_found hb ee hh rr tt dd ga what).1 = 0 ∨ X3 (c_found hb ee hh rr tt dd ga what).1 := by
  unfold c_found
  exact cd_if (X := X3) (n_range_o (X := X3) rfl _ _ _) (cd_or (X := X3) (Or.inl rfl) (cd_or (X := X3) (Or.inl rfl) (Or.inl rfl)))
theorem cd_doubt (hb : Nat) (ee : am_F) (hh : am_F) (tt : am_F) (x : Int) (y : Int) (st : Int) (sd : Int) (qq : Int) : (c_doubt hb ee hh tt x y st sd qq).1 = 0 ∨ X13 (c_doubt hb ee hh tt x y st sd qq).1 := by
  unfold c_doubt
  exact cd_if (X := X13) (n_cell_o (X := X13) (Or.inl rfl) _ _ _) (cd_if (X := X13) (n_step_o (X := X13) (Or.inr rfl) _) (cd_if (X := X13) (n_range_o (X := X13) (Or.inr rfl) _ _ _) (Or.inl rfl)))
theorem cd_span (hb : Nat) (ee : am_F) (hh : am_F) (tt : am_F) (k : Int) (sd : Int) (qq : Int) (mn : Int) (what : Int) : (c_span hb ee hh tt k sd qq mn what).1 = 0 ∨ X23 (c_span hb ee hh tt k sd qq mn what).1 := by
  unfold c_span
  exact cd_if (X := X23) (n_row_o (X := X23) (Or.inl rfl) _ _) (cd_if (X := X23) (n_seeds_o (X := X23) (Or.inr rfl) _ _) (cd_if (X := X23) (n_range_o (X := X23) (Or.inr rfl) _ _ _) (Or.inl rfl)))
theorem cd_let (ee : am_F) (hh : am_F) (uu : am_F) (rr : am_F) (aa : am_F) (bd : am_F) (b9 : Int) (st : Int) (what : Int) : (c_let ee hh uu rr aa bd b9 st what).1 = 0 ∨ X23 (c_let ee hh uu rr aa bd b9 st what).1 := by
  unfold c_let
  exact cd_if (X := X23) (n_row_o (X := X23) (Or.inl rfl) _ _) (cd_if (X := X23) (n_step_o (X := X23) (Or.inr rfl) _) (cd_if (X := X23) (n_range_o (X := X23) (Or.inr rfl) _ _ _) (cd_or (X := X23) (Or.inl rfl) (Or.inl rfl))))
theorem cd_ruled (ee : am_F) (hh : am_F) (uu : am_F) (rr : am_F) (aa : am_F) (bd : am_F) (b9 : Int) (st : Int) (what : Int) : (c_ruled ee hh uu rr aa bd b9 st what).1 = 0 ∨ X23 (c_ruled ee hh uu rr aa bd b9 st what).1 := by
  unfold c_ruled
  exact cd_if (X := X23) (n_row_o (X := X23) (Or.inl rfl) _ _) (cd_if (X := X23) (n_step_o (X := X23) (Or.inr rfl) _) (cd_if (X := X23) (n_range_o (X := X23) (Or.inr rfl) _ _ _) (Or.inl rfl)))
theorem cd_brings (ee : am_F) (hh : am_F) (uu : am_F) (rr : am_F) (aa : am_F) (bd : am_F) (l : Int) (st : Int) (what : Int) : (c_brings ee hh uu rr aa bd l st what).1 = 0 ∨ X23 (c_brings ee hh uu rr aa bd l st what).1 := by
  unfold c_brings
  exact cd_if (X := X23) (n_row_o (X := X23) (Or.inl rfl) _ _) (cd_if (X := X23) (n_step_o (X := X23) (Or.inr rfl) _) (cd_if (X := X23) (n_range_o (X := X23) (Or.inr rfl) _ _ _) (Or.inl rfl)))
theorem cd_clock (ee : am_F) (hh : am_F) (rr : am_F) (bd : am_F) (l : Int) (st : Int) (what : Int) : (c_clock ee hh rr bd l st what).1 = 0 ∨ X23 (c_clock ee hh rr bd l st what).1 := by
  unfold c_clock
  exact cd_if (X := X23) (n_row_o (X := X23) (Or.inl rfl) _ _) (cd_if (X := X23) (n_step_o (X := X23) (Or.inr rfl) _) (cd_if (X := X23) (n_range_o (X := X23) (Or.inr rfl) _ _ _) (cd_or (X := X23) (Or.inl rfl) (cd_or (X := X23) (Or.inl rfl) (Or.inl rfl)))))
theorem cd_enough (hb : Nat) (ee : am_F) (hh : am_F) (tt : am_F) (k : Int) (yd : Int) (sd : Int) (qq : Int) (mn : Int) : (c_enough hb ee hh tt k yd sd qq mn).1 = 0 ∨ X23 (c_enough hb ee hh tt k yd sd qq mn).1 := by
  unfold c_enough
  exact cd_if (X := X23) (n_row_o (X := X23) (Or.inl rfl) _ _) (cd_if (X := X23) (n_range_o (X := X23) (Or.inr rfl) _ _ _) (cd_if (X := X23) (n_seeds_o (X := X23) (Or.inr rfl) _ _) (Or.inl rfl)))
theorem cd_sure (hb : Nat) (ee : am_F) (hh : am_F) (tt : am_F) (k : Int) (kk9 : Int) (sd : Int) (qq : Int) (mn : Int) : (c_sure hb ee hh tt k kk9 sd qq mn).1 = 0 ∨ X23 (c_sure hb ee hh tt k kk9 sd qq mn).1 := by
  unfold c_sure
  exact cd_if (X := X23) (n_row_o (X := X23) (Or.inl rfl) _ _) (cd_if (X := X23) (n_seeds_o (X := X23) (Or.inr rfl) _ _) (cd_if (X := X23) (n_range_o (X := X23) (Or.inr rfl) _ _ _) (Or.inl rfl)))
theorem cd_start (ee : am_F) (hh : am_F) (rr : am_F) (k : Int) (what : Int) : (c_start ee hh rr k what).1 = 0 ∨ X23 (c_start ee hh rr k what).1 := by
  unfold c_start
  exact cd_if (X := X23) (n_row_o (X := X23) (Or.inl rfl) _ _) (cd_if (X := X23) (n_range_o (X := X23) (Or.inr rfl) _ _ _) (Or.inl rfl))
theorem cd_meet (ee : am_F) (hh : am_F) (k : Int) (l : Int) : (c_meet ee hh k l).1 = 0 ∨ X23 (c_meet ee hh k l).1 := by
  unfold c_meet
  exact cd_if (X := X23) (n_two_o (X := X23) (Or.inl rfl) (Or.inr rfl) _ _ _) (cd_el (X := X23) rfl (fun _ => rfl))
theorem cd_witnesses (ee : am_F) (hh : am_F) (rr : am_F) (x : Int) (y : Int) (fr : Int) (to : Int) (al : Int) : (c_witnesses ee hh rr x y fr to al).1 = 0 ∨ X13 (c_witnesses ee hh rr x y fr to al).1 := by
  unfold c_witnesses
  exact cd_if (X := X13) (n_cell_o (X := X13) (Or.inl rfl) _ _ _) (cd_if (X := X13) (n_step_o (X := X13) (Or.inr rfl) _) (cd_if (X := X13) (n_range_o (X := X13) (Or.inr rfl) _ _ _) (Or.inl rfl)))
theorem cd_light (hb : Nat) (ee : am_F) (hh : am_F) (tt : am_F) (k : Int) (bu : Int) (what : Int) : (c_light hb ee hh tt k bu what).1 = 0 ∨ X23 (c_light hb ee hh tt k bu what).1 := by
  unfold c_light
  exact cd_if (X := X23) (n_row_o (X := X23) (Or.inl rfl) _ _) (cd_if (X := X23) (n_range_o (X := X23) (Or.inr rfl) _ _ _) (cd_if (X := X23) (n_range_o (X := X23) (Or.inr rfl) _ _ _) (cd_or (X := X23) (Or.inl rfl) (Or.inl rfl))))
theorem cd_asked (ee : am_F) (hh : am_F) (rr : am_F) (aa : am_F) (bd : am_F) (l : Int) (st : Int) (wy : Int) (what : Int) : (c_asked ee hh rr aa bd l st wy what).1 = 0 ∨ X23 (c_asked ee hh rr aa bd l st wy what).1 := by
  unfold c_asked
  exact cd_if (X := X23) (n_row_o (X := X23) (Or.inl rfl) _ _) (cd_if (X := X23) (n_step_o (X := X23) (Or.inr rfl) _) (cd_if (X := X23) (n_range_o (X := X23) (Or.inr rfl) _ _ _) (cd_if (X := X23) (n_range_o (X := X23) (Or.inr rfl) _ _ _) (Or.inl rfl))))
theorem cd_calm (ee : am_F) (hh : am_F) (rr : am_F) (st : Int) : (c_calm ee hh rr st).1 = 0 ∨ X3 (c_calm ee hh rr st).1 := by
  unfold c_calm
  exact cd_if (X := X3) (n_step_o (X := X3) rfl _) (Or.inl rfl)
theorem cd_thick (ee : am_F) (hh : am_F) (rr : am_F) (st : Int) : (c_thick ee hh rr st).1 = 0 ∨ X3 (c_thick ee hh rr st).1 := by
  unfold c_thick
  exact cd_if (X := X3) (n_range_o (X := X3) rfl _ _ _) (Or.inl rfl)
theorem cd_hid (ee : am_F) (hh : am_F) (rr : am_F) (k : Int) : (c_hid ee hh rr k).1 = 0 ∨ X2 (c_hid ee hh rr k).1 := by
  unfold c_hid
  exact cd_if (X := X2) (n_row_o (X := X2) rfl _ _) (Or.inl rfl)
