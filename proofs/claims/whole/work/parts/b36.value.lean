/-! THE TIE: a rule's value -/
def ti_sw (n : Int) : Int := if n ≤ 2 then 2 - n else n
def OrR (o n0 n1 : Int) : Prop := (n0 = 0 ∧ o = n1 ∧ 0 ≤ n1 ∧ n1 < 1000) ∨ (n0 = 1 ∧ o = 1000 + ti_sw n1 ∧ 0 ≤ n1 ∧ n1 ≤ 8) ∨ (2 ≤ n0 ∧ n0 ≤ 8 ∧ o = 1998 + n0) ∨ (n0 = 9 ∧ o = 2009) ∨ (n0 = 10 ∧ o = 2007) ∨ (n0 = 11 ∧ o = 2008)
/-- the codes i .. j - 1 of the model are a sum (false) or a test (true), that wants n places -/
def XE (c : am_F) : Nat → Bool → Nat → Int → Int → Prop
  | 0, _, _, _, _ => False
  | g + 1, b, n, i, j => 0 ≤ i ∧ ((b = false ∧ c (287 + i.toNat) 0 < 2 ∧ 1 ≤ n ∧ j = i + 1) ∨ (∃ (a k : Int) (m : Nat), XE c g false n i a ∧ XE c g false m a k ∧ m + 1 ≤ n ∧ j = k + 1 ∧ ((b = false ∧ 2 ≤ c (287 + k.toNat) 0 ∧ c (287 + k.toNat) 0 ≤ 5) ∨ (b = true ∧ 6 ≤ c (287 + k.toNat) 0 ∧ c (287 + k.toNat) 0 ≤ 8))) ∨ (b = true ∧ ∃ k : Int, XE c g true n i k ∧ c (287 + k.toNat) 0 = 9 ∧ j = k + 1) ∨ (b = true ∧ ∃ (a k : Int) (m : Nat), XE c g true n i a ∧ XE c g true m a k ∧ m + 1 ≤ n ∧ j = k + 1 ∧ (c (287 + k.toNat) 0 = 10 ∨ c (287 + k.toNat) 0 = 11)))
theorem XE_lt {c : am_F} : ∀ (g : Nat) {b : Bool} {n : Nat} {i j : Int}, XE c g b n i j → 0 ≤ i ∧ i < j ∧ 1 ≤ n := by
  intro g
  induction g with
  | zero => intro b n i j h; exact h.elim
  | succ g ih =>
    intro b n i j h
    obtain ⟨h0, h⟩ := h
    rcases h with ⟨-, -, h1, h2⟩ | ⟨a, k, m, x1, x2, x3, x4, -⟩ | ⟨-, k, x1, -, x4⟩ | ⟨-, a, k, m, x1, x2, x3, x4, -⟩
    · omega
    · have := ih x1; have := ih x2; omega
    · have := ih x1; omega
    · have := ih x1; have := ih x2; omega
theorem XE_up {c : am_F} : ∀ (g : Nat) {b : Bool} {n : Nat} {i j : Int}, XE c g b n i j → XE c (g + 1) b n i j := by
  intro g
  induction g with
  | zero => intro b n i j h; exact h.elim
  | succ g ih =>
    intro b n i j h
    obtain ⟨h0, h⟩ := h
    refine ⟨h0, ?_⟩
    rcases h with h | ⟨a, k, m, x1, x2, x3⟩ | ⟨hb, k, x1, x2⟩ | ⟨hb, a, k, m, x1, x2, x3⟩
    · exact Or.inl h
    · exact Or.inr (Or.inl ⟨a, k, m, ih x1, ih x2, x3⟩)
    · exact Or.inr (Or.inr (Or.inl ⟨hb, k, ih x1, x2⟩))
    · exact Or.inr (Or.inr (Or.inr ⟨hb, a, k, m, ih x1, ih x2, x3⟩))
/-- both sides behind the codes i .. j - 1 -/
def EvR (b : Bool) (m : Nat) (x q : am_F) (X Y : Int × am_F) : Prop := X.1 = (m : Int) + 1 ∧ Y.1 = (m : Int) + 1 ∧ X.2 4 m = Y.2 728 m ∧ (b = true → Y.2 728 m = 0 ∨ Y.2 728 m = 1) ∧ ((∀ k, k ≠ 4 → X.2 k = x k) ∧ ∀ l, l < m → X.2 4 l = x 4 l) ∧ (∀ k, k ≠ 728 → Y.2 k = q k) ∧ ∀ l, l < m → Y.2 728 l = q 728 l
theorem ti_done2 {hw o u v : Int} (h : 2 ≤ hw ∧ hw ≤ 8) (ho : o = 1998 + hw) : f_done o u v = k_by hw u v := by
  have h9 : hw = 2 ∨ hw = 3 ∨ hw = 4 ∨ hw = 5 ∨ hw = 6 ∨ hw = 7 ∨ hw = 8 := by omega
  rcases h9 with rfl | rfl | rfl | rfl | rfl | rfl | rfl <;> subst ho
  · rfl
  · rfl
  · rfl
  · show (if v = 0 then 0 else am_w32 (u.tdiv v)) = (if v = 0 then 0 else (if v = (-1) then am_w32 (-u) else am_w32 (u.tdiv v)))
    by_cases g : v = 0
    · rw [if_pos g, if_pos g]
    · rw [if_neg g, if_neg g]
      by_cases g2 : v = -1
      · rw [if_pos g2, g2, Int.tdiv_neg, Int.tdiv_one]
      · rw [if_neg g2]
  · show (if u < v then (1 : Int) else 0) = (if v ≤ u then 0 else 1)
    split <;> split <;> omega
  · show (if v < u then (1 : Int) else 0) = (if u ≤ v then 0 else 1)
    split <;> split <;> omega
  · rfl
theorem ti_done3 {hw o u v : Int} (h : hw = 10 ∧ o = 2007 ∨ hw = 11 ∧ o = 2008) (hu : u = 0 ∨ u = 1) (hv : v = 0 ∨ v = 1) : f_done o u v = k_by hw u v ∧ (k_by hw u v = 0 ∨ k_by hw u v = 1) := by
  rcases h with ⟨rfl, rfl⟩ | ⟨rfl, rfl⟩ <;> rcases hu with rfl | rfl <;> rcases hv with rfl | rfl <;> decide
theorem ti_by01 {hw u v : Int} (h : 6 ≤ hw ∧ hw ≤ 8) : k_by hw u v = 0 ∨ k_by hw u v = 1 := by
  have h9 : hw = 6 ∨ hw = 7 ∨ hw = 8 := by omega
  rcases h9 with rfl | rfl | rfl
  · show (if v ≤ u then (0 : Int) else 1) = 0 ∨ (if v ≤ u then (0 : Int) else 1) = 1
    split <;> omega
  · show (if u ≤ v then (0 : Int) else 1) = 0 ∨ (if u ≤ v then (0 : Int) else 1) = 1
    split <;> omega
  · show (if u = v then (1 : Int) else 0) = 0 ∨ (if u = v then (1 : Int) else 0) = 1
    split <;> omega
theorem ti_two {b : Bool} {c x q x1 q1 : am_F} {f : Nat → Int} {bi t th le : Int} {m : Nat} {k : Int} {X Y : Int × am_F} {b1 b2 : Bool} (h1 : EvR b1 m x q ((m : Int) + 1, x1) ((m : Int) + 1, q1)) (h2 : EvR b2 (m + 1) x1 q1 X Y) (hm : m + 2 ≤ 64) (ho : 2000 ≤ x 1 k.toNat ∧ x 1 k.toNat ≠ 2009) (hw : 2 ≤ c (287 + k.toNat) 0 ∧ c (287 + k.toNat) 0 ≠ 9) (hd : ∀ u v, (b1 = true → u = 0 ∨ u = 1) → (b2 = true → v = 0 ∨ v = 1) → f_done (x 1 k.toNat) u v = k_by (c (287 + k.toNat) 0) u v ∧ (b = true → k_by (c (287 + k.toNat) 0) u v = 0 ∨ k_by (c (287 + k.toNat) 0) u v = 1)) : EvR b m x q (g_value 9 f k X) (g_k_worth_13 c bi t th le k Y) := by
  obtain ⟨e1, e2, e3, e4, ⟨e5, e6⟩, e7, e8⟩ := h2
  obtain ⟨-, -, d3, d4, ⟨d5, d6⟩, d7, d8⟩ := h1
  dsimp only at d3 d4 d5 d6 d7 d8
  obtain ⟨X1, X2⟩ := X
  obtain ⟨Y1, Y2⟩ := Y
  dsimp only at e1 e2 e3 e4 e5 e6 e7 e8
  have eo : X2 1 k.toNat = x 1 k.toNat := by rw [e5 1 (by decide), d5 1 (by decide)]
  have a1 : f_top X2 (X1 - 1) = x1 4 m := by
    unfold f_top
    rw [if_pos (by omega), show (X1 - 1 - 1).toNat = m by omega, e6 m (by omega)]
  have a2 : f_top X2 X1 = Y2 728 (m + 1) := by
    unfold f_top
    rw [if_pos (by omega), show (X1 - 1).toNat = m + 1 by omega, e3]
  have b1' : Y2 728 (Y1 - 1).toNat = Y2 728 (m + 1) := by rw [show (Y1 - 1).toNat = m + 1 by omega]
  have b2' : Y2 728 (Y1 - 2).toNat = x1 4 m := by rw [show (Y1 - 2).toNat = m by omega, e8 m (by omega), d3]
  obtain ⟨s1, s2⟩ := hd (x1 4 m) (Y2 728 (m + 1)) (fun h => by rw [d3]; exact d4 h) e4
  have gv : g_value 9 f k (X1, X2) = (X1 + -1, am_put X2 4 m (k_by (c (287 + k.toNat) 0) (x1 4 m) (Y2 728 (m + 1)))) := by
    unfold g_value
    dsimp only
    rw [← eo] at ho s1
    rw [if_neg ho.2, if_pos ho.1, a1, a2, s1]
    unfold f_push
    rw [if_pos (by omega), show (X1 - 2).toNat = m by omega]
  have gw : g_k_worth_13 c bi t th le k (Y1, Y2) = (Y1 - 1, am_put Y2 728 m (k_by (c (287 + k.toNat) 0) (x1 4 m) (Y2 728 (m + 1)))) := by
    unfold g_k_worth_13
    dsimp only
    rw [if_pos hw.1, if_pos hw.1, if_neg hw.2, if_neg (by omega), b1', b2', show (Y1 - 1 - 1).toNat = m by omega]
  rw [gv, gw]
  refine ⟨by dsimp only; omega, by dsimp only; omega, ?_, ?_, ⟨fun j hj => ?_, fun l hl => ?_⟩, fun j hj => ?_, fun l hl => ?_⟩
  · dsimp only; rw [am_put_s, am_put_s]
  · dsimp only; rw [am_put_s]; exact s2
  · dsimp only; rw [am_put_kr hj, e5 j hj, d5 j hj]
  · dsimp only; rw [am_put_i (by omega), e6 l (by omega), d6 l hl]
  · dsimp only; rw [am_put_kr hj, e7 j hj, d7 j hj]
  · dsimp only; rw [am_put_i (by omega), e8 l (by omega), d8 l hl]
/-- the facts of a bid, on both sides -/
def FaR (f : Nat → Int) (c : am_F) (bi t th le : Int) : Prop := ∀ n : Int, 0 ≤ n → n ≤ 8 → f (ti_sw n).toNat = k_known c n bi t th le
theorem ti_split2 {α : Type} (g : Int → α → α) {i k : Int} (h : i ≤ k) (x : α) : am_fold g i (k + 1 - i).toNat x = g k (am_fold g i (k - i).toNat x) := by
  rw [show (k + 1 - i).toNat = (k - i).toNat + 1 by omega, ti_add, show i + ((k - i).toNat : Int) = k by omega]
  rfl
theorem ti_split3 {α : Type} (g : Int → α → α) {i a k : Int} (h : i ≤ a) (h2 : a ≤ k) (x : α) : am_fold g i (k + 1 - i).toNat x = g k (am_fold g a (k - a).toNat (am_fold g i (a - i).toNat x)) := by
  rw [ti_split2 g (by omega), show (k - i).toNat = (a - i).toNat + (k - a).toNat by omega, ti_add, show i + ((a - i).toNat : Int) = a by omega]
theorem ti_turn9 {c x q : am_F} {f : Nat → Int} {bi t th le : Int} {m : Nat} {k : Int} {X Y : Int × am_F} (h1 : EvR true m x q X Y) (hm : m + 1 ≤ 64) (ho : x 1 k.toNat = 2009) (hw : c (287 + k.toNat) 0 = 9) : EvR true m x q (g_value 9 f k X) (g_k_worth_13 c bi t th le k Y) := by
  obtain ⟨e1, e2, e3, e4, ⟨e5, e6⟩, e7, e8⟩ := h1
  obtain ⟨X1, X2⟩ := X
  obtain ⟨Y1, Y2⟩ := Y
  dsimp only at e1 e2 e3 e4 e5 e6 e7 e8
  have eo : X2 1 k.toNat = 2009 := by rw [e5 1 (by decide)]; exact ho
  have a2 : f_top X2 X1 = Y2 728 m := by
    unfold f_top
    rw [if_pos (by omega), show (X1 - 1).toNat = m by omega, e3]
  have b1' : Y2 728 (Y1 - 1).toNat = Y2 728 m := by rw [show (Y1 - 1).toNat = m by omega]
  have e9 : (if Y2 728 m = 0 then (1 : Int) else 0) = am_w32 (1 - Y2 728 m) ∧ (am_w32 (1 - Y2 728 m) = 0 ∨ am_w32 (1 - Y2 728 m) = 1) := by
    rcases e4 rfl with e | e <;> rw [e] <;> decide
  have gv : g_value 9 f k (X1, X2) = (X1, am_put X2 4 m (am_w32 (1 - Y2 728 m))) := by
    unfold g_value
    dsimp only
    rw [if_pos eo, a2, e9.1]
    unfold f_push
    rw [if_pos (by omega), show (X1 - 1).toNat = m by omega]
  have gw : g_k_worth_13 c bi t th le k (Y1, Y2) = (Y1, am_put Y2 728 m (am_w32 (1 - Y2 728 m))) := by
    unfold g_k_worth_13
    dsimp only
    rw [if_pos (show 2 ≤ c (287 + k.toNat) 0 by omega), if_pos hw, if_pos (show 2 ≤ c (287 + k.toNat) 0 by omega), b1', hw, show (Y1 - 0 - 1).toNat = m by omega, Int.sub_zero]
    rfl
  rw [gv, gw]
  refine ⟨e1, e2, ?_, ?_, ⟨fun j hj => ?_, fun l hl => ?_⟩, fun j hj => ?_, fun l hl => ?_⟩
  · dsimp only; rw [am_put_s, am_put_s]
  · dsimp only; rw [am_put_s]; exact fun _ => e9.2
  · dsimp only; rw [am_put_kr hj, e5 j hj]
  · dsimp only; rw [am_put_i (by omega), e6 l (by omega)]
  · dsimp only; rw [am_put_kr hj, e7 j hj]
  · dsimp only; rw [am_put_i (by omega), e8 l (by omega)]
theorem ti_leaf {c x q : am_F} {f : Nat → Int} {bi t th le : Int} {m : Nat} {i : Int} (hf : FaR f c bi t th le) (h1 : c (287 + i.toNat) 0 < 2) (ho : OrR (x 1 i.toNat) (c (287 + i.toNat) 0) (c (287 + i.toNat) 1)) (hm : m + 1 ≤ 64) : EvR false m x q (g_value 9 f i ((m : Int), x)) (g_k_worth_13 c bi t th le i ((m : Int), q)) := by
  have hv : ∃ v, g_value 9 f i ((m : Int), x) = ((m : Int) + 1, am_put x 4 m v) ∧ g_k_worth_13 c bi t th le i ((m : Int), q) = ((m : Int) + 1, am_put q 728 m v) := by
    refine ⟨if c (287 + i.toNat) 0 = 0 then c (287 + i.toNat) 1 else k_known c (c (287 + i.toNat) 1) bi t th le, ?_, ?_⟩
    · unfold g_value f_push
      dsimp only
      have e2 : ¬ x 1 i.toNat = 2009 ∧ ¬ 2000 ≤ x 1 i.toNat := by
        unfold OrR ti_sw at ho
        split at ho <;> omega
      rw [if_neg e2.1, if_neg e2.2, if_pos (show (0 : Int) ≤ (m : Int) ∧ (m : Int) < 64 by omega), Int.toNat_natCast]
      have e3 : (if x 1 i.toNat < 1000 then x 1 i.toNat else f_factOf 9 f (x 1 i.toNat - 1000)) = if c (287 + i.toNat) 0 = 0 then c (287 + i.toNat) 1 else k_known c (c (287 + i.toNat) 1) bi t th le := by
        rcases ho with ⟨o1, o2, o3, o4⟩ | ⟨o1, o2, o3, o4⟩ | o | o | o | o
        · rw [if_pos (show x 1 i.toNat < 1000 by omega), if_pos o1, o2]
        · have e5 : 0 ≤ ti_sw (c (287 + i.toNat) 1) ∧ ti_sw (c (287 + i.toNat) 1) ≤ 8 := by unfold ti_sw; split <;> omega
          rw [if_neg (show ¬ x 1 i.toNat < 1000 by omega), if_neg (show ¬ c (287 + i.toNat) 0 = 0 by omega), ← hf _ o3 o4]
          unfold f_factOf
          rw [if_pos (show 0 ≤ x 1 i.toNat - 1000 ∧ x 1 i.toNat - 1000 < ((9 : Nat) : Int) by omega), show x 1 i.toNat - 1000 = ti_sw (c (287 + i.toNat) 1) by omega]
        all_goals exfalso; omega
      rw [e3]
    · unfold g_k_worth_13
      dsimp only
      rw [if_neg (show ¬ 2 ≤ c (287 + i.toNat) 0 by omega), if_neg (show ¬ 2 ≤ c (287 + i.toNat) 0 by omega), Int.toNat_natCast]
  obtain ⟨v, v1, v2⟩ := hv
  rw [v1, v2]
  refine ⟨rfl, rfl, ?_, fun h => (by cases h), ⟨fun j hj => ?_, fun l hl => ?_⟩, fun j hj => ?_, fun l hl => ?_⟩
  · dsimp only; rw [am_put_s, am_put_s]
  · exact am_put_kr hj
  · dsimp only; rw [am_put_i (by omega)]
  · exact am_put_kr hj
  · dsimp only; rw [am_put_i (by omega)]
theorem ti_worth {c u : am_F} {f : Nat → Int} {bi t th le : Int} (hf : FaR f c bi t th le) : ∀ (g : Nat) {b : Bool} {n : Nat} {i j : Int}, XE c g b n i j → (∀ k : Int, i ≤ k → k < j → OrR (u 1 k.toNat) (c (287 + k.toNat) 0) (c (287 + k.toNat) 1)) → ∀ (m : Nat) (x q : am_F), m + n ≤ 64 → x 1 = u 1 → EvR b m x q (am_fold (g_value 9 f) i (j - i).toNat ((m : Int), x)) (am_fold (g_k_worth_13 c bi t th le) i (j - i).toNat ((m : Int), q)) := by
  intro g
  induction g with
  | zero => intro b n i j h; exact h.elim
  | succ g ih =>
    intro b n i j h hO m x q hm hx
    have hlt := XE_lt _ h
    obtain ⟨h0, h⟩ := h
    have bin : ∀ {b1 b2 : Bool} {a k : Int} {m9 : Nat}, XE c g b1 n i a → XE c g b2 m9 a k → m9 + 1 ≤ n → j = k + 1 → (2 ≤ c (287 + k.toNat) 0 ∧ c (287 + k.toNat) 0 ≠ 9) → (∀ u9 v, (b1 = true → u9 = 0 ∨ u9 = 1) → (b2 = true → v = 0 ∨ v = 1) → f_done (x 1 k.toNat) u9 v = k_by (c (287 + k.toNat) 0) u9 v ∧ (b = true → k_by (c (287 + k.toNat) 0) u9 v = 0 ∨ k_by (c (287 + k.toNat) 0) u9 v = 1)) → EvR b m x q (am_fold (g_value 9 f) i (j - i).toNat ((m : Int), x)) (am_fold (g_k_worth_13 c bi t th le) i (j - i).toNat ((m : Int), q)) := by
      intro b1 b2 a k m9 x1 x2 hm9 hj hw hd
      subst hj
      have l1 := XE_lt g x1
      have l2 := XE_lt g x2
      have i1 := ih x1 (fun k' a1 a2 => hO k' a1 (by omega)) m x q hm hx
      rw [ti_split3 (g_value 9 f) (by omega : i ≤ a) (by omega : a ≤ k), ti_split3 (g_k_worth_13 c bi t th le) (by omega : i ≤ a) (by omega : a ≤ k)]
      generalize am_fold (g_value 9 f) i (a - i).toNat ((m : Int), x) = A at i1
      generalize am_fold (g_k_worth_13 c bi t th le) i (a - i).toNat ((m : Int), q) = B at i1
      obtain ⟨A1, A2⟩ := A
      obtain ⟨B1, B2⟩ := B
      have ea : A1 = (m : Int) + 1 := i1.1
      have eb : B1 = (m : Int) + 1 := i1.2.1
      subst ea eb
      have i2 := ih x2 (fun k' a1 a2 => hO k' (by omega) (by omega)) (m + 1) A2 B2 (by omega) ((i1.2.2.2.2.1.1 1 (by decide)).trans hx)
      have ho := hO k (by omega) (by omega)
      rw [← hx] at ho
      refine ti_two i1 i2 (by omega) ?_ hw hd
      unfold OrR at ho
      omega
    rcases h with ⟨hb, h1, hn, rfl⟩ | ⟨a, k, m9, x1, x2, hm9, hj, hc⟩ | ⟨hb, k, x1, h9, rfl⟩ | ⟨hb, a, k, m9, x1, x2, hm9, hj, hc⟩
    · have ho := hO i (by omega) (by omega)
      rw [← hx] at ho
      rw [show (i + 1 - i).toNat = 0 + 1 by omega, am_fold_s, am_fold_s]
      subst hb
      exact ti_leaf hf h1 ho (by omega)
    · have l1 := XE_lt g x1
      have l2 := XE_lt g x2
      have ho := hO k (by omega) (by omega)
      rw [← hx] at ho
      refine bin x1 x2 hm9 hj ⟨by omega, by omega⟩ fun u9 v _ _ => ⟨ti_done2 (by omega) ?_, fun hb => ti_by01 ?_⟩
      · unfold OrR at ho; omega
      · rcases hc with hc | hc
        · rw [hc.1] at hb; cases hb
        · exact hc.2
    · have l1 := XE_lt g x1
      have ho := hO k (by omega) (by omega)
      rw [← hx] at ho
      subst hb
      have i1 := ih x1 (fun k' a1 a2 => hO k' a1 (by omega)) m x q hm hx
      rw [ti_split2 (g_value 9 f) (by omega : i ≤ k), ti_split2 (g_k_worth_13 c bi t th le) (by omega : i ≤ k)]
      exact ti_turn9 i1 (by omega) (by unfold OrR at ho; omega) h9
    · have l1 := XE_lt g x1
      have l2 := XE_lt g x2
      have ho := hO k (by omega) (by omega)
      rw [← hx] at ho
      refine bin x1 x2 hm9 hj ⟨by omega, by omega⟩ fun u9 v hu hv => ?_
      obtain ⟨d1, d2⟩ := ti_done3 (hw := c (287 + k.toNat) 0) (o := x 1 k.toNat) (by unfold OrR at ho; omega) (hu rfl) (hv rfl)
      exact ⟨d1, fun _ => d2⟩
