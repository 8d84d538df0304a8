/-! the rule reader: levels, a part, a rule -/
theorem c_readProduct_x {ee : am_F} (t : TpI ee) {fu : am_F → am_F → am_F × am_F} (h : LvI fu) : LvI (fun v k => c_readProduct ee v k fu) := by
  intro v k hv hk
  show RvI (c_readProduct ee v k fu).1 ∧ RdI (c_readProduct ee v k fu).2
  unfold c_readProduct
  exact am_wh_iv (P := fun (x : Int × am_F × am_F) => RvI x.2.1 ∧ RdI x.2.2) (fun x y hx hf => by
    unfold w_c_readProduct_7 at hf
    dsimp only at hf
    repeat' split at hf
    all_goals first
      | cases hf; done
      | (cases hf; exact ⟨f_rput_I (h _ _ hx.1 (((Rd2.rf hx.2).takesSign t (by decide)).1)).1 _, (h _ _ hx.1 (((Rd2.rf hx.2).takesSign t (by decide)).1)).2⟩)
      | (cases hf; exact ⟨f_rput_I (h _ _ hx.1 ((((Rd2.rf hx.2).takesSign t (by decide)).takesSign t (by decide)).1)).1 _, (h _ _ hx.1 ((((Rd2.rf hx.2).takesSign t (by decide)).takesSign t (by decide)).1)).2⟩)) (fun x y hx hf => by
    unfold w_c_readProduct_7 at hf
    dsimp only at hf
    repeat' split at hf
    all_goals first
      | (cases hf; exact hx)
      | (cases hf; exact ⟨hx.1, ((Rd2.rf hx.2).takesSign t (by decide)).1⟩)
      | (cases hf; exact ⟨hx.1, (((Rd2.rf hx.2).takesSign t (by decide)).takesSign t (by decide)).1⟩)
      | cases hf) 201 (0, (fu v k).1, (fu v k).2) (h v k hv hk)
theorem c_readSum_x {ee : am_F} (t : TpI ee) {fp : am_F → am_F → am_F × am_F} (h : LvI fp) : LvI (fun v k => c_readSum ee v k fp) := by
  intro v k hv hk
  show RvI (c_readSum ee v k fp).1 ∧ RdI (c_readSum ee v k fp).2
  unfold c_readSum
  exact am_wh_iv (P := fun (x : Int × am_F × am_F) => RvI x.2.1 ∧ RdI x.2.2) (fun x y hx hf => by
    unfold w_c_readSum_7 at hf
    dsimp only at hf
    repeat' split at hf
    all_goals first
      | cases hf; done
      | (cases hf; exact ⟨f_rput_I (h _ _ hx.1 (((Rd2.rf hx.2).takesSign t (by decide)).1)).1 _, (h _ _ hx.1 (((Rd2.rf hx.2).takesSign t (by decide)).1)).2⟩)
      | (cases hf; exact ⟨f_rput_I (h _ _ hx.1 ((((Rd2.rf hx.2).takesSign t (by decide)).takesSign t (by decide)).1)).1 _, (h _ _ hx.1 ((((Rd2.rf hx.2).takesSign t (by decide)).takesSign t (by decide)).1)).2⟩)) (fun x y hx hf => by
    unfold w_c_readSum_7 at hf
    dsimp only at hf
    repeat' split at hf
    all_goals first
      | (cases hf; exact hx)
      | (cases hf; exact ⟨hx.1, ((Rd2.rf hx.2).takesSign t (by decide)).1⟩)
      | (cases hf; exact ⟨hx.1, (((Rd2.rf hx.2).takesSign t (by decide)).takesSign t (by decide)).1⟩)
      | cases hf) 201 (0, (fp v k).1, (fp v k).2) (h v k hv hk)
theorem c_readBoth_x {ee : am_F} (t : TpI ee) {ft : am_F → am_F → am_F × am_F} (h : LvI ft) : LvI (fun v k => c_readBoth ee v k ft) := by
  intro v k hv hk
  show RvI (c_readBoth ee v k ft).1 ∧ RdI (c_readBoth ee v k ft).2
  unfold c_readBoth
  exact am_wh_iv (P := fun (x : Int × am_F × am_F) => RvI x.2.1 ∧ RdI x.2.2) (fun x y hx hf => by
    unfold w_c_readBoth_7 at hf
    dsimp only at hf
    repeat' split at hf
    all_goals first
      | cases hf; done
      | (cases hf; exact ⟨f_rput_I (h _ _ hx.1 (((Rd2.rf hx.2).takesWord t).1)).1 _, (h _ _ hx.1 (((Rd2.rf hx.2).takesWord t).1)).2⟩)) (fun x y hx hf => by
    unfold w_c_readBoth_7 at hf
    dsimp only at hf
    repeat' split at hf
    all_goals first
      | (cases hf; exact hx)
      | (cases hf; exact ⟨hx.1, ((Rd2.rf hx.2).takesWord t).1⟩)
      | cases hf) 201 (0, (ft v k).1, (ft v k).2) (h v k hv hk)
theorem c_readChoice_x {ee : am_F} (t : TpI ee) {fb : am_F → am_F → am_F × am_F} (h : LvI fb) : LvI (fun v k => c_readChoice ee v k fb) := by
  intro v k hv hk
  show RvI (c_readChoice ee v k fb).1 ∧ RdI (c_readChoice ee v k fb).2
  unfold c_readChoice
  exact am_wh_iv (P := fun (x : Int × am_F × am_F) => RvI x.2.1 ∧ RdI x.2.2) (fun x y hx hf => by
    unfold w_c_readChoice_7 at hf
    dsimp only at hf
    repeat' split at hf
    all_goals first
      | cases hf; done
      | (cases hf; exact ⟨f_rput_I (h _ _ hx.1 (((Rd2.rf hx.2).takesWord t).1)).1 _, (h _ _ hx.1 (((Rd2.rf hx.2).takesWord t).1)).2⟩)) (fun x y hx hf => by
    unfold w_c_readChoice_7 at hf
    dsimp only at hf
    repeat' split at hf
    all_goals first
      | (cases hf; exact hx)
      | (cases hf; exact ⟨hx.1, ((Rd2.rf hx.2).takesWord t).1⟩)
      | cases hf) 201 (0, (fb v k).1, (fb v k).2) (h v k hv hk)
theorem c_readTest_x {ee : am_F} (t : TpI ee) (dp : Int) {fn fc fs : am_F → am_F → am_F × am_F} (hn : LvI fn) (hc : LvI fc) (hs : LvI fs) : LvI (fun v k => c_readTest ee v k dp fn fc fs) := by
  intro v k hv hk
  have h1 := (Rd2.rf hk).takesWord t (j := 15)
  show RvI (c_readTest ee v k dp fn fc fs).1 ∧ RdI (c_readTest ee v k dp fn fc fs).2
  unfold c_readTest
  dsimp only
  generalize c_takesWord ee k 15 = u1 at *
  by_cases e1 : u1.1 = 0
  · rw [if_pos e1, if_pos e1]
    have h2 := (Rd2.rf h1.1).takesSign t (sg := 91) (by decide)
    generalize c_takesSign ee u1.2 91 = u2 at *
    by_cases e2 : u2.1 = 0
    · rw [if_pos e2, if_pos e2]
      have h3 := hs v u2.2 hv h2.1
      generalize fs v u2.2 = u3 at *
      have h4 := c_readRelation_x h3.2 t
      generalize c_readRelation ee u3.2 = u4 at *
      have h5 := hs u3.1 u4.2 h3.1 h4
      exact ⟨f_rput_I h5.1 _, h5.2⟩
    · rw [if_neg e2, if_neg e2]
      have h3 := c_mayOpen_x h2.1 dp
      generalize c_mayOpen u2.2 dp = u3 at *
      by_cases e3 : u3.1 = 0
      · rw [if_pos e3, if_pos e3]; exact ⟨hv, h3⟩
      · rw [if_neg e3, if_neg e3]
        have h4 := hc v u3.2 hv h3
        exact ⟨h4.1, ((Rd2.rf h4.2).needSign t (sg := 93) (by decide)).1⟩
  · rw [if_neg e1, if_neg e1]
    have h2 := c_mayOpen_x h1.1 dp
    generalize c_mayOpen u1.2 dp = u2 at *
    by_cases e2 : u2.1 = 0
    · rw [if_pos e2, if_pos e2]; exact ⟨hv, h2⟩
    · rw [if_neg e2, if_neg e2]
      have h3 := hn v u2.2 hv h2
      exact ⟨f_rput_I h3.1 _, h3.2⟩
def lvS (ee : am_F) : Nat → am_F → am_F → am_F × am_F
  | 0 => fun v k => (v, k)
  | n + 1 => fun v k => c_readSum ee v k (fun v k => c_readProduct ee v k (fun v k => c_readUnit ee v k (6 - (n : Int)) (lvS ee n)))
def lvCh (ee : am_F) (ft : am_F → am_F → am_F × am_F) : am_F → am_F → am_F × am_F := fun v k => c_readChoice ee v k (fun v k => c_readBoth ee v k ft)
def lvT (ee : am_F) : Nat → am_F → am_F → am_F × am_F
  | 0 => fun v k => (v, k)
  | n + 1 => fun v k => c_readTest ee v k (6 - (n : Int)) (lvT ee n) (lvCh ee (lvT ee n)) (lvS ee (n + 1))
theorem lvS_I {ee : am_F} (t : TpI ee) : ∀ n, LvI (lvS ee n)
  | 0 => fun v k hv hk => ⟨hv, hk⟩
  | n + 1 => c_readSum_x t (c_readProduct_x t (c_readUnit_x t _ (lvS_I t n)))
theorem lvCh_I {ee : am_F} (t : TpI ee) {ft : am_F → am_F → am_F × am_F} (h : LvI ft) : LvI (lvCh ee ft) := c_readChoice_x t (c_readBoth_x t h)
theorem lvT_I {ee : am_F} (t : TpI ee) : ∀ n, LvI (lvT ee n)
  | 0 => fun v k hv hk => ⟨hv, hk⟩
  | n + 1 => c_readTest_x t _ (lvT_I t n) (lvCh_I t (lvT_I t n)) (lvS_I t (n + 1))
theorem lvS_st {S : am_S} {w : AH} {hb sp rb rs : Nat} {po : AV} {ee hh ss uu pp rr tt gg aa dd bd ga im : am_F} (hl : 109 ≤ w.length) (hp : hb = 1 ∧ sp = 21 ∨ hb = 21 ∧ sp = 1) (hr : rb = 41 ∧ rs = 46 ∨ rb = 46 ∧ rs = 41) (t : TpI ee) (n : Nat) (hn : n ≤ 6) (h : 6 - (n : Int) < 6 → LvC S w hb sp rb rs po ee hh ss uu pp rr tt gg aa dd bd ga im zX8_readSum (3 * n + 8) (6 - (n : Int) + 1) (lvS ee n)) : LvC S w hb sp rb rs po ee hh ss uu pp rr tt gg aa dd bd ga im zX8_readSum (3 * n + 11) (6 - (n : Int)) (lvS ee (n + 1)) := by
  have hU : LvC S w hb sp rb rs po ee hh ss uu pp rr tt gg aa dd bd ga im zX8_readUnit (3 * n + 9) (6 - (n : Int)) (fun v k => c_readUnit ee v k (6 - (n : Int)) (lvS ee n)) := fun d' v k hd hv hk => mc_readUnit hl hp hr _ (3 * n + 8) _ hk t hv (by omega) (by omega) h (lvS_I t n) (by omega)
  have iU : LvI (fun v k => c_readUnit ee v k (6 - (n : Int)) (lvS ee n)) := c_readUnit_x t _ (lvS_I t n)
  have hPr : LvC S w hb sp rb rs po ee hh ss uu pp rr tt gg aa dd bd ga im zX8_readProduct (3 * n + 10) (6 - (n : Int)) (fun v k => c_readProduct ee v k (fun v k => c_readUnit ee v k (6 - (n : Int)) (lvS ee n))) := fun d' v k hd hv hk => mc_readProduct hl hp hr _ (3 * n + 9) _ hk t hv (by omega) (by omega) hU iU (by omega)
  exact fun d' v k hd hv hk => mc_readSum hl hp hr _ (3 * n + 10) _ hk t hv (by omega) (by omega) hPr (c_readProduct_x t iU) (by omega)
theorem lvS_C {S : am_S} {w : AH} {hb sp rb rs : Nat} {po : AV} {ee hh ss uu pp rr tt gg aa dd bd ga im : am_F} (hl : 109 ≤ w.length) (hp : hb = 1 ∧ sp = 21 ∨ hb = 21 ∧ sp = 1) (hr : rb = 41 ∧ rs = 46 ∨ rb = 46 ∧ rs = 41) (t : TpI ee) : ∀ n : Nat, n ≤ 6 → LvC S w hb sp rb rs po ee hh ss uu pp rr tt gg aa dd bd ga im zX8_readSum (3 * n + 11) (6 - (n : Int)) (lvS ee (n + 1)) := by
  intro n
  induction n with
  | zero => exact fun hn => lvS_st hl hp hr t 0 hn (fun h => absurd h (by omega))
  | succ n ih =>
    intro hn
    refine lvS_st hl hp hr t (n + 1) hn (fun _ => ?_)
    have h := ih (by omega)
    rw [show (6 - ((n + 1 : Nat) : Int) + 1) = 6 - (n : Int) by omega, show 3 * (n + 1) + 8 = 3 * n + 11 by omega]
    exact h
theorem lvCh_st {S : am_S} {w : AH} {hb sp rb rs : Nat} {po : AV} {ee hh ss uu pp rr tt gg aa dd bd ga im : am_F} (hl : 109 ≤ w.length) (hp : hb = 1 ∧ sp = 21 ∨ hb = 21 ∧ sp = 1) (hr : rb = 41 ∧ rs = 46 ∨ rb = 46 ∧ rs = 41) (t : TpI ee) (n : Nat) (hn : n ≤ 6) (ft : am_F → am_F → am_F × am_F) (i : LvI ft) (h : LvC S w hb sp rb rs po ee hh ss uu pp rr tt gg aa dd bd ga im zX8_readTest (3 * n + 12) (6 - (n : Int)) ft) : LvC S w hb sp rb rs po ee hh ss uu pp rr tt gg aa dd bd ga im zX8_readChoice (3 * n + 14) (6 - (n : Int)) (lvCh ee ft) := by
  have hB : LvC S w hb sp rb rs po ee hh ss uu pp rr tt gg aa dd bd ga im zX8_readBoth (3 * n + 13) (6 - (n : Int)) (fun v k => c_readBoth ee v k ft) := fun d' v k hd hv hk => mc_readBoth hl hp hr _ (3 * n + 12) _ hk t hv (by omega) (by omega) h i (by omega)
  exact fun d' v k hd hv hk => mc_readChoice hl hp hr _ (3 * n + 13) _ hk t hv (by omega) (by omega) hB (c_readBoth_x t i) (by omega)
theorem lvT_C {S : am_S} {w : AH} {hb sp rb rs : Nat} {po : AV} {ee hh ss uu pp rr tt gg aa dd bd ga im : am_F} (hl : 109 ≤ w.length) (hp : hb = 1 ∧ sp = 21 ∨ hb = 21 ∧ sp = 1) (hr : rb = 41 ∧ rs = 46 ∨ rb = 46 ∧ rs = 41) (t : TpI ee) : ∀ n : Nat, n ≤ 6 → LvC S w hb sp rb rs po ee hh ss uu pp rr tt gg aa dd bd ga im zX8_readTest (3 * n + 12) (6 - (n : Int)) (lvT ee (n + 1)) := by
  intro n
  induction n with
  | zero =>
    intro hn
    have hS := lvS_C (S := S) (po := po) (ss := ss) (hh := hh) (uu := uu) (pp := pp) (rr := rr) (tt := tt) (gg := gg) (aa := aa) (dd := dd) (bd := bd) (ga := ga) (im := im) hl hp hr t 0 hn
    exact fun d' v k hd hv hk => mc_readTest hl hp hr _ (3 * 0 + 11) _ _ _ hk t hv (by omega) (by omega) (fun h => absurd h (by omega)) (fun h => absurd h (by omega)) hS (lvT_I t 0) (lvCh_I t (lvT_I t 0)) (lvS_I t _) (by omega)
  | succ n ih =>
    intro hn
    have h := ih (by omega)
    have hC := lvCh_st (S := S) (po := po) (ss := ss) (hh := hh) (uu := uu) (pp := pp) (rr := rr) (tt := tt) (gg := gg) (aa := aa) (dd := dd) (bd := bd) (ga := ga) (im := im) hl hp hr t n (by omega) _ (lvT_I t (n + 1)) h
    have hS := lvS_C (S := S) (po := po) (ss := ss) (hh := hh) (uu := uu) (pp := pp) (rr := rr) (tt := tt) (gg := gg) (aa := aa) (dd := dd) (bd := bd) (ga := ga) (im := im) hl hp hr t (n + 1) hn
    have e : (6 - ((n + 1 : Nat) : Int) + 1) = 6 - (n : Int) := by omega
    exact fun d' v k hd hv hk => mc_readTest hl hp hr _ (3 * n + 14) _ _ _ hk t hv (by omega) (by omega) (fun _ => by rw [e]; exact fun d2 v2 k2 hd2 => h d2 v2 k2 (by omega)) (fun _ => by rw [e]; exact hC) (fun d2 v2 k2 hd2 => hS d2 v2 k2 (by omega)) (lvT_I t _) (lvCh_I t (lvT_I t _)) (lvS_I t _) (by omega)
theorem lvS_0 {S : am_S} {w : AH} {hb sp rb rs : Nat} {po : AV} {ee hh ss uu pp rr tt gg aa dd bd ga im : am_F} (hl : 109 ≤ w.length) (hp : hb = 1 ∧ sp = 21 ∨ hb = 21 ∧ sp = 1) (hr : rb = 41 ∧ rs = 46 ∨ rb = 46 ∧ rs = 41) (t : TpI ee) : LvC S w hb sp rb rs po ee hh ss uu pp rr tt gg aa dd bd ga im zX8_readSum 29 0 (lvS ee 7) := lvS_C hl hp hr t 6 (by omega)
theorem lvCh_0 {S : am_S} {w : AH} {hb sp rb rs : Nat} {po : AV} {ee hh ss uu pp rr tt gg aa dd bd ga im : am_F} (hl : 109 ≤ w.length) (hp : hb = 1 ∧ sp = 21 ∨ hb = 21 ∧ sp = 1) (hr : rb = 41 ∧ rs = 46 ∨ rb = 46 ∧ rs = 41) (t : TpI ee) : LvC S w hb sp rb rs po ee hh ss uu pp rr tt gg aa dd bd ga im zX8_readChoice 32 0 (lvCh ee (lvT ee 7)) := lvCh_st hl hp hr t 6 (by omega) _ (lvT_I t 7) (lvT_C hl hp hr t 6 (by omega))
