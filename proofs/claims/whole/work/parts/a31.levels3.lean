/-! the model: the levels by induction; a part, a rule -/
def mS : Nat → am_F → am_F
  | 0 => fun c => c
  | n + 1 => fun c => k_sum c (fun c => k_times c (fun c => k_oneHere c (mS n)))
def mOr (f : am_F → am_F) : am_F → am_F := fun c => k_orRow c (fun c => k_andRow c f)
def mT : Nat → am_F → am_F
  | 0 => fun c => c
  | n + 1 => fun c => k_oneIs c (mT n) (mOr (mT n)) (mS (n + 1))
theorem mS_I : ∀ n, LmI (mS n)
  | 0 => fun c hM => MR_r hM
  | n + 1 => k_sum_x (k_times_x (k_oneHere_x (mS_I n)))
theorem mOr_I {f : am_F → am_F} (h : LmI f) : LmI (mOr f) := k_orRow_x (k_andRow_x h)
theorem mT_I : ∀ n, LmI (mT n)
  | 0 => fun c hM => MR_r hM
  | n + 1 => k_oneIs_x (mT_I n) (mOr_I (mT_I n)) (mS_I (n + 1))
theorem LmC_0 {S : am_S} {w : AH} {b : Nat} {q : am_F} {z : am_Z} {E : Nat} {nf : Int} {f : am_F → am_F} (h : nf ≤ -1) : LmC S w b q z E nf f := fun d' c hd hM hn => absurd hM.2.2.2.1 (by omega)
theorem LmC_le {S : am_S} {w : AH} {b : Nat} {q : am_F} {z : am_Z} {E E' : Nat} {nf nf' : Int} {f : am_F → am_F} (h : LmC S w b q z E nf f) (hE : E ≤ E') (hn : nf' ≤ nf) : LmC S w b q z E' nf' f := fun d' c hd hM h6 => h d' c (by omega) hM (by omega)
theorem mS_st {S : am_S} {w : AH} {b : Nat} {q : am_F} (hl : b + 735 ≤ w.length) (n : Nat) (h : LmC S w b q zX12_sum (3 * n + 8) ((n : Int) - 1) (mS n)) : LmC S w b q zX12_sum (3 * n + 11) (n : Int) (mS (n + 1)) := by
  have h1 : LmC S w b q zX12_oneHere (3 * n + 9) (n : Int) (fun c => k_oneHere c (mS n)) := fun d' c hd hM hn => mk_oneHere hl (3 * n + 8) (n : Int) (mS n) hM (by omega) hn h (mS_I n) (by omega)
  have i1 : LmI (fun c => k_oneHere c (mS n)) := k_oneHere_x (mS_I n)
  have h2 : LmC S w b q zX12_times (3 * n + 10) (n : Int) (fun c => k_times c (fun c => k_oneHere c (mS n))) := fun d' c hd hM hn => mk_times hl (3 * n + 9) (n : Int) _ hM (by omega) hn h1 i1 (by omega)
  exact fun d' c hd hM hn => mk_sum hl (3 * n + 10) (n : Int) _ hM (by omega) hn h2 (k_times_x i1) (by omega)
theorem mS_C {S : am_S} {w : AH} {b : Nat} {q : am_F} (hl : b + 735 ≤ w.length) : ∀ n : Nat, LmC S w b q zX12_sum (3 * n + 11) (n : Int) (mS (n + 1)) := by
  intro n
  induction n with
  | zero => exact mS_st hl 0 (LmC_0 (by omega))
  | succ n ih => exact mS_st hl (n + 1) (LmC_le ih (by omega) (by omega))
theorem mOr_st {S : am_S} {w : AH} {b : Nat} {q : am_F} (hl : b + 735 ≤ w.length) (n : Nat) (f : am_F → am_F) (i : LmI f) (h : LmC S w b q zX12_oneIs (3 * n + 12) (n : Int) f) : LmC S w b q zX12_orRow (3 * n + 14) (n : Int) (mOr f) := by
  have h1 : LmC S w b q zX12_andRow (3 * n + 13) (n : Int) (fun c => k_andRow c f) := fun d' c hd hM hn => mk_andRow hl (3 * n + 12) (n : Int) _ hM (by omega) hn h i (by omega)
  exact fun d' c hd hM hn => mk_orRow hl (3 * n + 13) (n : Int) _ hM (by omega) hn h1 (k_andRow_x i) (by omega)
theorem mT_st {S : am_S} {w : AH} {b : Nat} {q : am_F} (hl : b + 735 ≤ w.length) (n : Nat) (hn : LmC S w b q zX12_oneIs (3 * n + 11) ((n : Int) - 1) (mT n)) (hc : LmC S w b q zX12_orRow (3 * n + 11) ((n : Int) - 1) (mOr (mT n))) : LmC S w b q zX12_oneIs (3 * n + 12) (n : Int) (mT (n + 1)) :=
  fun d' c hd hM h6 => mk_oneIs hl (3 * n + 11) (n : Int) _ _ _ hM (by omega) h6 hn hc (mS_C hl n) (mT_I n) (mOr_I (mT_I n)) (mS_I (n + 1)) (by omega)
theorem mT_C {S : am_S} {w : AH} {b : Nat} {q : am_F} (hl : b + 735 ≤ w.length) : ∀ n : Nat, LmC S w b q zX12_oneIs (3 * n + 12) (n : Int) (mT (n + 1)) := by
  intro n
  induction n with
  | zero => exact mT_st hl 0 (LmC_0 (by omega)) (LmC_0 (by omega))
  | succ n ih => exact mT_st hl (n + 1) (LmC_le ih (by omega) (by omega)) (LmC_le (mOr_st hl n _ (mT_I _) ih) (by omega) (by omega))
def mr_sum (c : am_F) : am_F := mS 7 c
def mr_or (c : am_F) : am_F := mOr (mT 7) c
theorem mr_sum_I {c : am_F} (hM : MI c) : MR c (mr_sum c) 0 0 := mS_I 7 c hM
theorem mr_or_I {c : am_F} (hM : MI c) : MR c (mr_or c) 0 0 := mOr_I (mT_I 7) c hM
theorem mr_sum_C {S : am_S} {w : AH} {b : Nat} {q : am_F} (hl : b + 735 ≤ w.length) {c : am_F} {d' : Nat} (hd : 29 ≤ d') (hM : MI c) : am_Out S zX12_sum d' 0 [aR b] (mdW w b c q) (.inl none) (mdW w b (mr_sum c) q) := mS_C hl 6 d' c hd hM (by have := hM.2.2.2.1; omega)
theorem mr_or_C {S : am_S} {w : AH} {b : Nat} {q : am_F} (hl : b + 735 ≤ w.length) {c : am_F} {d' : Nat} (hd : 32 ≤ d') (hM : MI c) : am_Out S zX12_orRow d' 0 [aR b] (mdW w b c q) (.inl none) (mdW w b (mr_or c) q) := mOr_st hl 6 _ (mT_I 7) (mT_C hl 6) d' c hd hM (by have := hM.2.2.2.1; omega)
