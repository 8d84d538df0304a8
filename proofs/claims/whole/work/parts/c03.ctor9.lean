/-! constructors: the class as a region; the model -/
def W11g (g r : am_F) : AH := cO 10 [aR 1, aR 21, aR 41, aR 46, aR 52, aR 53, aR 51, aI 0, aI (-1), aR 54, aR 64, aR 74, aR 77, aR 83, aR 84, aR 86, aR 88, aI 0, aR 107, aR 108] :: (hbL 1 g ++ (hbL 21 g ++ (ruL 41 ++ (ruL 46 ++ ([cP 0 600 (fun _ => 0)] ++ ([cO 5 [aR 51, aI 0, aI 0, aI 0, aI 0, aI 0, aN, aI 0, aI 0, aI 0, aI 0]] ++ ([cO 7 [aR 51, aI 0, aI 0, aI 0, aI 0, aI 0, aN]] ++ (rnL 54 1 r ++ (rnL 64 1 r ++ (eyL 74 ++ (auL 77 ++ ([cO 1 [aI 0, aI 0, aI 0, aI 0, aI 0, aI 0, aI 0]] ++ (tbL 84 12 ++ (tbL 86 8 ++ ([cQ 4 3 (am_upQ (am_upQ (am_upQ (fun _ => none) 0 (some 89)) 1 (some 95)) 2 (some 101))] ++ (imL 89 ++ (imL 95 ++ (imL 101 ++ ([cP 0 3 (fun _ => 0)] ++ ([cP 0 100 (fun _ => 0)] ++ ([])))))))))))))))))))))
theorem W11_e : W11 = W11g (c_reset z0F) (f_begin (c_reset z0F) z0F) := by
  unfold W11 W11g qa14 qa13 qa12 qa11 qa10 qa9 qa8 qa7 qa6 qa5 qa4 qa3 qa2 qa1 qa0
  simp only [List.nil_append, List.append_nil, List.append_assoc, List.cons_append]
def e0F : am_F := am_put z0F 0 8 (-1)
def bd0 : am_F := am_put z0F 0 0 12
def ga0 : am_F := am_put z0F 0 0 8
theorem sk_r {A R : AH} {n j : Nat} (h : A.length = n) : (A ++ R)[n + j]? = R[j]? := by
  rw [List.getElem?_append_right (by omega), show n + j - A.length = j by omega]
theorem sk_l {A R : AH} {n j : Nat} (h : A.length = n) (hj : j < n) : (A ++ R)[j]? = A[j]? := List.getElem?_append_left (by omega)
theorem W11_im : am_upQ (am_upQ (am_upQ (fun _ => none) 0 (some 89)) 1 (some 95)) 2 (some 101) = (fun i => if i < 3 then some (89 + 6 * i) else none) := by
  funext i
  match i with
  | 0 => rfl
  | 1 => rfl
  | 2 => rfl
  | n + 3 =>
    rw [if_neg (show ¬ n + 3 < 3 by omega)]
    rfl
theorem W11_p0 (g r : am_F) (j : Nat) (hj : j < 20) : (W11g g r)[1 + j]? = some (hfC 1 21 41 46 1 aN aN e0F g g z0F z0F z0F z0F r (am_put r 0 0 1) z0F z0F z0F bd0 ga0 z0F (1 + j)) := by
  have e : (W11g g r)[1 + j]? = (hbL 1 g)[j]? := by
    rw [show 1 + j = j + 1 by omega]
    unfold W11g
    rw [List.getElem?_cons_succ]
    exact sk_l (n := 20) hbL_len hj
  rw [e]
  exact (match j, hj with | 0, _ => rfl | 1, _ => rfl | 2, _ => rfl | 3, _ => rfl | 4, _ => rfl | 5, _ => rfl | 6, _ => rfl | 7, _ => rfl | 8, _ => rfl | 9, _ => rfl | 10, _ => rfl | 11, _ => rfl | 12, _ => rfl | 13, _ => rfl | 14, _ => rfl | 15, _ => rfl | 16, _ => rfl | 17, _ => rfl | 18, _ => rfl | 19, _ => rfl | m + 20, h => absurd h (by omega))
theorem W11_p1 (g r : am_F) (j : Nat) (hj : j < 20) : (W11g g r)[21 + j]? = some (hfC 1 21 41 46 1 aN aN e0F g g z0F z0F z0F z0F r (am_put r 0 0 1) z0F z0F z0F bd0 ga0 z0F (21 + j)) := by
  have e : (W11g g r)[21 + j]? = (hbL 21 g)[j]? := by
    rw [show 21 + j = (20 + j) + 1 by omega]
    unfold W11g
    rw [List.getElem?_cons_succ, sk_r (A := hbL 1 g) (n := 20) hbL_len]
    exact sk_l (n := 20) hbL_len hj
  rw [e]
  exact (match j, hj with | 0, _ => rfl | 1, _ => rfl | 2, _ => rfl | 3, _ => rfl | 4, _ => rfl | 5, _ => rfl | 6, _ => rfl | 7, _ => rfl | 8, _ => rfl | 9, _ => rfl | 10, _ => rfl | 11, _ => rfl | 12, _ => rfl | 13, _ => rfl | 14, _ => rfl | 15, _ => rfl | 16, _ => rfl | 17, _ => rfl | 18, _ => rfl | 19, _ => rfl | m + 20, h => absurd h (by omega))
theorem W11_p2 (g r : am_F) (j : Nat) (hj : j < 5) : (W11g g r)[41 + j]? = some (hfC 1 21 41 46 1 aN aN e0F g g z0F z0F z0F z0F r (am_put r 0 0 1) z0F z0F z0F bd0 ga0 z0F (41 + j)) := by
  have e : (W11g g r)[41 + j]? = (ruL 41)[j]? := by
    rw [show 41 + j = (20 + (20 + j)) + 1 by omega]
    unfold W11g
    rw [List.getElem?_cons_succ, sk_r (A := hbL 1 g) (n := 20) hbL_len, sk_r (A := hbL 21 g) (n := 20) hbL_len]
    exact sk_l (n := 5) rfl hj
  rw [e]
  exact (match j, hj with | 0, _ => rfl | 1, _ => rfl | 2, _ => rfl | 3, _ => rfl | 4, _ => rfl | m + 5, h => absurd h (by omega))
theorem W11_p3 (g r : am_F) (j : Nat) (hj : j < 5) : (W11g g r)[46 + j]? = some (hfC 1 21 41 46 1 aN aN e0F g g z0F z0F z0F z0F r (am_put r 0 0 1) z0F z0F z0F bd0 ga0 z0F (46 + j)) := by
  have e : (W11g g r)[46 + j]? = (ruL 46)[j]? := by
    rw [show 46 + j = (20 + (20 + (5 + j))) + 1 by omega]
    unfold W11g
    rw [List.getElem?_cons_succ, sk_r (A := hbL 1 g) (n := 20) hbL_len, sk_r (A := hbL 21 g) (n := 20) hbL_len, sk_r (A := ruL 41) (n := 5) rfl]
    exact sk_l (n := 5) rfl hj
  rw [e]
  exact (match j, hj with | 0, _ => rfl | 1, _ => rfl | 2, _ => rfl | 3, _ => rfl | 4, _ => rfl | m + 5, h => absurd h (by omega))
theorem W11_p4 (g r : am_F) (j : Nat) (hj : j < 1) : (W11g g r)[51 + j]? = some (hfC 1 21 41 46 1 aN aN e0F g g z0F z0F z0F z0F r (am_put r 0 0 1) z0F z0F z0F bd0 ga0 z0F (51 + j)) := by
  have e : (W11g g r)[51 + j]? = ([cP 0 600 (fun _ => 0)])[j]? := by
    rw [show 51 + j = (20 + (20 + (5 + (5 + j)))) + 1 by omega]
    unfold W11g
    rw [List.getElem?_cons_succ, sk_r (A := hbL 1 g) (n := 20) hbL_len, sk_r (A := hbL 21 g) (n := 20) hbL_len, sk_r (A := ruL 41) (n := 5) rfl, sk_r (A := ruL 46) (n := 5) rfl]
    exact sk_l (n := 1) rfl hj
  rw [e]
  exact (match j, hj with | 0, _ => rfl | m + 1, h => absurd h (by omega))
theorem W11_p5 (g r : am_F) (j : Nat) (hj : j < 1) : (W11g g r)[52 + j]? = some (hfC 1 21 41 46 1 aN aN e0F g g z0F z0F z0F z0F r (am_put r 0 0 1) z0F z0F z0F bd0 ga0 z0F (52 + j)) := by
  have e : (W11g g r)[52 + j]? = ([cO 5 [aR 51, aI 0, aI 0, aI 0, aI 0, aI 0, aN, aI 0, aI 0, aI 0, aI 0]])[j]? := by
    rw [show 52 + j = (20 + (20 + (5 + (5 + (1 + j))))) + 1 by omega]
    unfold W11g
    rw [List.getElem?_cons_succ, sk_r (A := hbL 1 g) (n := 20) hbL_len, sk_r (A := hbL 21 g) (n := 20) hbL_len, sk_r (A := ruL 41) (n := 5) rfl, sk_r (A := ruL 46) (n := 5) rfl, sk_r (A := [cP 0 600 (fun _ => 0)]) (n := 1) rfl]
    exact sk_l (n := 1) rfl hj
  rw [e]
  exact (match j, hj with | 0, _ => rfl | m + 1, h => absurd h (by omega))
theorem W11_p6 (g r : am_F) (j : Nat) (hj : j < 1) : (W11g g r)[53 + j]? = some (hfC 1 21 41 46 1 aN aN e0F g g z0F z0F z0F z0F r (am_put r 0 0 1) z0F z0F z0F bd0 ga0 z0F (53 + j)) := by
  have e : (W11g g r)[53 + j]? = ([cO 7 [aR 51, aI 0, aI 0, aI 0, aI 0, aI 0, aN]])[j]? := by
    rw [show 53 + j = (20 + (20 + (5 + (5 + (1 + (1 + j)))))) + 1 by omega]
    unfold W11g
    rw [List.getElem?_cons_succ, sk_r (A := hbL 1 g) (n := 20) hbL_len, sk_r (A := hbL 21 g) (n := 20) hbL_len, sk_r (A := ruL 41) (n := 5) rfl, sk_r (A := ruL 46) (n := 5) rfl, sk_r (A := [cP 0 600 (fun _ => 0)]) (n := 1) rfl, sk_r (A := [cO 5 [aR 51, aI 0, aI 0, aI 0, aI 0, aI 0, aN, aI 0, aI 0, aI 0, aI 0]]) (n := 1) rfl]
    exact sk_l (n := 1) rfl hj
  rw [e]
  exact (match j, hj with | 0, _ => rfl | m + 1, h => absurd h (by omega))
theorem W11_p7 (g r : am_F) (j : Nat) (hj : j < 10) : (W11g g r)[54 + j]? = some (hfC 1 21 41 46 1 aN aN e0F g g z0F z0F z0F z0F r (am_put r 0 0 1) z0F z0F z0F bd0 ga0 z0F (54 + j)) := by
  have e : (W11g g r)[54 + j]? = (rnL 54 1 r)[j]? := by
    rw [show 54 + j = (20 + (20 + (5 + (5 + (1 + (1 + (1 + j))))))) + 1 by omega]
    unfold W11g
    rw [List.getElem?_cons_succ, sk_r (A := hbL 1 g) (n := 20) hbL_len, sk_r (A := hbL 21 g) (n := 20) hbL_len, sk_r (A := ruL 41) (n := 5) rfl, sk_r (A := ruL 46) (n := 5) rfl, sk_r (A := [cP 0 600 (fun _ => 0)]) (n := 1) rfl, sk_r (A := [cO 5 [aR 51, aI 0, aI 0, aI 0, aI 0, aI 0, aN, aI 0, aI 0, aI 0, aI 0]]) (n := 1) rfl, sk_r (A := [cO 7 [aR 51, aI 0, aI 0, aI 0, aI 0, aI 0, aN]]) (n := 1) rfl]
    exact sk_l (n := 10) rnL_len hj
  rw [e]
  exact (match j, hj with | 0, _ => rfl | 1, _ => rfl | 2, _ => rfl | 3, _ => rfl | 4, _ => rfl | 5, _ => rfl | 6, _ => rfl | 7, _ => rfl | 8, _ => rfl | 9, _ => rfl | m + 10, h => absurd h (by omega))
theorem W11_p8 (g r : am_F) (j : Nat) (hj : j < 10) : (W11g g r)[64 + j]? = some (hfC 1 21 41 46 1 aN aN e0F g g z0F z0F z0F z0F r (am_put r 0 0 1) z0F z0F z0F bd0 ga0 z0F (64 + j)) := by
  have e : (W11g g r)[64 + j]? = (rnL 64 1 r)[j]? := by
    rw [show 64 + j = (20 + (20 + (5 + (5 + (1 + (1 + (1 + (10 + j)))))))) + 1 by omega]
    unfold W11g
    rw [List.getElem?_cons_succ, sk_r (A := hbL 1 g) (n := 20) hbL_len, sk_r (A := hbL 21 g) (n := 20) hbL_len, sk_r (A := ruL 41) (n := 5) rfl, sk_r (A := ruL 46) (n := 5) rfl, sk_r (A := [cP 0 600 (fun _ => 0)]) (n := 1) rfl, sk_r (A := [cO 5 [aR 51, aI 0, aI 0, aI 0, aI 0, aI 0, aN, aI 0, aI 0, aI 0, aI 0]]) (n := 1) rfl, sk_r (A := [cO 7 [aR 51, aI 0, aI 0, aI 0, aI 0, aI 0, aN]]) (n := 1) rfl, sk_r (A := rnL 54 1 r) (n := 10) rnL_len]
    exact sk_l (n := 10) rnL_len hj
  rw [e]
  exact (match j, hj with | 0, _ => rfl | 1, _ => rfl | 2, _ => rfl | 3, _ => rfl | 4, _ => rfl | 5, _ => rfl | 6, _ => rfl | 7, _ => rfl | 8, _ => rfl | 9, _ => rfl | m + 10, h => absurd h (by omega))
theorem W11_p9 (g r : am_F) (j : Nat) (hj : j < 3) : (W11g g r)[74 + j]? = some (hfC 1 21 41 46 1 aN aN e0F g g z0F z0F z0F z0F r (am_put r 0 0 1) z0F z0F z0F bd0 ga0 z0F (74 + j)) := by
  have e : (W11g g r)[74 + j]? = (eyL 74)[j]? := by
    rw [show 74 + j = (20 + (20 + (5 + (5 + (1 + (1 + (1 + (10 + (10 + j))))))))) + 1 by omega]
    unfold W11g
    rw [List.getElem?_cons_succ, sk_r (A := hbL 1 g) (n := 20) hbL_len, sk_r (A := hbL 21 g) (n := 20) hbL_len, sk_r (A := ruL 41) (n := 5) rfl, sk_r (A := ruL 46) (n := 5) rfl, sk_r (A := [cP 0 600 (fun _ => 0)]) (n := 1) rfl, sk_r (A := [cO 5 [aR 51, aI 0, aI 0, aI 0, aI 0, aI 0, aN, aI 0, aI 0, aI 0, aI 0]]) (n := 1) rfl, sk_r (A := [cO 7 [aR 51, aI 0, aI 0, aI 0, aI 0, aI 0, aN]]) (n := 1) rfl, sk_r (A := rnL 54 1 r) (n := 10) rnL_len, sk_r (A := rnL 64 1 r) (n := 10) rnL_len]
    exact sk_l (n := 3) rfl hj
  rw [e]
  exact (match j, hj with | 0, _ => rfl | 1, _ => rfl | 2, _ => rfl | m + 3, h => absurd h (by omega))
theorem W11_p10 (g r : am_F) (j : Nat) (hj : j < 6) : (W11g g r)[77 + j]? = some (hfC 1 21 41 46 1 aN aN e0F g g z0F z0F z0F z0F r (am_put r 0 0 1) z0F z0F z0F bd0 ga0 z0F (77 + j)) := by
  have e : (W11g g r)[77 + j]? = (auL 77)[j]? := by
    rw [show 77 + j = (20 + (20 + (5 + (5 + (1 + (1 + (1 + (10 + (10 + (3 + j)))))))))) + 1 by omega]
    unfold W11g
    rw [List.getElem?_cons_succ, sk_r (A := hbL 1 g) (n := 20) hbL_len, sk_r (A := hbL 21 g) (n := 20) hbL_len, sk_r (A := ruL 41) (n := 5) rfl, sk_r (A := ruL 46) (n := 5) rfl, sk_r (A := [cP 0 600 (fun _ => 0)]) (n := 1) rfl, sk_r (A := [cO 5 [aR 51, aI 0, aI 0, aI 0, aI 0, aI 0, aN, aI 0, aI 0, aI 0, aI 0]]) (n := 1) rfl, sk_r (A := [cO 7 [aR 51, aI 0, aI 0, aI 0, aI 0, aI 0, aN]]) (n := 1) rfl, sk_r (A := rnL 54 1 r) (n := 10) rnL_len, sk_r (A := rnL 64 1 r) (n := 10) rnL_len, sk_r (A := eyL 74) (n := 3) rfl]
    exact sk_l (n := 6) rfl hj
  rw [e]
  exact (match j, hj with | 0, _ => rfl | 1, _ => rfl | 2, _ => rfl | 3, _ => rfl | 4, _ => rfl | 5, _ => rfl | m + 6, h => absurd h (by omega))
theorem W11_p11 (g r : am_F) (j : Nat) (hj : j < 1) : (W11g g r)[83 + j]? = some (hfC 1 21 41 46 1 aN aN e0F g g z0F z0F z0F z0F r (am_put r 0 0 1) z0F z0F z0F bd0 ga0 z0F (83 + j)) := by
  have e : (W11g g r)[83 + j]? = ([cO 1 [aI 0, aI 0, aI 0, aI 0, aI 0, aI 0, aI 0]])[j]? := by
    rw [show 83 + j = (20 + (20 + (5 + (5 + (1 + (1 + (1 + (10 + (10 + (3 + (6 + j))))))))))) + 1 by omega]
    unfold W11g
    rw [List.getElem?_cons_succ, sk_r (A := hbL 1 g) (n := 20) hbL_len, sk_r (A := hbL 21 g) (n := 20) hbL_len, sk_r (A := ruL 41) (n := 5) rfl, sk_r (A := ruL 46) (n := 5) rfl, sk_r (A := [cP 0 600 (fun _ => 0)]) (n := 1) rfl, sk_r (A := [cO 5 [aR 51, aI 0, aI 0, aI 0, aI 0, aI 0, aN, aI 0, aI 0, aI 0, aI 0]]) (n := 1) rfl, sk_r (A := [cO 7 [aR 51, aI 0, aI 0, aI 0, aI 0, aI 0, aN]]) (n := 1) rfl, sk_r (A := rnL 54 1 r) (n := 10) rnL_len, sk_r (A := rnL 64 1 r) (n := 10) rnL_len, sk_r (A := eyL 74) (n := 3) rfl, sk_r (A := auL 77) (n := 6) rfl]
    exact sk_l (n := 1) rfl hj
  rw [e]
  exact (match j, hj with | 0, _ => rfl | m + 1, h => absurd h (by omega))
theorem W11_p12 (g r : am_F) (j : Nat) (hj : j < 2) : (W11g g r)[84 + j]? = some (hfC 1 21 41 46 1 aN aN e0F g g z0F z0F z0F z0F r (am_put r 0 0 1) z0F z0F z0F bd0 ga0 z0F (84 + j)) := by
  have e : (W11g g r)[84 + j]? = (tbL 84 12)[j]? := by
    rw [show 84 + j = (20 + (20 + (5 + (5 + (1 + (1 + (1 + (10 + (10 + (3 + (6 + (1 + j)))))))))))) + 1 by omega]
    unfold W11g
    rw [List.getElem?_cons_succ, sk_r (A := hbL 1 g) (n := 20) hbL_len, sk_r (A := hbL 21 g) (n := 20) hbL_len, sk_r (A := ruL 41) (n := 5) rfl, sk_r (A := ruL 46) (n := 5) rfl, sk_r (A := [cP 0 600 (fun _ => 0)]) (n := 1) rfl, sk_r (A := [cO 5 [aR 51, aI 0, aI 0, aI 0, aI 0, aI 0, aN, aI 0, aI 0, aI 0, aI 0]]) (n := 1) rfl, sk_r (A := [cO 7 [aR 51, aI 0, aI 0, aI 0, aI 0, aI 0, aN]]) (n := 1) rfl, sk_r (A := rnL 54 1 r) (n := 10) rnL_len, sk_r (A := rnL 64 1 r) (n := 10) rnL_len, sk_r (A := eyL 74) (n := 3) rfl, sk_r (A := auL 77) (n := 6) rfl, sk_r (A := [cO 1 [aI 0, aI 0, aI 0, aI 0, aI 0, aI 0, aI 0]]) (n := 1) rfl]
    exact sk_l (n := 2) rfl hj
  rw [e]
  exact (match j, hj with | 0, _ => rfl | 1, _ => rfl | m + 2, h => absurd h (by omega))
theorem W11_p13 (g r : am_F) (j : Nat) (hj : j < 2) : (W11g g r)[86 + j]? = some (hfC 1 21 41 46 1 aN aN e0F g g z0F z0F z0F z0F r (am_put r 0 0 1) z0F z0F z0F bd0 ga0 z0F (86 + j)) := by
  have e : (W11g g r)[86 + j]? = (tbL 86 8)[j]? := by
    rw [show 86 + j = (20 + (20 + (5 + (5 + (1 + (1 + (1 + (10 + (10 + (3 + (6 + (1 + (2 + j))))))))))))) + 1 by omega]
    unfold W11g
    rw [List.getElem?_cons_succ, sk_r (A := hbL 1 g) (n := 20) hbL_len, sk_r (A := hbL 21 g) (n := 20) hbL_len, sk_r (A := ruL 41) (n := 5) rfl, sk_r (A := ruL 46) (n := 5) rfl, sk_r (A := [cP 0 600 (fun _ => 0)]) (n := 1) rfl, sk_r (A := [cO 5 [aR 51, aI 0, aI 0, aI 0, aI 0, aI 0, aN, aI 0, aI 0, aI 0, aI 0]]) (n := 1) rfl, sk_r (A := [cO 7 [aR 51, aI 0, aI 0, aI 0, aI 0, aI 0, aN]]) (n := 1) rfl, sk_r (A := rnL 54 1 r) (n := 10) rnL_len, sk_r (A := rnL 64 1 r) (n := 10) rnL_len, sk_r (A := eyL 74) (n := 3) rfl, sk_r (A := auL 77) (n := 6) rfl, sk_r (A := [cO 1 [aI 0, aI 0, aI 0, aI 0, aI 0, aI 0, aI 0]]) (n := 1) rfl, sk_r (A := tbL 84 12) (n := 2) rfl]
    exact sk_l (n := 2) rfl hj
  rw [e]
  exact (match j, hj with | 0, _ => rfl | 1, _ => rfl | m + 2, h => absurd h (by omega))
theorem W11_p14 (g r : am_F) (j : Nat) (hj : j < 1) : (W11g g r)[88 + j]? = some (hfC 1 21 41 46 1 aN aN e0F g g z0F z0F z0F z0F r (am_put r 0 0 1) z0F z0F z0F bd0 ga0 z0F (88 + j)) := by
  have e : (W11g g r)[88 + j]? = ([cQ 4 3 (am_upQ (am_upQ (am_upQ (fun _ => none) 0 (some 89)) 1 (some 95)) 2 (some 101))])[j]? := by
    rw [show 88 + j = (20 + (20 + (5 + (5 + (1 + (1 + (1 + (10 + (10 + (3 + (6 + (1 + (2 + (2 + j)))))))))))))) + 1 by omega]
    unfold W11g
    rw [List.getElem?_cons_succ, sk_r (A := hbL 1 g) (n := 20) hbL_len, sk_r (A := hbL 21 g) (n := 20) hbL_len, sk_r (A := ruL 41) (n := 5) rfl, sk_r (A := ruL 46) (n := 5) rfl, sk_r (A := [cP 0 600 (fun _ => 0)]) (n := 1) rfl, sk_r (A := [cO 5 [aR 51, aI 0, aI 0, aI 0, aI 0, aI 0, aN, aI 0, aI 0, aI 0, aI 0]]) (n := 1) rfl, sk_r (A := [cO 7 [aR 51, aI 0, aI 0, aI 0, aI 0, aI 0, aN]]) (n := 1) rfl, sk_r (A := rnL 54 1 r) (n := 10) rnL_len, sk_r (A := rnL 64 1 r) (n := 10) rnL_len, sk_r (A := eyL 74) (n := 3) rfl, sk_r (A := auL 77) (n := 6) rfl, sk_r (A := [cO 1 [aI 0, aI 0, aI 0, aI 0, aI 0, aI 0, aI 0]]) (n := 1) rfl, sk_r (A := tbL 84 12) (n := 2) rfl, sk_r (A := tbL 86 8) (n := 2) rfl]
    exact sk_l (n := 1) rfl hj
  rw [e]
  exact (match j, hj with | 0, _ => congrArg (fun f9 : Nat → Option Nat => some (cQ 4 3 f9 : AC)) W11_im | m + 1, h => absurd h (by omega))
theorem W11_p15 (g r : am_F) (j : Nat) (hj : j < 6) : (W11g g r)[89 + j]? = some (hfC 1 21 41 46 1 aN aN e0F g g z0F z0F z0F z0F r (am_put r 0 0 1) z0F z0F z0F bd0 ga0 z0F (89 + j)) := by
  have e : (W11g g r)[89 + j]? = (imL 89)[j]? := by
    rw [show 89 + j = (20 + (20 + (5 + (5 + (1 + (1 + (1 + (10 + (10 + (3 + (6 + (1 + (2 + (2 + (1 + j))))))))))))))) + 1 by omega]
    unfold W11g
    rw [List.getElem?_cons_succ, sk_r (A := hbL 1 g) (n := 20) hbL_len, sk_r (A := hbL 21 g) (n := 20) hbL_len, sk_r (A := ruL 41) (n := 5) rfl, sk_r (A := ruL 46) (n := 5) rfl, sk_r (A := [cP 0 600 (fun _ => 0)]) (n := 1) rfl, sk_r (A := [cO 5 [aR 51, aI 0, aI 0, aI 0, aI 0, aI 0, aN, aI 0, aI 0, aI 0, aI 0]]) (n := 1) rfl, sk_r (A := [cO 7 [aR 51, aI 0, aI 0, aI 0, aI 0, aI 0, aN]]) (n := 1) rfl, sk_r (A := rnL 54 1 r) (n := 10) rnL_len, sk_r (A := rnL 64 1 r) (n := 10) rnL_len, sk_r (A := eyL 74) (n := 3) rfl, sk_r (A := auL 77) (n := 6) rfl, sk_r (A := [cO 1 [aI 0, aI 0, aI 0, aI 0, aI 0, aI 0, aI 0]]) (n := 1) rfl, sk_r (A := tbL 84 12) (n := 2) rfl, sk_r (A := tbL 86 8) (n := 2) rfl, sk_r (A := [cQ 4 3 (am_upQ (am_upQ (am_upQ (fun _ => none) 0 (some 89)) 1 (some 95)) 2 (some 101))]) (n := 1) rfl]
    exact sk_l (n := 6) rfl hj
  rw [e]
  exact (match j, hj with | 0, _ => rfl | 1, _ => rfl | 2, _ => rfl | 3, _ => rfl | 4, _ => rfl | 5, _ => rfl | m + 6, h => absurd h (by omega))
theorem W11_p16 (g r : am_F) (j : Nat) (hj : j < 6) : (W11g g r)[95 + j]? = some (hfC 1 21 41 46 1 aN aN e0F g g z0F z0F z0F z0F r (am_put r 0 0 1) z0F z0F z0F bd0 ga0 z0F (95 + j)) := by
  have e : (W11g g r)[95 + j]? = (imL 95)[j]? := by
    rw [show 95 + j = (20 + (20 + (5 + (5 + (1 + (1 + (1 + (10 + (10 + (3 + (6 + (1 + (2 + (2 + (1 + (6 + j)))))))))))))))) + 1 by omega]
    unfold W11g
    rw [List.getElem?_cons_succ, sk_r (A := hbL 1 g) (n := 20) hbL_len, sk_r (A := hbL 21 g) (n := 20) hbL_len, sk_r (A := ruL 41) (n := 5) rfl, sk_r (A := ruL 46) (n := 5) rfl, sk_r (A := [cP 0 600 (fun _ => 0)]) (n := 1) rfl, sk_r (A := [cO 5 [aR 51, aI 0, aI 0, aI 0, aI 0, aI 0, aN, aI 0, aI 0, aI 0, aI 0]]) (n := 1) rfl, sk_r (A := [cO 7 [aR 51, aI 0, aI 0, aI 0, aI 0, aI 0, aN]]) (n := 1) rfl, sk_r (A := rnL 54 1 r) (n := 10) rnL_len, sk_r (A := rnL 64 1 r) (n := 10) rnL_len, sk_r (A := eyL 74) (n := 3) rfl, sk_r (A := auL 77) (n := 6) rfl, sk_r (A := [cO 1 [aI 0, aI 0, aI 0, aI 0, aI 0, aI 0, aI 0]]) (n := 1) rfl, sk_r (A := tbL 84 12) (n := 2) rfl, sk_r (A := tbL 86 8) (n := 2) rfl, sk_r (A := [cQ 4 3 (am_upQ (am_upQ (am_upQ (fun _ => none) 0 (some 89)) 1 (some 95)) 2 (some 101))]) (n := 1) rfl, sk_r (A := imL 89) (n := 6) rfl]
    exact sk_l (n := 6) rfl hj
  rw [e]
  exact (match j, hj with | 0, _ => rfl | 1, _ => rfl | 2, _ => rfl | 3, _ => rfl | 4, _ => rfl | 5, _ => rfl | m + 6, h => absurd h (by omega))
theorem W11_p17 (g r : am_F) (j : Nat) (hj : j < 6) : (W11g g r)[101 + j]? = some (hfC 1 21 41 46 1 aN aN e0F g g z0F z0F z0F z0F r (am_put r 0 0 1) z0F z0F z0F bd0 ga0 z0F (101 + j)) := by
  have e : (W11g g r)[101 + j]? = (imL 101)[j]? := by
    rw [show 101 + j = (20 + (20 + (5 + (5 + (1 + (1 + (1 + (10 + (10 + (3 + (6 + (1 + (2 + (2 + (1 + (6 + (6 + j))))))))))))))))) + 1 by omega]
    unfold W11g
    rw [List.getElem?_cons_succ, sk_r (A := hbL 1 g) (n := 20) hbL_len, sk_r (A := hbL 21 g) (n := 20) hbL_len, sk_r (A := ruL 41) (n := 5) rfl, sk_r (A := ruL 46) (n := 5) rfl, sk_r (A := [cP 0 600 (fun _ => 0)]) (n := 1) rfl, sk_r (A := [cO 5 [aR 51, aI 0, aI 0, aI 0, aI 0, aI 0, aN, aI 0, aI 0, aI 0, aI 0]]) (n := 1) rfl, sk_r (A := [cO 7 [aR 51, aI 0, aI 0, aI 0, aI 0, aI 0, aN]]) (n := 1) rfl, sk_r (A := rnL 54 1 r) (n := 10) rnL_len, sk_r (A := rnL 64 1 r) (n := 10) rnL_len, sk_r (A := eyL 74) (n := 3) rfl, sk_r (A := auL 77) (n := 6) rfl, sk_r (A := [cO 1 [aI 0, aI 0, aI 0, aI 0, aI 0, aI 0, aI 0]]) (n := 1) rfl, sk_r (A := tbL 84 12) (n := 2) rfl, sk_r (A := tbL 86 8) (n := 2) rfl, sk_r (A := [cQ 4 3 (am_upQ (am_upQ (am_upQ (fun _ => none) 0 (some 89)) 1 (some 95)) 2 (some 101))]) (n := 1) rfl, sk_r (A := imL 89) (n := 6) rfl, sk_r (A := imL 95) (n := 6) rfl]
    exact sk_l (n := 6) rfl hj
  rw [e]
  exact (match j, hj with | 0, _ => rfl | 1, _ => rfl | 2, _ => rfl | 3, _ => rfl | 4, _ => rfl | 5, _ => rfl | m + 6, h => absurd h (by omega))
theorem W11_p18 (g r : am_F) (j : Nat) (hj : j < 1) : (W11g g r)[107 + j]? = some (hfC 1 21 41 46 1 aN aN e0F g g z0F z0F z0F z0F r (am_put r 0 0 1) z0F z0F z0F bd0 ga0 z0F (107 + j)) := by
  have e : (W11g g r)[107 + j]? = ([cP 0 3 (fun _ => 0)])[j]? := by
    rw [show 107 + j = (20 + (20 + (5 + (5 + (1 + (1 + (1 + (10 + (10 + (3 + (6 + (1 + (2 + (2 + (1 + (6 + (6 + (6 + j)))))))))))))))))) + 1 by omega]
    unfold W11g
    rw [List.getElem?_cons_succ, sk_r (A := hbL 1 g) (n := 20) hbL_len, sk_r (A := hbL 21 g) (n := 20) hbL_len, sk_r (A := ruL 41) (n := 5) rfl, sk_r (A := ruL 46) (n := 5) rfl, sk_r (A := [cP 0 600 (fun _ => 0)]) (n := 1) rfl, sk_r (A := [cO 5 [aR 51, aI 0, aI 0, aI 0, aI 0, aI 0, aN, aI 0, aI 0, aI 0, aI 0]]) (n := 1) rfl, sk_r (A := [cO 7 [aR 51, aI 0, aI 0, aI 0, aI 0, aI 0, aN]]) (n := 1) rfl, sk_r (A := rnL 54 1 r) (n := 10) rnL_len, sk_r (A := rnL 64 1 r) (n := 10) rnL_len, sk_r (A := eyL 74) (n := 3) rfl, sk_r (A := auL 77) (n := 6) rfl, sk_r (A := [cO 1 [aI 0, aI 0, aI 0, aI 0, aI 0, aI 0, aI 0]]) (n := 1) rfl, sk_r (A := tbL 84 12) (n := 2) rfl, sk_r (A := tbL 86 8) (n := 2) rfl, sk_r (A := [cQ 4 3 (am_upQ (am_upQ (am_upQ (fun _ => none) 0 (some 89)) 1 (some 95)) 2 (some 101))]) (n := 1) rfl, sk_r (A := imL 89) (n := 6) rfl, sk_r (A := imL 95) (n := 6) rfl, sk_r (A := imL 101) (n := 6) rfl]
    exact sk_l (n := 1) rfl hj
  rw [e]
  exact (match j, hj with | 0, _ => rfl | m + 1, h => absurd h (by omega))
theorem W11_p19 (g r : am_F) (j : Nat) (hj : j < 1) : (W11g g r)[108 + j]? = some (hfC 1 21 41 46 1 aN aN e0F g g z0F z0F z0F z0F r (am_put r 0 0 1) z0F z0F z0F bd0 ga0 z0F (108 + j)) := by
  have e : (W11g g r)[108 + j]? = ([cP 0 100 (fun _ => 0)])[j]? := by
    rw [show 108 + j = (20 + (20 + (5 + (5 + (1 + (1 + (1 + (10 + (10 + (3 + (6 + (1 + (2 + (2 + (1 + (6 + (6 + (6 + (1 + j))))))))))))))))))) + 1 by omega]
    unfold W11g
    rw [List.getElem?_cons_succ, sk_r (A := hbL 1 g) (n := 20) hbL_len, sk_r (A := hbL 21 g) (n := 20) hbL_len, sk_r (A := ruL 41) (n := 5) rfl, sk_r (A := ruL 46) (n := 5) rfl, sk_r (A := [cP 0 600 (fun _ => 0)]) (n := 1) rfl, sk_r (A := [cO 5 [aR 51, aI 0, aI 0, aI 0, aI 0, aI 0, aN, aI 0, aI 0, aI 0, aI 0]]) (n := 1) rfl, sk_r (A := [cO 7 [aR 51, aI 0, aI 0, aI 0, aI 0, aI 0, aN]]) (n := 1) rfl, sk_r (A := rnL 54 1 r) (n := 10) rnL_len, sk_r (A := rnL 64 1 r) (n := 10) rnL_len, sk_r (A := eyL 74) (n := 3) rfl, sk_r (A := auL 77) (n := 6) rfl, sk_r (A := [cO 1 [aI 0, aI 0, aI 0, aI 0, aI 0, aI 0, aI 0]]) (n := 1) rfl, sk_r (A := tbL 84 12) (n := 2) rfl, sk_r (A := tbL 86 8) (n := 2) rfl, sk_r (A := [cQ 4 3 (am_upQ (am_upQ (am_upQ (fun _ => none) 0 (some 89)) 1 (some 95)) 2 (some 101))]) (n := 1) rfl, sk_r (A := imL 89) (n := 6) rfl, sk_r (A := imL 95) (n := 6) rfl, sk_r (A := imL 101) (n := 6) rfl, sk_r (A := [cP 0 3 (fun _ => 0)]) (n := 1) rfl]
    exact sk_l (n := 1) rfl hj
  rw [e]
  exact (match j, hj with | 0, _ => rfl | m + 1, h => absurd h (by omega))
theorem W11_c (g r : am_F) (k : Nat) (hk : k < 109) : (W11g g r)[k]? = some (hfC 1 21 41 46 1 aN aN e0F g g z0F z0F z0F z0F r (am_put r 0 0 1) z0F z0F z0F bd0 ga0 z0F k) := by
  by_cases h : k = 0
  · subst h
    rfl
  by_cases h0 : k < 21
  · have e := W11_p0 g r (k - 1) (by omega)
    rw [show 1 + (k - 1) = k by omega] at e
    exact e
  by_cases h1 : k < 41
  · have e := W11_p1 g r (k - 21) (by omega)
    rw [show 21 + (k - 21) = k by omega] at e
    exact e
  by_cases h2 : k < 46
  · have e := W11_p2 g r (k - 41) (by omega)
    rw [show 41 + (k - 41) = k by omega] at e
    exact e
  by_cases h3 : k < 51
  · have e := W11_p3 g r (k - 46) (by omega)
    rw [show 46 + (k - 46) = k by omega] at e
    exact e
  by_cases h4 : k < 52
  · have e := W11_p4 g r (k - 51) (by omega)
    rw [show 51 + (k - 51) = k by omega] at e
    exact e
  by_cases h5 : k < 53
  · have e := W11_p5 g r (k - 52) (by omega)
    rw [show 52 + (k - 52) = k by omega] at e
    exact e
  by_cases h6 : k < 54
  · have e := W11_p6 g r (k - 53) (by omega)
    rw [show 53 + (k - 53) = k by omega] at e
    exact e
  by_cases h7 : k < 64
  · have e := W11_p7 g r (k - 54) (by omega)
    rw [show 54 + (k - 54) = k by omega] at e
    exact e
  by_cases h8 : k < 74
  · have e := W11_p8 g r (k - 64) (by omega)
    rw [show 64 + (k - 64) = k by omega] at e
    exact e
  by_cases h9 : k < 77
  · have e := W11_p9 g r (k - 74) (by omega)
    rw [show 74 + (k - 74) = k by omega] at e
    exact e
  by_cases h10 : k < 83
  · have e := W11_p10 g r (k - 77) (by omega)
    rw [show 77 + (k - 77) = k by omega] at e
    exact e
  by_cases h11 : k < 84
  · have e := W11_p11 g r (k - 83) (by omega)
    rw [show 83 + (k - 83) = k by omega] at e
    exact e
  by_cases h12 : k < 86
  · have e := W11_p12 g r (k - 84) (by omega)
    rw [show 84 + (k - 84) = k by omega] at e
    exact e
  by_cases h13 : k < 88
  · have e := W11_p13 g r (k - 86) (by omega)
    rw [show 86 + (k - 86) = k by omega] at e
    exact e
  by_cases h14 : k < 89
  · have e := W11_p14 g r (k - 88) (by omega)
    rw [show 88 + (k - 88) = k by omega] at e
    exact e
  by_cases h15 : k < 95
  · have e := W11_p15 g r (k - 89) (by omega)
    rw [show 89 + (k - 89) = k by omega] at e
    exact e
  by_cases h16 : k < 101
  · have e := W11_p16 g r (k - 95) (by omega)
    rw [show 95 + (k - 95) = k by omega] at e
    exact e
  by_cases h17 : k < 107
  · have e := W11_p17 g r (k - 101) (by omega)
    rw [show 101 + (k - 101) = k by omega] at e
    exact e
  by_cases h18 : k < 108
  · have e := W11_p18 g r (k - 107) (by omega)
    rw [show 107 + (k - 107) = k by omega] at e
    exact e
  by_cases h19 : k < 109
  · have e := W11_p19 g r (k - 108) (by omega)
    rw [show 108 + (k - 108) = k by omega] at e
    exact e
  omega
theorem W11_hf (g r : am_F) : hfW (W11g g r) 1 21 41 46 1 aN aN e0F g g z0F z0F z0F z0F r (am_put r 0 0 1) z0F z0F z0F bd0 ga0 z0F = W11g g r := am_ovself (fun k hk => by rw [Nat.zero_add]; exact W11_c g r k hk)
