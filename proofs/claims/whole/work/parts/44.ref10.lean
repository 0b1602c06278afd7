def pairR (f : Nat → Int32) (n : Nat) (c : Int32) (M M3 : Mem) (z : Nat) : Prop := toH (M3 1) = toH (M 1) ∧ toH (M3 3) = toH (M 1) ∧ M3 0 11 = (pairZ f n c z).1 ∧ M3 0 12 = (pairZ f n c z).2 ∧ (∀ x, x ≠ 11 → x ≠ 12 → M3 0 x = M 0 x) ∧ ∀ x, x ≠ 0 → x ≠ 1 → x ≠ 3 → x ≠ 7 → x ≠ 9 → M3 x = M x
theorem pairZ_in {f : Nat → Int32} {n : Nat} {c : Int32} {i : Nat} (hi : i < 8) : pairZ f n c (8 * i + (i + 1)) = pairZ f n c (8 * i) := pairZ_skip _ (by omega) (fun z h1 h2 => decide_eq_false (by omega))
theorem pairZ_out {f : Nat → Int32} {n : Nat} {c : Int32} {i : Nat} (hn : n ≤ 8) : pairZ f n c (8 * (i + 1)) = pairZ f n c (8 * i + n) := pairZ_skip _ (by omega) (fun z h1 h2 => decide_eq_false (by omega))
theorem pairZ_end {f : Nat → Int32} {n : Nat} {c : Int32} (hn : n ≤ 8) : pairZ f n c 64 = pairZ f n c (8 * n) := pairZ_skip _ (by omega) (fun z h1 h2 => decide_eq_false (by omega))
theorem pairZ_le {f : Nat → Int32} {n : Nat} {c : Int32} {i j : Nat} (hi : i < j) (hj : j < n) (hn : n ≤ 8) (h : f (8 * i + j) ≤ (pairZ f n c (8 * i + j)).2) : pairZ f n c (8 * i + (j + 1)) = pairZ f n c (8 * i + j) := by
  have e : pairZ f n c (8 * i + (j + 1)) = if okP n (8 * i + j) = true then (if (pairZ f n c (8 * i + j)).2 < f (8 * i + j) then (pairV (8 * i + j), f (8 * i + j)) else pairZ f n c (8 * i + j)) else pairZ f n c (8 * i + j) := rfl
  rw [e, if_pos (show okP n (8 * i + j) = true from decide_eq_true (by omega)), if_neg (Int32.not_lt.mpr h)]
theorem pairZ_gt {f : Nat → Int32} {n : Nat} {c : Int32} {i j : Nat} (hi : i < j) (hj : j < n) (hn : n ≤ 8) (h : ¬ f (8 * i + j) ≤ (pairZ f n c (8 * i + j)).2) : pairZ f n c (8 * i + (j + 1)) = (pairV (8 * i + j), f (8 * i + j)) := by
  have e : pairZ f n c (8 * i + (j + 1)) = if okP n (8 * i + j) = true then (if (pairZ f n c (8 * i + j)).2 < f (8 * i + j) then (pairV (8 * i + j), f (8 * i + j)) else pairZ f n c (8 * i + j)) else pairZ f n c (8 * i + j) := rfl
  rw [e, if_pos (show okP n (8 * i + j) = true from decide_eq_true (by omega)), if_pos (Int32.not_le.mp h)]
theorem pairV_ij {i j : Nat} (hj : j < 8) : pairV (8 * i + j) = nI (10 * i + j) := by
  unfold pairV
  rw [show (8 * i + j) / 8 = i by omega, show (8 * i + j) % 8 = j by omega]