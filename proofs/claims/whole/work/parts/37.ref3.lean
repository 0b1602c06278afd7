set_option maxRecDepth 20000 in
theorem c_X5_hoursGo {M : Mem} {n k : Nat} (hn : M 1 2 = nI n) (hn8 : n ≤ 8) (hk : k < 2147483648) (hw : ∀ i, i < n → 0 < toH (M 1) 4 i) {Q : Option Value → Mem → Prop} (hQ : ∀ M2 : Mem, toH (M2 1) = hoursH n k (toH (M 1)) → (∀ c, c ≠ 1 → c ≠ 7 → M2 c = M c) → Q (some (.int (hoursSum n k (toH (M 1))))) M2) : CT mX5_hoursGo shR 4 [.ref 0, .int (nI k)] M Q := by
  refine CT.mk [some (.ref 0), some (.int (nI k)), none, none] (by decide) (Nat.le_of_ble_eq_true rfl) rfl rfl ?_
  refine G_iconst (K := mX5_hoursGo) (v := 0) dX5_hoursGo_0 (by decide) ?_
  refine G_istore_n (K := mX5_hoursGo) (i := 2) dX5_hoursGo_1 rfl (by decide) ?_
  refine G_iconst (K := mX5_hoursGo) (v := 0) dX5_hoursGo_2 (by decide) ?_
  refine G_istore_n (K := mX5_hoursGo) (i := 3) dX5_hoursGo_3 rfl (by decide) ?_
  have loop4 : ∀ i, i ≤ k → ∀ s, s = hoursSum n i (toH (M 1)) → ∀ M1 : Mem, toH (M1 1) = hoursH n i (toH (M 1)) → (∀ c, c ≠ 1 → c ≠ 7 → M1 c = M c) → G mX5_hoursGo shR 4 Q 4 [some (.ref 0), some (.int (nI k)), some (.int s), some (.int (nI i))] [] M1 := by
    refine upto k (fun i hi ih => ?_)
    intro s hs2 M1 hT hc
    have hn1 : M1 1 2 = nI n := by rw [← toH_n (M1 1), hT, hoursH_0]; exact hn
    refine G_iload_n (K := mX5_hoursGo) (i := 3) dX5_hoursGo_4 rfl rfl ?_
    refine G_iload_n (K := mX5_hoursGo) (i := 1) dX5_hoursGo_5 rfl rfl ?_
    refine G_icmp_ge (K := mX5_hoursGo) (tgt := 22) dX5_hoursGo_6 (by decide) (fun c6 => ?_) (fun c6 => ?_)
    · skip
      rw [le_nn (by omega) (by omega)] at c6
      have hin : i = k := by omega
      subst hin
      refine G_iload_n (K := mX5_hoursGo) (i := 2) dX5_hoursGo_22 rfl rfl ?_
      exact G_irm (K := mX5_hoursGo) dX5_hoursGo_23 rfl hs2 rfl (hQ _ hT hc)
    · skip
      rw [le_nn (by omega) (by omega)] at c6
      refine G_iload_n (K := mX5_hoursGo) (i := 2) dX5_hoursGo_9 rfl rfl ?_
      refine G_aload_n (K := mX5_hoursGo) (i := 0) dX5_hoursGo_10 rfl rfl ?_
      refine G_call0 (K := mX5_hoursGo) (Q' := fun v M2 => v = some (.int (stSum (toH (M1 1)) n)) ∧ toH (M2 1) = hourH (toH (M1 1)) n ∧ ∀ c, c ≠ 1 → c ≠ 7 → M2 c = M1 c) (c_X5_hour hn1 hn8 (fun r hr => by rw [hT, hoursH_wall]; exact hw r hr) (fun M2 h1 h2 => ⟨rfl, h1, h2⟩)) vX5_hour rfl lX5_156 ⟨_, _, _, rfl, rfl, rfl⟩ (by decide) (Nat.le_of_ble_eq_true rfl) dX5_hoursGo_11 rfl ?_
      rintro v M2 ⟨rfl, h21, h22⟩
      refine G_iadd (K := mX5_hoursGo) dX5_hoursGo_14 ?_
      refine G_istore_n (K := mX5_hoursGo) (i := 2) dX5_hoursGo_15 rfl (by decide) ?_
      refine G_iincN (K := mX5_hoursGo) dX5_hoursGo_16 (by decide) rfl ?_
      refine G_goto (K := mX5_hoursGo) (tgt := 4) dX5_hoursGo_19 (by decide) ?_
      exact ih (i + 1) (by omega) (by omega) _ (by rw [hs2, hT]; rfl) _ (by rw [h21, hT]; rfl) (fun c h1 h7 => (h22 c h1 h7).trans (hc c h1 h7))
  exact loop4 0 (by omega) _ rfl M rfl (fun _ _ _ => rfl)

theorem cpyM_s {M : Mem} {a b i : Nat} (hab : a ≠ b) : ups (cpyM M a b i) b i (cpyM M a b i a i) = cpyM M a b (i + 1) := by
  have e : cpyM M a b i a i = M a i := if_neg (fun z => hab z.1)
  rw [e]
  funext c k
  by_cases h : c = b ∧ k = i
  · obtain ⟨rfl, rfl⟩ := h
    rw [ups_same]
    exact (if_pos ⟨rfl, by omega⟩).symm
  · rw [ups_ne h]
    show (if c = b ∧ k < i then M a k else M c k) = (if c = b ∧ k < i + 1 then M a k else M c k)
    by_cases h2 : c = b ∧ k < i
    · rw [if_pos h2, if_pos (by omega)]
    · rw [if_neg h2, if_neg (by omega)]
theorem cpyM_0 {M : Mem} {a b : Nat} : cpyM M a b 0 = M := by funext c k; exact if_neg (by omega)
theorem cpyM_c {M : Mem} {a b n c : Nat} (h : c ≠ b) : cpyM M a b n c = M c := by funext k; exact if_neg (fun z => h z.1)
theorem toH_cpy {M : Mem} {a b : Nat} : toH (cpyM M a b 86 b) = toH (M a) := toH_congr (fun k hk => if_pos ⟨rfl, hk⟩)
set_option maxRecDepth 20000 in
theorem c_X5_copyRow {M : Mem} {a b : Nat} (ha : shR[a]? = some (.inr (.inl 86))) (hb : shR[b]? = some (.inr (.inl 86))) (hab : a ≠ b) {Q : Option Value → Mem → Prop} (hQ : Q none (cpyM M a b 86)) : CT mX5_copyRow shR 0 [.ref a, .ref b] M Q := by
  refine CT.mk [some (.ref a), some (.ref b), none] (by decide) (Nat.le_of_ble_eq_true rfl) rfl rfl ?_
  refine G_iconst (K := mX5_copyRow) (v := 0) dX5_copyRow_0 (by decide) ?_
  refine G_istore_n (K := mX5_copyRow) (i := 2) dX5_copyRow_1 rfl (by decide) ?_
  have loop2 : ∀ i, i ≤ 86 → G mX5_copyRow shR 0 Q 2 [some (.ref a), some (.ref b), some (.int (nI i))] [] (cpyM M a b i) := by
    refine upto 86 (fun i hi ih => ?_)
    refine G_iload_n (K := mX5_copyRow) (i := 2) dX5_copyRow_2 rfl rfl ?_
    refine G_bipush (K := mX5_copyRow) (v := 86) dX5_copyRow_3 (by decide) ?_
    refine G_icmp_ge (K := mX5_copyRow) (tgt := 20) dX5_copyRow_5 (by decide) (fun c5 => ?_) (fun c5 => ?_)
    · skip
      have hi86 : i = 86 := by
        have := (le_nn (n := 86) (i := i) (by omega) (by omega)).mp c5
        omega
      rw [hi86]
      exact G_vrm (K := mX5_copyRow) dX5_copyRow_20 rfl rfl hQ
    · skip
      have hi86 : i < 86 := by
        have h : ¬ 86 ≤ i := fun z => c5 ((le_nn (n := 86) (i := i) (by omega) (by omega)).mpr z)
        omega
      refine G_aload_n (K := mX5_copyRow) (i := 1) dX5_copyRow_8 rfl rfl ?_
      refine G_iload_n (K := mX5_copyRow) (i := 2) dX5_copyRow_9 rfl rfl ?_
      refine G_aload_n (K := mX5_copyRow) (i := 0) dX5_copyRow_10 rfl rfl ?_
      refine G_iload_n (K := mX5_copyRow) (i := 2) dX5_copyRow_11 rfl rfl ?_
      refine G_ld (K := mX5_copyRow) i dX5_copyRow_12 ha rfl (by omega) (by decide) ?_
      refine G_sto (K := mX5_copyRow) i dX5_copyRow_13 hb rfl (by omega) (by decide) ?_
      refine G_iincN (K := mX5_copyRow) dX5_copyRow_14 (by decide) rfl ?_
      refine G_goto (K := mX5_copyRow) (tgt := 2) dX5_copyRow_17 (by decide) ?_
      rw [cpyM_s hab]
      exact ih (i + 1) (by omega) (by omega)
  have h0 := loop2 0 (by omega)
  rw [cpyM_0] at h0
  exact h0

set_option maxRecDepth 20000 in
theorem c_X5_putBack {M : Mem} {v : Int32} {Q : Option Value → Mem → Prop} (hQ : Q (some (.int v)) (cpyM M 3 1 86)) : CT mX5_putBack shR 1 [.ref 0, .int v] M Q := by
  refine CT.mk [some (.ref 0), some (.int v)] (by decide) (Nat.le_of_ble_eq_true rfl) rfl rfl ?_
  refine G_aload_n (K := mX5_putBack) (i := 0) dX5_putBack_0 rfl rfl ?_
  refine G_getr (K := mX5_putBack) fX5_16 dX5_putBack_1 rfl rfl ?_
  refine G_aload_n (K := mX5_putBack) (i := 0) dX5_putBack_4 rfl rfl ?_
  refine G_getr (K := mX5_putBack) fX5_9 dX5_putBack_5 rfl rfl ?_
  refine G_sn (K := mX5_putBack) (c_X5_copyRow (a := 3) (b := 1) rfl rfl (by decide) ⟨rfl, rfl⟩) sX5_copyRow rfl lX5_93 dX5_putBack_8 (by decide) rfl (Nat.le_of_ble_eq_true rfl) ?_
  refine G_iload_n (K := mX5_putBack) (i := 1) dX5_putBack_11 rfl rfl ?_
  exact G_irm (K := mX5_putBack) dX5_putBack_12 rfl (by rfl) (by rfl) hQ

set_option maxRecDepth 20000 in
theorem c_X5_swap {M : Mem} {i j f : Nat} (hi : i < 8) (hj : j < 8) (hf : f < 9) {Q : Option Value → Mem → Prop} (hQ : ∀ M2 : Mem, toH (M2 1) = swM (toH (M 1)) (1 + f) i j → (∀ c, c ≠ 1 → M2 c = M c) → Q none M2) : CT mX5_swap shR 2 [.ref 0, .int (nI i), .int (nI j), .int (nI f)] M Q := by
  refine CT.mk [some (.ref 0), some (.int (nI i)), some (.int (nI j)), some (.int (nI f))] (by decide) (Nat.le_of_ble_eq_true rfl) rfl rfl ?_
  refine G_aload_n (K := mX5_swap) (i := 0) dX5_swap_0 rfl rfl ?_
  refine G_getr (K := mX5_swap) fX5_9 dX5_swap_1 rfl rfl ?_
  refine G_iload_n (K := mX5_swap) (i := 2) dX5_swap_4 rfl rfl ?_
  refine G_iload_n (K := mX5_swap) (i := 3) dX5_swap_5 rfl rfl ?_
  refine G_sv (K := mX5_swap) (c_X5_at (i := j) (f := f) (by omega) (by omega) ⟨rfl, rfl⟩) sX5_at rfl lX5_101 dX5_swap_6 (by decide) rfl (Nat.le_of_ble_eq_true rfl) ?_
  refine G_aload_n (K := mX5_swap) (i := 0) dX5_swap_9 rfl rfl ?_
  refine G_iload_n (K := mX5_swap) (i := 1) dX5_swap_10 rfl rfl ?_
  refine G_iload_n (K := mX5_swap) (i := 3) dX5_swap_11 rfl rfl ?_
  refine G_sv (K := mX5_swap) (c_X5_at (i := i) (f := f) (by omega) (by omega) ⟨rfl, rfl⟩) sX5_at rfl lX5_101 dX5_swap_12 (by decide) rfl (Nat.le_of_ble_eq_true rfl) ?_
  refine G_aload_n (K := mX5_swap) (i := 0) dX5_swap_15 rfl rfl ?_
  refine G_iload_n (K := mX5_swap) (i := 2) dX5_swap_16 rfl rfl ?_
  refine G_iload_n (K := mX5_swap) (i := 3) dX5_swap_17 rfl rfl ?_
  refine G_cv (K := mX5_swap) (c_X5_roomIs (i := j) (f := f) (by omega) (by omega) ⟨rfl, rfl⟩) vX5_roomIs rfl lX5_120 dX5_swap_18 ⟨_, _, _, rfl, rfl, rfl⟩ (by decide) rfl (Nat.le_of_ble_eq_true rfl) ?_
  refine G_cv (K := mX5_swap) (c_X5_become (k := 14 + 9 * i + f) (by omega) ⟨rfl, rfl⟩) vX5_become rfl lX5_134 dX5_swap_21 ⟨_, _, _, rfl, rfl, rfl⟩ (by decide) rfl (Nat.le_of_ble_eq_true rfl) ?_
  refine G_now (K := mX5_swap) f j dX5_swap_24 hf hj rfl (fun M2 hT2 h2 => ?_)
  refine G_vrm (K := mX5_swap) dX5_swap_25 rfl rfl (hQ M2 ?_ (fun c hc => (h2 c hc).trans (ups_cell hc)))
  rw [hT2, toH_ups hf hi, ← toH_f (M 1) hf hi]
  rfl

set_option maxRecDepth 20000 in
theorem c_X5_moved {M : Mem} {i j : Nat} (hi : i < 8) (hj : j < 8) {Q : Option Value → Mem → Prop} (hQ : ∀ M2 : Mem, toH (M2 1) = chgH (toH (M 1)) i j → (∀ c, c ≠ 1 → M2 c = M c) → Q (some (.int 1)) M2) : CT mX5_moved shR 3 [.ref 0, .int (nI i), .int (nI j)] M Q := by
  refine CT.mk [some (.ref 0), some (.int (nI i)), some (.int (nI j))] (by decide) (Nat.le_of_ble_eq_true rfl) rfl rfl ?_
  refine G_aload_n (K := mX5_moved) (i := 0) dX5_moved_0 rfl rfl ?_
  refine G_iload_n (K := mX5_moved) (i := 1) dX5_moved_1 rfl rfl ?_
  refine G_iload_n (K := mX5_moved) (i := 2) dX5_moved_2 rfl rfl ?_
  refine G_iconst (K := mX5_moved) (v := 0) dX5_moved_3 (by decide) ?_
  refine G_call0 (K := mX5_moved) (as := [.int (nI i), .int (nI j), .int (nI 0)]) (r := 0) (Q' := fun v Mz => v = none ∧ toH (Mz 1) = swM (toH (M 1)) (1 + 0) i j ∧ ∀ c, c ≠ 1 → Mz c = M c) (c_X5_swap (M := M) (i := i) (j := j) (f := 0) hi hj (by omega) (fun Mz h1 h2 => ⟨rfl, h1, h2⟩)) vX5_swap rfl lX5_144 ⟨_, _, _, rfl, rfl, rfl⟩ (by decide) (Nat.le_of_ble_eq_true rfl) dX5_moved_4 rfl ?_
  rintro v M1 ⟨rfl, hM11, hM12⟩
  refine G_aload_n (K := mX5_moved) (i := 0) dX5_moved_7 rfl rfl ?_
  refine G_iload_n (K := mX5_moved) (i := 1) dX5_moved_8 rfl rfl ?_
  refine G_iload_n (K := mX5_moved) (i := 2) dX5_moved_9 rfl rfl ?_
  refine G_iconst (K := mX5_moved) (v := 5) dX5_moved_10 (by decide) ?_
  refine G_call0 (K := mX5_moved) (as := [.int (nI i), .int (nI j), .int (nI 5)]) (r := 0) (Q' := fun v Mz => v = none ∧ toH (Mz 1) = swM (toH (M1 1)) (1 + 5) i j ∧ ∀ c, c ≠ 1 → Mz c = M1 c) (c_X5_swap (M := M1) (i := i) (j := j) (f := 5) hi hj (by omega) (fun Mz h1 h2 => ⟨rfl, h1, h2⟩)) vX5_swap rfl lX5_144 ⟨_, _, _, rfl, rfl, rfl⟩ (by decide) (Nat.le_of_ble_eq_true rfl) dX5_moved_11 rfl ?_
  rintro v M2 ⟨rfl, hM21, hM22⟩
  refine G_aload_n (K := mX5_moved) (i := 0) dX5_moved_14 rfl rfl ?_
  refine G_iload_n (K := mX5_moved) (i := 1) dX5_moved_15 rfl rfl ?_
  refine G_iload_n (K := mX5_moved) (i := 2) dX5_moved_16 rfl rfl ?_
  refine G_bipush (K := mX5_moved) (v := 8) dX5_moved_17 (by decide) ?_
  refine G_call0 (K := mX5_moved) (as := [.int (nI i), .int (nI j), .int (nI 8)]) (r := 0) (Q' := fun v Mz => v = none ∧ toH (Mz 1) = swM (toH (M2 1)) (1 + 8) i j ∧ ∀ c, c ≠ 1 → Mz c = M2 c) (c_X5_swap (M := M2) (i := i) (j := j) (f := 8) hi hj (by omega) (fun Mz h1 h2 => ⟨rfl, h1, h2⟩)) vX5_swap rfl lX5_144 ⟨_, _, _, rfl, rfl, rfl⟩ (by decide) (Nat.le_of_ble_eq_true rfl) dX5_moved_19 rfl ?_
  rintro v M3 ⟨rfl, hM31, hM32⟩
  refine G_iconst (K := mX5_moved) (v := 1) dX5_moved_22 (by decide) ?_
  exact G_irm (K := mX5_moved) dX5_moved_23 rfl rfl rfl (hQ M3 (by rw [hM31, hM21, hM11]; rfl) (fun c hc => by rw [hM32 c hc, hM22 c hc, hM12 c hc]))

set_option maxRecDepth 20000 in
theorem c_X5_comes {M : Mem} {k : Int32} {n : Nat} (hn : M 1 2 = nI n) (hn8 : n < 8) {Q : Option Value → Mem → Prop} (hQ : ∀ M2 : Mem, toH (M2 1) = addH (toH (M 1)) k n → (∀ c, c ≠ 1 → M2 c = M c) → Q (some (.int (nI n))) M2) : CT mX5_comes shR 2 [.ref 0, .int k] M Q := by
  refine CT.mk [some (.ref 0), some (.int k), none] (by decide) (Nat.le_of_ble_eq_true rfl) rfl rfl ?_
  refine G_aload_n (K := mX5_comes) (i := 0) dX5_comes_0 rfl rfl ?_
  refine G_getr (K := mX5_comes) fX5_9 dX5_comes_1 rfl rfl ?_
  refine G_iconst (K := mX5_comes) (v := 2) dX5_comes_4 (by decide) ?_
  refine G_ld (K := mX5_comes) 2 dX5_comes_5 rfl rfl (by omega) (by decide) ?_
  rw [hn]
  refine G_istore_n (K := mX5_comes) (i := 2) dX5_comes_6 rfl (by decide) ?_
  refine G_aload_n (K := mX5_comes) (i := 0) dX5_comes_7 rfl rfl ?_
  refine G_getr (K := mX5_comes) fX5_9 dX5_comes_8 rfl rfl ?_
  refine G_iload_n (K := mX5_comes) (i := 2) dX5_comes_11 rfl rfl ?_
  refine G_iconst (K := mX5_comes) (v := 0) dX5_comes_12 (by decide) ?_
  refine G_sv (K := mX5_comes) (c_X5_at (i := n) (f := 0) (by omega) (by omega) ⟨rfl, rfl⟩) sX5_at rfl lX5_101 dX5_comes_13 (by decide) rfl (Nat.le_of_ble_eq_true rfl) ?_
  refine G_iload_n (K := mX5_comes) (i := 1) dX5_comes_16 rfl rfl ?_
  refine G_now (K := mX5_comes) 0 n dX5_comes_17 (by omega) (by omega) rfl (fun NA hTA hA => ?_)
  refine G_aload_n (K := mX5_comes) (i := 0) dX5_comes_18 rfl rfl ?_
  refine G_getr (K := mX5_comes) fX5_9 dX5_comes_19 rfl rfl ?_
  refine G_iload_n (K := mX5_comes) (i := 2) dX5_comes_22 rfl rfl ?_
  refine G_iconst (K := mX5_comes) (v := 1) dX5_comes_23 (by decide) ?_
  refine G_sv (K := mX5_comes) (c_X5_at (i := n) (f := 1) (by omega) (by omega) ⟨rfl, rfl⟩) sX5_at rfl lX5_101 dX5_comes_24 (by decide) rfl (Nat.le_of_ble_eq_true rfl) ?_
  refine G_bipush (K := mX5_comes) (v := 100) dX5_comes_27 (by decide) ?_
  refine G_now (K := mX5_comes) 1 n dX5_comes_29 (by omega) (by omega) rfl (fun NB hTB hB => ?_)
  refine G_aload_n (K := mX5_comes) (i := 0) dX5_comes_30 rfl rfl ?_
  refine G_getr (K := mX5_comes) fX5_9 dX5_comes_31 rfl rfl ?_
  refine G_iload_n (K := mX5_comes) (i := 2) dX5_comes_34 rfl rfl ?_
  refine G_iconst (K := mX5_comes) (v := 2) dX5_comes_35 (by decide) ?_
  refine G_sv (K := mX5_comes) (c_X5_at (i := n) (f := 2) (by omega) (by omega) ⟨rfl, rfl⟩) sX5_at rfl lX5_101 dX5_comes_36 (by decide) rfl (Nat.le_of_ble_eq_true rfl) ?_
  refine G_bipush (K := mX5_comes) (v := 50) dX5_comes_39 (by decide) ?_
  refine G_now (K := mX5_comes) 2 n dX5_comes_41 (by omega) (by omega) rfl (fun NC hTC hC => ?_)
  refine G_aload_n (K := mX5_comes) (i := 0) dX5_comes_42 rfl rfl ?_
  refine G_getr (K := mX5_comes) fX5_9 dX5_comes_43 rfl rfl ?_
  refine G_iload_n (K := mX5_comes) (i := 2) dX5_comes_46 rfl rfl ?_
  refine G_iconst (K := mX5_comes) (v := 3) dX5_comes_47 (by decide) ?_
  refine G_sv (K := mX5_comes) (c_X5_at (i := n) (f := 3) (by omega) (by omega) ⟨rfl, rfl⟩) sX5_at rfl lX5_101 dX5_comes_48 (by decide) rfl (Nat.le_of_ble_eq_true rfl) ?_
  refine G_bipush (K := mX5_comes) (v := 10) dX5_comes_51 (by decide) ?_
  refine G_now (K := mX5_comes) 3 n dX5_comes_53 (by omega) (by omega) rfl (fun ND hTD hD => ?_)
  refine G_aload_n (K := mX5_comes) (i := 0) dX5_comes_54 rfl rfl ?_
  refine G_getr (K := mX5_comes) fX5_9 dX5_comes_55 rfl rfl ?_
  refine G_iload_n (K := mX5_comes) (i := 2) dX5_comes_58 rfl rfl ?_
  refine G_iconst (K := mX5_comes) (v := 4) dX5_comes_59 (by decide) ?_
  refine G_sv (K := mX5_comes) (c_X5_at (i := n) (f := 4) (by omega) (by omega) ⟨rfl, rfl⟩) sX5_at rfl lX5_101 dX5_comes_60 (by decide) rfl (Nat.le_of_ble_eq_true rfl) ?_
  refine G_iload_n (K := mX5_comes) (i := 2) dX5_comes_63 rfl rfl ?_
  refine G_iconst (K := mX5_comes) (v := 1) dX5_comes_64 (by decide) ?_
  refine G_iadd (K := mX5_comes) dX5_comes_65 ?_
  refine G_bipush (K := mX5_comes) (v := 8) dX5_comes_66 (by decide) ?_
  refine G_irem (K := mX5_comes) dX5_comes_68 (by decide) ?_
  refine G_now (K := mX5_comes) 4 n dX5_comes_69 (by omega) (by omega) rfl (fun NE hTE hE => ?_)
  refine G_aload_n (K := mX5_comes) (i := 0) dX5_comes_70 rfl rfl ?_
  refine G_getr (K := mX5_comes) fX5_9 dX5_comes_71 rfl rfl ?_
  refine G_iload_n (K := mX5_comes) (i := 2) dX5_comes_74 rfl rfl ?_
  refine G_iconst (K := mX5_comes) (v := 5) dX5_comes_75 (by decide) ?_
  refine G_sv (K := mX5_comes) (c_X5_at (i := n) (f := 5) (by omega) (by omega) ⟨rfl, rfl⟩) sX5_at rfl lX5_101 dX5_comes_76 (by decide) rfl (Nat.le_of_ble_eq_true rfl) ?_
  refine G_iconst (K := mX5_comes) (v := 0) dX5_comes_79 (by decide) ?_
  refine G_now (K := mX5_comes) 5 n dX5_comes_80 (by omega) (by omega) rfl (fun NF hTF hF => ?_)
  refine G_aload_n (K := mX5_comes) (i := 0) dX5_comes_81 rfl rfl ?_
  refine G_getr (K := mX5_comes) fX5_9 dX5_comes_82 rfl rfl ?_
  refine G_iload_n (K := mX5_comes) (i := 2) dX5_comes_85 rfl rfl ?_
  refine G_bipush (K := mX5_comes) (v := 6) dX5_comes_86 (by decide) ?_
  refine G_sv (K := mX5_comes) (c_X5_at (i := n) (f := 6) (by omega) (by omega) ⟨rfl, rfl⟩) sX5_at rfl lX5_101 dX5_comes_88 (by decide) rfl (Nat.le_of_ble_eq_true rfl) ?_
  refine G_iconst (K := mX5_comes) (v := 0) dX5_comes_91 (by decide) ?_
  refine G_now (K := mX5_comes) 6 n dX5_comes_92 (by omega) (by omega) rfl (fun NH hTH hH => ?_)
  refine G_aload_n (K := mX5_comes) (i := 0) dX5_comes_93 rfl rfl ?_
  refine G_getr (K := mX5_comes) fX5_9 dX5_comes_94 rfl rfl ?_
  refine G_iload_n (K := mX5_comes) (i := 2) dX5_comes_97 rfl rfl ?_
  refine G_bipush (K := mX5_comes) (v := 7) dX5_comes_98 (by decide) ?_
  refine G_sv (K := mX5_comes) (c_X5_at (i := n) (f := 7) (by omega) (by omega) ⟨rfl, rfl⟩) sX5_at rfl lX5_101 dX5_comes_100 (by decide) rfl (Nat.le_of_ble_eq_true rfl) ?_
  refine G_iconst (K := mX5_comes) (v := 1) dX5_comes_103 (by decide) ?_
  refine G_now (K := mX5_comes) 7 n dX5_comes_104 (by omega) (by omega) rfl (fun NI hTI hI => ?_)
  refine G_aload_n (K := mX5_comes) (i := 0) dX5_comes_105 rfl rfl ?_
  refine G_getr (K := mX5_comes) fX5_9 dX5_comes_106 rfl rfl ?_
  refine G_iload_n (K := mX5_comes) (i := 2) dX5_comes_109 rfl rfl ?_
  refine G_bipush (K := mX5_comes) (v := 8) dX5_comes_110 (by decide) ?_
  refine G_sv (K := mX5_comes) (c_X5_at (i := n) (f := 8) (by omega) (by omega) ⟨rfl, rfl⟩) sX5_at rfl lX5_101 dX5_comes_112 (by decide) rfl (Nat.le_of_ble_eq_true rfl) ?_
  refine G_iconst (K := mX5_comes) (v := 1) dX5_comes_115 (by decide) ?_
  refine G_now (K := mX5_comes) 8 n dX5_comes_116 (by omega) (by omega) rfl (fun NJ hTJ hJ => ?_)
  refine G_aload_n (K := mX5_comes) (i := 0) dX5_comes_117 rfl rfl ?_
  refine G_getr (K := mX5_comes) fX5_9 dX5_comes_118 rfl rfl ?_
  refine G_iconst (K := mX5_comes) (v := 2) dX5_comes_121 (by decide) ?_
  refine G_dup2 (K := mX5_comes) dX5_comes_122 rfl rfl ?_
  refine G_ld (K := mX5_comes) 2 dX5_comes_123 rfl rfl (by omega) (by decide) ?_
  refine G_iconst (K := mX5_comes) (v := 1) dX5_comes_124 (by decide) ?_
  refine G_iadd (K := mX5_comes) dX5_comes_125 ?_
  refine G_nowS (K := mX5_comes) 2 0 (by omega) dX5_comes_126 rfl (fun NK hTK hK => ?_)
  refine G_iload_n (K := mX5_comes) (i := 2) dX5_comes_127 rfl rfl ?_
  refine G_irm (K := mX5_comes) dX5_comes_128 rfl rfl rfl (hQ NK ?_ (fun c hc => by rw [hK c hc, hJ c hc, hI c hc, hH c hc, hF c hc, hE c hc, hD c hc, hC c hc, hB c hc, hA c hc]))
  rw [hTK, ← toH_n (NJ 1), hTJ, hTI, hTH, hTF, hTE, hTD, hTC, hTB, hTA, ← addH_eq]
  rfl

/-- j is the first of the least of w from lo on below hi -/
def firstMin (w : Nat → Int32) (lo hi j : Nat) : Prop := lo ≤ j ∧ j < hi ∧ (∀ i, lo ≤ i → i < hi → (w j).toInt ≤ (w i).toInt) ∧ ∀ i, lo ≤ i → i < j → (w j).toInt < (w i).toInt
theorem firstMin_u {w : Nat → Int32} {lo hi j k : Nat} (h1 : firstMin w lo hi j) (h2 : firstMin w lo hi k) : j = k := by
  obtain ⟨a1, a2, a3, a4⟩ := h1
  obtain ⟨b1, b2, b3, b4⟩ := h2
  rcases Nat.lt_trichotomy j k with h | h | h
  · have := b4 j a1 h
    have := a3 k b1 b2
    omega
  · exact h
  · have := a4 k b1 h
    have := b3 j a1 a2
    omega
theorem coldN_fm (w : Nat → Int32) (n : Nat) (hn : n < 2147483648) (h0 : 0 < n) : ∃ j, coldN w n = nI j ∧ firstMin w 0 n j := by
  induction n with
  | zero => omega
  | succ n ih =>
    have e : coldN w (n + 1) = (if coldN w n < 0 then nI n else if w (coldN w n).toNatClampNeg ≤ w n then coldN w n else nI n) := rfl
    by_cases hn0 : n = 0
    · subst hn0
      exact ⟨0, rfl, by omega, by omega, fun i h1 h2 => by rw [show i = 0 by omega]; exact Int.le_refl _, fun i h1 h2 => by omega⟩
    · obtain ⟨j, ej, f1, f2, f3, f4⟩ := ih (by omega) (by omega)
      rw [e, ej, if_neg (nI_pos (by omega)), nI_clamp (by omega)]
      by_cases h : w j ≤ w n
      · rw [if_pos h]
        rw [i32_le] at h
        refine ⟨j, rfl, by omega, by omega, fun i h1 h2 => ?_, f4⟩
        by_cases hi : i = n
        · rw [hi]; exact h
        · exact f3 i h1 (by omega)
      · rw [if_neg h]
        rw [i32_le] at h
        refine ⟨n, rfl, by omega, by omega, fun i h1 h2 => ?_, fun i h1 h2 => ?_⟩
        · by_cases hi : i = n
          · rw [hi]; exact Int.le_refl _
          · have := f3 i h1 (by omega); omega
        · have := f3 i h1 h2; omega
set_option maxRecDepth 20000 in
theorem c_X5_coldest {M : Mem} {n : Nat} (hn : M 1 2 = nI n) (hn8 : n ≤ 8) {Q : Option Value → Mem → Prop} (hQ : Q (some (.int (coldN (toH (M 1) 2) n))) M) : CT mX5_coldest shR 2 [.ref 0] M Q := by
  refine CT.mk [some (.ref 0), none, none] (by decide) (Nat.le_of_ble_eq_true rfl) rfl rfl ?_
  refine G_iconst (K := mX5_coldest) (v := -1) dX5_coldest_0 (by decide) ?_
  refine G_istore_n (K := mX5_coldest) (i := 1) dX5_coldest_1 rfl (by decide) ?_
  refine G_aload_n (K := mX5_coldest) (i := 0) dX5_coldest_2 rfl rfl ?_
  refine G_getr (K := mX5_coldest) fX5_9 dX5_coldest_3 rfl rfl ?_
  refine G_iconst (K := mX5_coldest) (v := 2) dX5_coldest_6 (by decide) ?_
  refine G_ld (K := mX5_coldest) 2 dX5_coldest_7 rfl rfl (by omega) (by decide) ?_
  refine G_iconst (K := mX5_coldest) (v := 1) dX5_coldest_8 (by decide) ?_
  refine G_isub (K := mX5_coldest) dX5_coldest_9 ?_
  rw [hn]
  refine G_istore_n (K := mX5_coldest) (i := 2) dX5_coldest_10 rfl (by decide) ?_
  have loop11 : ∀ i, i ≤ n → ∀ m, m = n - i → ∀ s, ((m = n ∧ s = -1) ∨ ∃ q, s = nI q ∧ firstMin (toH (M 1) 2) m n q) → G mX5_coldest shR 2 Q 11 [some (.ref 0), some (.int s), some (.int (nI m - 1))] [] M := by
    refine upto n (fun i hi ih => ?_)
    intro m hm s hs2
    refine G_iload_n (K := mX5_coldest) (i := 2) dX5_coldest_11 rfl rfl ?_
    refine G_if_lt (K := mX5_coldest) (tgt := 46) dX5_coldest_12 (by decide) (fun c12 => ?_) (fun c12 => ?_)
    · skip
      have hm0 : m = 0 := by
        refine Nat.eq_zero_of_not_pos (fun h => ?_)
        rw [show m = m - 1 + 1 by omega, nI_pred] at c12
        exact nI_pos (by omega) c12
      refine G_iload_n (K := mX5_coldest) (i := 1) dX5_coldest_46 rfl rfl ?_
      refine G_irm (K := mX5_coldest) dX5_coldest_47 rfl ?_ rfl hQ
      rcases hs2 with ⟨h, rfl⟩ | ⟨q, rfl, hq⟩
      · rw [show n = 0 by omega]; rfl
      · obtain ⟨j, ej, hj⟩ := coldN_fm (toH (M 1) 2) n (by omega) (by have := hq.2.1; omega)
        have hq0 : firstMin (toH (M 1) 2) 0 n q := by rw [hm0] at hq; exact hq
        rw [ej, firstMin_u hq0 hj]
    · skip
      have hm0 : 0 < m := by
        refine Nat.pos_of_ne_zero (fun h => c12 ?_)
        rw [h]; decide
      have em : nI m - 1 = nI (m - 1) := by rw [show nI m = nI (m - 1 + 1) from congrArg nI (by omega), nI_pred]
      rw [em]
      refine G_iload_n (K := mX5_coldest) (i := 1) dX5_coldest_15 rfl rfl ?_
      refine G_if_lt (K := mX5_coldest) (tgt := 34) dX5_coldest_16 (by decide) (fun c16 => ?_) (fun c16 => ?_)
      · skip
        have hmn : m = n := by
          rcases hs2 with ⟨h, -⟩ | ⟨q, rfl, hq⟩
          · exact h
          · exact absurd c16 (nI_pos (by have := hq.2.1; omega))
        have hF : firstMin (toH (M 1) 2) (m - 1) n (m - 1) := ⟨by omega, by omega, fun i h1 h2 => by rw [show i = m - 1 by omega]; exact Int.le_refl _, fun i h1 h2 => by omega⟩
        refine G_iload_n (K := mX5_coldest) (i := 2) dX5_coldest_34 rfl rfl ?_
        refine G_goto (K := mX5_coldest) (tgt := 39) dX5_coldest_35 (by decide) ?_
        refine G_istore_n (K := mX5_coldest) (i := 1) dX5_coldest_39 rfl (by decide) ?_
        refine G_iinc (K := mX5_coldest) (v := nI (m - 1) - 1) dX5_coldest_40 (by decide) rfl (by show nI (m - 1) + (-1) = nI (m - 1) - 1; grind) ?_
        refine G_goto (K := mX5_coldest) (tgt := 11) dX5_coldest_43 (by decide) ?_
        exact ih (i + 1) (by omega) (by omega) (m - 1) (by omega) _ (Or.inr ⟨_, rfl, hF⟩)
      · skip
        obtain ⟨q, rfl, hq⟩ : ∃ q, s = nI q ∧ firstMin (toH (M 1) 2) m n q := by
          rcases hs2 with ⟨-, rfl⟩ | h
          · exact absurd (by decide) c16
          · exact h
        have hq8 : q < n := hq.2.1
        refine G_aload_n (K := mX5_coldest) (i := 0) dX5_coldest_19 rfl rfl ?_
        refine G_iload_n (K := mX5_coldest) (i := 2) dX5_coldest_20 rfl rfl ?_
        refine G_iconst (K := mX5_coldest) (v := 1) dX5_coldest_21 (by decide) ?_
        refine G_cv (K := mX5_coldest) (c_X5_roomIs (i := (m - 1)) (f := 1) (by omega) (by omega) ⟨rfl, rfl⟩) vX5_roomIs rfl lX5_120 dX5_coldest_22 ⟨_, _, _, rfl, rfl, rfl⟩ (by decide) rfl (Nat.le_of_ble_eq_true rfl) ?_
        refine G_aload_n (K := mX5_coldest) (i := 0) dX5_coldest_25 rfl rfl ?_
        refine G_iload_n (K := mX5_coldest) (i := 1) dX5_coldest_26 rfl rfl ?_
        refine G_iconst (K := mX5_coldest) (v := 1) dX5_coldest_27 (by decide) ?_
        refine G_cv (K := mX5_coldest) (c_X5_roomIs (i := q) (f := 1) (by omega) (by omega) ⟨rfl, rfl⟩) vX5_roomIs rfl lX5_120 dX5_coldest_28 ⟨_, _, _, rfl, rfl, rfl⟩ (by decide) rfl (Nat.le_of_ble_eq_true rfl) ?_
        refine G_icmp_gt (K := mX5_coldest) (tgt := 38) dX5_coldest_31 (by decide) (fun c31 => ?_) (fun c31 => ?_)
        · skip
          have hF : firstMin (toH (M 1) 2) (m - 1) n q := by
            rw [i32_lt] at c31
            obtain ⟨f1, f2, f3, f4⟩ := hq
            refine ⟨by omega, f2, fun i h1 h2 => ?_, fun i h1 h2 => ?_⟩
            · by_cases h : i = m - 1
              · rw [h]; exact Int.le_of_lt c31
              · exact f3 i (by omega) h2
            · by_cases h : i = m - 1
              · rw [h]; exact c31
              · exact f4 i (by omega) h2
          refine G_iload_n (K := mX5_coldest) (i := 1) dX5_coldest_38 rfl rfl ?_
          refine G_istore_n (K := mX5_coldest) (i := 1) dX5_coldest_39 rfl (by decide) ?_
          refine G_iinc (K := mX5_coldest) (v := nI (m - 1) - 1) dX5_coldest_40 (by decide) rfl (by show nI (m - 1) + (-1) = nI (m - 1) - 1; grind) ?_
          refine G_goto (K := mX5_coldest) (tgt := 11) dX5_coldest_43 (by decide) ?_
          exact ih (i + 1) (by omega) (by omega) (m - 1) (by omega) _ (Or.inr ⟨_, rfl, hF⟩)
        · skip
          have hF : firstMin (toH (M 1) 2) (m - 1) n (m - 1) := by
            rw [i32_lt] at c31
            obtain ⟨f1, f2, f3, f4⟩ := hq
            refine ⟨by omega, by omega, fun i h1 h2 => ?_, fun i h1 h2 => by omega⟩
            by_cases h : i = m - 1
            · rw [h]; exact Int.le_refl _
            · have a := f3 i (by omega) h2
              have b : ¬ (toH (M 1) 2 q).toInt < (toH (M 1) 2 (m - 1)).toInt := c31
              omega
          refine G_iload_n (K := mX5_coldest) (i := 2) dX5_coldest_34 rfl rfl ?_
          refine G_goto (K := mX5_coldest) (tgt := 39) dX5_coldest_35 (by decide) ?_
          refine G_istore_n (K := mX5_coldest) (i := 1) dX5_coldest_39 rfl (by decide) ?_
          refine G_iinc (K := mX5_coldest) (v := nI (m - 1) - 1) dX5_coldest_40 (by decide) rfl (by show nI (m - 1) + (-1) = nI (m - 1) - 1; grind) ?_
          refine G_goto (K := mX5_coldest) (tgt := 11) dX5_coldest_43 (by decide) ?_
          exact ih (i + 1) (by omega) (by omega) (m - 1) (by omega) _ (Or.inr ⟨_, rfl, hF⟩)
  exact loop11 0 (by omega) n (by omega) _ (Or.inl ⟨rfl, rfl⟩)

set_option maxRecDepth 20000 in
theorem c_X5_leastWarmth {M : Mem} {n : Nat} (hn : M 1 2 = nI n) (hn8 : n ≤ 8) {Q : Option Value → Mem → Prop} (hQ : Q (some (.int (leastN (toH (M 1) 2) n))) M) : CT mX5_leastWarmth shR 3 [.ref 0] M Q := by
  refine CT.mk [some (.ref 0), none] (by decide) (Nat.le_of_ble_eq_true rfl) rfl rfl ?_
  refine G_aload_n (K := mX5_leastWarmth) (i := 0) dX5_leastWarmth_0 rfl rfl ?_
  refine G_cv (K := mX5_leastWarmth) (c_X5_coldest hn hn8 ⟨rfl, rfl⟩) vX5_coldest rfl lX5_167 dX5_leastWarmth_1 ⟨_, _, _, rfl, rfl, rfl⟩ (by decide) rfl (Nat.le_of_ble_eq_true rfl) ?_
  refine G_istore_n (K := mX5_leastWarmth) (i := 1) dX5_leastWarmth_4 rfl (by decide) ?_
  refine G_iload_n (K := mX5_leastWarmth) (i := 1) dX5_leastWarmth_5 rfl rfl ?_
  refine G_if_ge (K := mX5_leastWarmth) (tgt := 15) dX5_leastWarmth_6 (by decide) (fun c6 => ?_) (fun c6 => ?_)
  · skip
    obtain ⟨j, hj, ej⟩ : ∃ j, j < n ∧ coldN (toH (M 1) 2) n = nI j := by
      rcases coldN_pos (toH (M 1) 2) n (by omega) with ⟨rfl, e⟩ | h
      · rw [e] at c6; exact absurd c6 (by decide)
      · exact h
    have e : leastN (toH (M 1) 2) n = toH (M 1) 2 j := by
      unfold leastN
      rw [if_neg (Int32.not_lt.mpr c6), ej, nI_clamp (by omega)]
    rw [ej]
    refine G_aload_n (K := mX5_leastWarmth) (i := 0) dX5_leastWarmth_15 rfl rfl ?_
    refine G_iload_n (K := mX5_leastWarmth) (i := 1) dX5_leastWarmth_16 rfl rfl ?_
    refine G_iconst (K := mX5_leastWarmth) (v := 1) dX5_leastWarmth_17 (by decide) ?_
    refine G_cv (K := mX5_leastWarmth) (c_X5_roomIs (i := j) (f := 1) (by omega) (by omega) ⟨rfl, rfl⟩) vX5_roomIs rfl lX5_120 dX5_leastWarmth_18 ⟨_, _, _, rfl, rfl, rfl⟩ (by decide) rfl (Nat.le_of_ble_eq_true rfl) ?_
    exact G_irm (K := mX5_leastWarmth) dX5_leastWarmth_21 rfl e.symm rfl hQ
  · skip
    have e : leastN (toH (M 1) 2) n = 300 := by
      unfold leastN
      rw [if_pos (Int32.not_le.mp c6)]
    refine G_sipush (K := mX5_leastWarmth) (v := 300) dX5_leastWarmth_9 (by decide) ?_
    refine G_goto (K := mX5_leastWarmth) (tgt := 21) dX5_leastWarmth_12 (by decide) ?_
    exact G_irm (K := mX5_leastWarmth) dX5_leastWarmth_21 rfl e.symm rfl hQ
