def mnT (f : Nat → Int32) : Nat → Int32
  | 0 => 300
  | k + 1 => minI (mnT f k) (f k)
set_option maxRecDepth 20000 in
theorem c_X5_leastThen {M : Mem} {n : Nat} (hn : M 1 2 = nI n) (hn8 : n ≤ 8) {Q : Option Value → Mem → Prop} (hQ : Q (some (.int (mnT (M 9) n))) M) : CT mX5_leastThen shR 3 [.ref 0] M Q := by
  refine CT.mk [some (.ref 0), none, none] (by decide) (Nat.le_of_ble_eq_true rfl) rfl rfl ?_
  refine G_sipush (K := mX5_leastThen) (v := 300) dX5_leastThen_0 (by decide) ?_
  refine G_istore_n (K := mX5_leastThen) (i := 1) dX5_leastThen_3 rfl (by decide) ?_
  refine G_iconst (K := mX5_leastThen) (v := 0) dX5_leastThen_4 (by decide) ?_
  refine G_istore_n (K := mX5_leastThen) (i := 2) dX5_leastThen_5 rfl (by decide) ?_
  have loop6 : ∀ i, i ≤ n → G mX5_leastThen shR 3 Q 6 [some (.ref 0), some (.int (mnT (M 9) i)), some (.int (nI i))] [] M := by
    refine upto n (fun i hi ih => ?_)
    refine G_iload_n (K := mX5_leastThen) (i := 2) dX5_leastThen_6 rfl rfl ?_
    refine G_aload_n (K := mX5_leastThen) (i := 0) dX5_leastThen_7 rfl rfl ?_
    refine G_getr (K := mX5_leastThen) fX5_9 dX5_leastThen_8 rfl rfl ?_
    refine G_iconst (K := mX5_leastThen) (v := 2) dX5_leastThen_11 (by decide) ?_
    refine G_ld (K := mX5_leastThen) 2 dX5_leastThen_12 rfl rfl (by omega) (by decide) ?_
    refine G_icmp_ge (K := mX5_leastThen) (tgt := 33) dX5_leastThen_13 (by decide) (fun c13 => ?_) (fun c13 => ?_)
    · skip
      rw [hn, le_nn (by omega) (by omega)] at c13
      have hin : i = n := by omega
      subst hin
      refine G_iload_n (K := mX5_leastThen) (i := 1) dX5_leastThen_33 rfl rfl ?_
      exact G_irm (K := mX5_leastThen) dX5_leastThen_34 rfl rfl rfl hQ
    · skip
      rw [hn, le_nn (by omega) (by omega)] at c13
      refine G_iload_n (K := mX5_leastThen) (i := 1) dX5_leastThen_16 rfl rfl ?_
      refine G_aload_n (K := mX5_leastThen) (i := 0) dX5_leastThen_17 rfl rfl ?_
      refine G_getr (K := mX5_leastThen) fX5_34 dX5_leastThen_18 rfl rfl ?_
      refine G_iload_n (K := mX5_leastThen) (i := 2) dX5_leastThen_21 rfl rfl ?_
      refine G_ld (K := mX5_leastThen) i dX5_leastThen_22 rfl rfl (by omega) (by decide) ?_
      refine G_min (K := mX5_leastThen) qX5_123 dX5_leastThen_23 (by decide) (Nat.le_of_ble_eq_true rfl) ?_
      refine G_istore_n (K := mX5_leastThen) (i := 1) dX5_leastThen_26 rfl (by decide) ?_
      refine G_iincN (K := mX5_leastThen) dX5_leastThen_27 (by decide) rfl ?_
      refine G_goto (K := mX5_leastThen) (tgt := 6) dX5_leastThen_30 (by decide) ?_
      exact ih (i + 1) (by omega) (by omega)
  exact loop6 0 (by omega)

set_option maxRecDepth 20000 in
theorem c_X5_liveAnyhow {M : Mem} {n k : Nat} (hn : M 1 2 = nI n) (hn8 : n ≤ 8) (hk : k ≤ 1000) (hJ : HJ (toH (M 1)) n) (ho : 0 ≤ (toH (M 1) 0 1).toInt) {Q : Option Value → Mem → Prop} (hQ : ∀ M2 : Mem, toH (M2 1) = toH (M 1) → toH (M2 3) = toH (M 1) → (∀ r, r < n → M2 9 r = hoursH n k (toH (M 1)) 2 r) → (∀ r, r < 8 → M2 10 r = M2 9 r) → (∀ c, c ≠ 1 → c ≠ 3 → c ≠ 7 → c ≠ 9 → c ≠ 10 → M2 c = M c) → Q none M2) : CT mX5_liveAnyhow shR 7 [.ref 0, .int (nI k)] M Q := by
  refine CT.mk [some (.ref 0), some (.int (nI k)), none] (by decide) (Nat.le_of_ble_eq_true rfl) rfl rfl ?_
  refine G_aload_n (K := mX5_liveAnyhow) (i := 0) dX5_liveAnyhow_0 rfl rfl ?_
  refine G_getr (K := mX5_liveAnyhow) fX5_9 dX5_liveAnyhow_1 rfl rfl ?_
  refine G_aload_n (K := mX5_liveAnyhow) (i := 0) dX5_liveAnyhow_4 rfl rfl ?_
  refine G_getr (K := mX5_liveAnyhow) fX5_16 dX5_liveAnyhow_5 rfl rfl ?_
  refine G_sn (K := mX5_liveAnyhow) (c_X5_copyRow (a := 1) (b := 3) rfl rfl (by decide) ⟨rfl, rfl⟩) sX5_copyRow rfl lX5_93 dX5_liveAnyhow_8 (by decide) rfl (Nat.le_of_ble_eq_true rfl) ?_
  refine G_aload_n (K := mX5_liveAnyhow) (i := 0) dX5_liveAnyhow_11 rfl rfl ?_
  refine G_iload_n (K := mX5_liveAnyhow) (i := 1) dX5_liveAnyhow_12 rfl rfl ?_
  refine G_call0 (K := mX5_liveAnyhow) (Q' := fun v Mz => v = none ∧ toH (Mz 1) = toH (cpyM M 1 3 86 3) ∧ (∀ r, r < n → Mz 9 r = hoursH n k (toH (cpyM M 1 3 86 1)) 2 r) ∧ ∀ c, c ≠ 1 → c ≠ 7 → c ≠ 9 → Mz c = cpyM M 1 3 86 c) (c_X5_live (n := n) (k := k) (by rw [cpyM_c (by decide)]; exact hn) hn8 hk (by rw [cpyM_c (by decide)]; exact hJ) (by rw [cpyM_c (by decide)]; exact ho) (fun Mz h1 h2 h3 => ⟨rfl, h1, h2, h3⟩)) vX5_live rfl lX5_194 ⟨_, _, _, rfl, rfl, rfl⟩ (by decide) (Nat.le_of_ble_eq_true rfl) dX5_liveAnyhow_13 rfl ?_
  rintro v M2 ⟨rfl, h21, h22, h23⟩
  rw [toH_cpy] at h21
  rw [cpyM_c (by decide)] at h22
  refine G_iconst (K := mX5_liveAnyhow) (v := 0) dX5_liveAnyhow_16 (by decide) ?_
  refine G_istore_n (K := mX5_liveAnyhow) (i := 2) dX5_liveAnyhow_17 rfl (by decide) ?_
  have loop18 : ∀ i, i ≤ 8 → ∀ M3 : Mem, (∀ c, c ≠ 10 → M3 c = M2 c) → (∀ r, r < i → M3 10 r = M3 9 r) → G mX5_liveAnyhow shR 7 Q 18 [some (.ref 0), some (.int (nI k)), some (.int (nI i))] [] M3 := by
    refine upto 8 (fun i hi ih => ?_)
    intro M3 h3 h9
    refine G_iload_n (K := mX5_liveAnyhow) (i := 2) dX5_liveAnyhow_18 rfl rfl ?_
    refine G_bipush (K := mX5_liveAnyhow) (v := 8) dX5_liveAnyhow_19 (by decide) ?_
    refine G_icmp_ge (K := mX5_liveAnyhow) (tgt := 42) dX5_liveAnyhow_21 (by decide) (fun c21 => ?_) (fun c21 => ?_)
    · skip
      rw [show (8 : Int32) = nI 8 from by decide, le_nn (by omega) (by omega)] at c21
      have hin : i = 8 := by omega
      exact G_vrm (K := mX5_liveAnyhow) dX5_liveAnyhow_42 rfl rfl (hQ _ (by rw [h3 1 (by decide)]; exact h21) (by rw [h3 3 (by decide), h23 3 (by decide) (by decide) (by decide)]; exact toH_cpy) (fun r hr => by rw [h3 9 (by decide)]; exact h22 r hr) (fun r hr => h9 r (by omega)) (fun c h1 h33 h7 h9c h10 => by rw [h3 c h10, h23 c h1 h7 h9c, cpyM_c h33]))
    · skip
      rw [show (8 : Int32) = nI 8 from by decide, le_nn (by omega) (by omega)] at c21
      refine G_aload_n (K := mX5_liveAnyhow) (i := 0) dX5_liveAnyhow_24 rfl rfl ?_
      refine G_getr (K := mX5_liveAnyhow) fX5_37 dX5_liveAnyhow_25 rfl rfl ?_
      refine G_iload_n (K := mX5_liveAnyhow) (i := 2) dX5_liveAnyhow_28 rfl rfl ?_
      refine G_aload_n (K := mX5_liveAnyhow) (i := 0) dX5_liveAnyhow_29 rfl rfl ?_
      refine G_getr (K := mX5_liveAnyhow) fX5_34 dX5_liveAnyhow_30 rfl rfl ?_
      refine G_iload_n (K := mX5_liveAnyhow) (i := 2) dX5_liveAnyhow_33 rfl rfl ?_
      refine G_ld (K := mX5_liveAnyhow) i dX5_liveAnyhow_34 rfl rfl (by omega) (by decide) ?_
      refine G_sto (K := mX5_liveAnyhow) i dX5_liveAnyhow_35 rfl rfl (by omega) (by decide) ?_
      refine G_iincN (K := mX5_liveAnyhow) dX5_liveAnyhow_36 (by decide) rfl ?_
      refine G_goto (K := mX5_liveAnyhow) (tgt := 18) dX5_liveAnyhow_39 (by decide) ?_
      refine ih (i + 1) (by omega) (by omega) _ (fun c hc => (ups_cell hc).trans (h3 c hc)) (fun r hr => ?_)
      by_cases hri : r = i
      · subst hri; rw [ups_same, ups_cell (by decide)]
      · rw [ups_ne (fun z => hri z.2), ups_cell (by decide)]; exact h9 r (by omega)
  exact loop18 0 (by omega) M2 (fun _ _ => rfl) (fun r hr => absurd hr (by omega))
