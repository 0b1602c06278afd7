theorem G_now {K : MI} {d : Nat} {Q : Option Value → Mem → Prop} {pc : Nat} {ls : List (Option Value)} {st : List Value} {M : Mem} {x y : Int32} (f i : Nat) (hd : decode K.2.1 pc = .ok (.iastore, 1)) (hf : f < 9) (hi : i < 8) (hy : y = nI (14 + 9 * i + f))
    (kk : ∀ M2 : Mem, toH (M2 1) = ups (toH (M 1)) (1 + f) i x → (∀ c, c ≠ 1 → M2 c = M c) → G K shR d Q (pc + 1) ls st M2) : G K shR d Q pc ls (.int x :: .int y :: .ref 1 :: st) M :=
  G_sto (14 + 9 * i + f) hd rfl hy (by omega) (by decide) (kk _ (toH_ups hf hi) (fun c hc => ups_cell hc))
theorem toH_s {M : Mem} {x : Int32} (k j : Nat) (h : (k = 0 ∧ j = 2) ∨ (k = 1 ∧ j = 1) ∨ (k = 2 ∧ j = 0) ∨ (k = 3 ∧ j = 3)) : toH (ups M 1 k x 1) = ups (toH (M 1)) 0 j x := by
  have e : ∀ q, q ≠ k → ups M 1 k x 1 q = M 1 q := fun q hq => ups_ne (fun z => hq z.2)
  funext c i
  by_cases h0 : c = 0
  · subst h0
    rcases h with ⟨rfl, rfl⟩ | ⟨rfl, rfl⟩ | ⟨rfl, rfl⟩ | ⟨rfl, rfl⟩
    all_goals (by_cases h1 : i = 0 <;> by_cases h2 : i = 1 <;> by_cases h3 : i = 2 <;> by_cases h4 : i = 3 <;> first | omega | simp [toH, ups, h1, h2, h3, h4])
  · rw [ups_cell h0]
    unfold toH
    rw [if_neg h0, if_neg h0]
    by_cases h1 : c = 10
    · rw [if_pos h1, if_pos h1]
      by_cases hk : i < 10
      · rw [if_pos hk, if_pos hk, e _ (by omega)]
      · rw [if_neg hk, if_neg hk]
    rw [if_neg h1, if_neg h1]
    by_cases h2 : c ≤ 9 ∧ i < 8
    · rw [if_pos h2, if_pos h2, e _ (by omega)]
    · rw [if_neg h2, if_neg h2]
theorem G_nowS {K : MI} {d : Nat} {Q : Option Value → Mem → Prop} {pc : Nat} {ls : List (Option Value)} {st : List Value} {M : Mem} {x y : Int32} (k j : Nat) (h : (k = 0 ∧ j = 2) ∨ (k = 1 ∧ j = 1) ∨ (k = 2 ∧ j = 0) ∨ (k = 3 ∧ j = 3)) (hd : decode K.2.1 pc = .ok (.iastore, 1)) (hy : y = nI k)
    (kk : ∀ M2 : Mem, toH (M2 1) = ups (toH (M 1)) 0 j x → (∀ c, c ≠ 1 → M2 c = M c) → G K shR d Q (pc + 1) ls st M2) : G K shR d Q pc ls (.int x :: .int y :: .ref 1 :: st) M :=
  G_sto k hd rfl hy (by omega) (by decide) (kk _ (toH_s k j h) (fun c hc => ups_cell hc))
set_option maxRecDepth 20000 in
theorem c_X5_heatersOf {M : Mem} {r : Int32} {n : Nat} (hn : M 1 2 = nI n) (hn8 : n ≤ 8) {Q : Option Value → Mem → Prop} (hQ : Q (some (.int (bits (fun i => decide (toH (M 1) 5 i = r)) n))) M) : CT mX5_heatersOf shR 2 [.ref 0, .int r] M Q := by
  refine CT.mk [some (.ref 0), some (.int r), none, none] (by decide) (Nat.le_of_ble_eq_true rfl) rfl rfl ?_
  refine G_iconst (K := mX5_heatersOf) (v := 0) dX5_heatersOf_0 (by decide) ?_
  refine G_istore_n (K := mX5_heatersOf) (i := 2) dX5_heatersOf_1 rfl (by decide) ?_
  refine G_iconst (K := mX5_heatersOf) (v := 0) dX5_heatersOf_2 (by decide) ?_
  refine G_istore_n (K := mX5_heatersOf) (i := 3) dX5_heatersOf_3 rfl (by decide) ?_
  have loop4 : ∀ i, i ≤ n → ∀ s, s = bits (fun i => decide (toH (M 1) 5 i = r)) i → G mX5_heatersOf shR 2 Q 4 [some (.ref 0), some (.int r), some (.int s), some (.int (nI i))] [] M := by
    refine upto n (fun i hi ih => ?_)
    intro s hs2
    refine G_iload_n (K := mX5_heatersOf) (i := 3) dX5_heatersOf_4 rfl rfl ?_
    refine G_aload_n (K := mX5_heatersOf) (i := 0) dX5_heatersOf_5 rfl rfl ?_
    refine G_getr (K := mX5_heatersOf) fX5_9 dX5_heatersOf_6 rfl rfl ?_
    refine G_iconst (K := mX5_heatersOf) (v := 2) dX5_heatersOf_9 (by decide) ?_
    refine G_ld (K := mX5_heatersOf) 2 dX5_heatersOf_10 rfl rfl (by omega) (by decide) ?_
    refine G_icmp_ge (K := mX5_heatersOf) (tgt := 40) dX5_heatersOf_11 (by decide) (fun c11 => ?_) (fun c11 => ?_)
    · skip
      rw [hn, le_nn (by omega) (by omega)] at c11
      have hin : i = n := by omega
      subst hin
      refine G_iload_n (K := mX5_heatersOf) (i := 2) dX5_heatersOf_40 rfl rfl ?_
      exact G_irm (K := mX5_heatersOf) dX5_heatersOf_41 rfl (by exact hs2) (by rfl) hQ
    · skip
      rw [hn, le_nn (by omega) (by omega)] at c11
      refine G_iload_n (K := mX5_heatersOf) (i := 2) dX5_heatersOf_14 rfl rfl ?_
      refine G_aload_n (K := mX5_heatersOf) (i := 0) dX5_heatersOf_15 rfl rfl ?_
      refine G_iload_n (K := mX5_heatersOf) (i := 3) dX5_heatersOf_16 rfl rfl ?_
      refine G_iconst (K := mX5_heatersOf) (v := 4) dX5_heatersOf_17 (by decide) ?_
      refine G_cv (K := mX5_heatersOf) (c_X5_roomIs (i := i) (f := 4) (by omega) (by omega) ⟨rfl, rfl⟩) vX5_roomIs rfl lX5_120 dX5_heatersOf_18 ⟨_, _, _, rfl, rfl, rfl⟩ (by decide) rfl (Nat.le_of_ble_eq_true rfl) ?_
      refine G_iload_n (K := mX5_heatersOf) (i := 1) dX5_heatersOf_21 rfl rfl ?_
      refine G_icmp_ne (K := mX5_heatersOf) (tgt := 31) dX5_heatersOf_22 (by decide) (fun c22 => ?_) (fun c22 => ?_)
      · skip
        refine G_iconst (K := mX5_heatersOf) (v := 0) dX5_heatersOf_31 (by decide) ?_
        refine G_ior (K := mX5_heatersOf) dX5_heatersOf_32 ?_
        refine G_istore_n (K := mX5_heatersOf) (i := 2) dX5_heatersOf_33 rfl (by decide) ?_
        refine G_iincN (K := mX5_heatersOf) dX5_heatersOf_34 (by decide) rfl ?_
        refine G_goto (K := mX5_heatersOf) (tgt := 4) dX5_heatersOf_37 (by decide) ?_
        exact ih (i + 1) (by omega) (by omega) _ (by first | (rw [bits_t (decide_eq_true c22), hs2]; rfl) | (rw [bits_f (by rw [decide_eq_true_iff]; exact c22), hs2]; exact Int32.or_zero))
      · skip
        refine G_iconst (K := mX5_heatersOf) (v := 1) dX5_heatersOf_25 (by decide) ?_
        refine G_iload_n (K := mX5_heatersOf) (i := 3) dX5_heatersOf_26 rfl rfl ?_
        refine G_ishl (K := mX5_heatersOf) dX5_heatersOf_27 ?_
        refine G_goto (K := mX5_heatersOf) (tgt := 32) dX5_heatersOf_28 (by decide) ?_
        refine G_ior (K := mX5_heatersOf) dX5_heatersOf_32 ?_
        refine G_istore_n (K := mX5_heatersOf) (i := 2) dX5_heatersOf_33 rfl (by decide) ?_
        refine G_iincN (K := mX5_heatersOf) dX5_heatersOf_34 (by decide) rfl ?_
        refine G_goto (K := mX5_heatersOf) (tgt := 4) dX5_heatersOf_37 (by decide) ?_
        exact ih (i + 1) (by omega) (by omega) _ (by first | (rw [bits_t (decide_eq_true c22), hs2]; rfl) | (rw [bits_f (by rw [decide_eq_true_iff]; exact c22), hs2]; exact Int32.or_zero))
  exact loop4 0 (by omega) _ rfl

set_option maxRecDepth 20000 in
theorem c_X5_colds {M : Mem} {n : Nat} (hn : M 1 2 = nI n) (hn8 : n ≤ 8) {Q : Option Value → Mem → Prop} (hQ : Q (some (.int (bits (fun i => decide (toH (M 1) 2 i < 60)) n))) M) : CT mX5_colds shR 2 [.ref 0] M Q := by
  refine CT.mk [some (.ref 0), none, none] (by decide) (Nat.le_of_ble_eq_true rfl) rfl rfl ?_
  refine G_iconst (K := mX5_colds) (v := 0) dX5_colds_0 (by decide) ?_
  refine G_istore_n (K := mX5_colds) (i := 1) dX5_colds_1 rfl (by decide) ?_
  refine G_iconst (K := mX5_colds) (v := 0) dX5_colds_2 (by decide) ?_
  refine G_istore_n (K := mX5_colds) (i := 2) dX5_colds_3 rfl (by decide) ?_
  have loop4 : ∀ i, i ≤ n → ∀ s, s = bits (fun i => decide (toH (M 1) 2 i < 60)) i → G mX5_colds shR 2 Q 4 [some (.ref 0), some (.int s), some (.int (nI i))] [] M := by
    refine upto n (fun i hi ih => ?_)
    intro s hs2
    refine G_iload_n (K := mX5_colds) (i := 2) dX5_colds_4 rfl rfl ?_
    refine G_aload_n (K := mX5_colds) (i := 0) dX5_colds_5 rfl rfl ?_
    refine G_getr (K := mX5_colds) fX5_9 dX5_colds_6 rfl rfl ?_
    refine G_iconst (K := mX5_colds) (v := 2) dX5_colds_9 (by decide) ?_
    refine G_ld (K := mX5_colds) 2 dX5_colds_10 rfl rfl (by omega) (by decide) ?_
    refine G_icmp_ge (K := mX5_colds) (tgt := 41) dX5_colds_11 (by decide) (fun c11 => ?_) (fun c11 => ?_)
    · skip
      rw [hn, le_nn (by omega) (by omega)] at c11
      have hin : i = n := by omega
      subst hin
      refine G_iload_n (K := mX5_colds) (i := 1) dX5_colds_41 rfl rfl ?_
      exact G_irm (K := mX5_colds) dX5_colds_42 rfl (by exact hs2) (by rfl) hQ
    · skip
      rw [hn, le_nn (by omega) (by omega)] at c11
      refine G_iload_n (K := mX5_colds) (i := 1) dX5_colds_14 rfl rfl ?_
      refine G_aload_n (K := mX5_colds) (i := 0) dX5_colds_15 rfl rfl ?_
      refine G_iload_n (K := mX5_colds) (i := 2) dX5_colds_16 rfl rfl ?_
      refine G_iconst (K := mX5_colds) (v := 1) dX5_colds_17 (by decide) ?_
      refine G_cv (K := mX5_colds) (c_X5_roomIs (i := i) (f := 1) (by omega) (by omega) ⟨rfl, rfl⟩) vX5_roomIs rfl lX5_120 dX5_colds_18 ⟨_, _, _, rfl, rfl, rfl⟩ (by decide) rfl (Nat.le_of_ble_eq_true rfl) ?_
      refine G_bipush (K := mX5_colds) (v := 60) dX5_colds_21 (by decide) ?_
      refine G_icmp_ge (K := mX5_colds) (tgt := 32) dX5_colds_23 (by decide) (fun c23 => ?_) (fun c23 => ?_)
      · skip
        refine G_iconst (K := mX5_colds) (v := 0) dX5_colds_32 (by decide) ?_
        refine G_ior (K := mX5_colds) dX5_colds_33 ?_
        refine G_istore_n (K := mX5_colds) (i := 1) dX5_colds_34 rfl (by decide) ?_
        refine G_iincN (K := mX5_colds) dX5_colds_35 (by decide) rfl ?_
        refine G_goto (K := mX5_colds) (tgt := 4) dX5_colds_38 (by decide) ?_
        exact ih (i + 1) (by omega) (by omega) _ (by first | (rw [bits_t (decide_eq_true (Int32.not_le.mp c23)), hs2]; rfl) | (rw [bits_f (by rw [decide_eq_true_iff]; exact (Int32.not_lt.mpr c23)), hs2]; exact Int32.or_zero))
      · skip
        refine G_iconst (K := mX5_colds) (v := 1) dX5_colds_26 (by decide) ?_
        refine G_iload_n (K := mX5_colds) (i := 2) dX5_colds_27 rfl rfl ?_
        refine G_ishl (K := mX5_colds) dX5_colds_28 ?_
        refine G_goto (K := mX5_colds) (tgt := 33) dX5_colds_29 (by decide) ?_
        refine G_ior (K := mX5_colds) dX5_colds_33 ?_
        refine G_istore_n (K := mX5_colds) (i := 1) dX5_colds_34 rfl (by decide) ?_
        refine G_iincN (K := mX5_colds) dX5_colds_35 (by decide) rfl ?_
        refine G_goto (K := mX5_colds) (tgt := 4) dX5_colds_38 (by decide) ?_
        exact ih (i + 1) (by omega) (by omega) _ (by first | (rw [bits_t (decide_eq_true (Int32.not_le.mp c23)), hs2]; rfl) | (rw [bits_f (by rw [decide_eq_true_iff]; exact (Int32.not_lt.mpr c23)), hs2]; exact Int32.or_zero))
  exact loop4 0 (by omega) _ rfl

set_option maxRecDepth 20000 in
theorem c_X5_sum {M : Mem} {n f : Nat} (hf : f < 9) (hn : M 1 2 = nI n) (hn8 : n ≤ 8) {Q : Option Value → Mem → Prop} (hQ : Q (some (.int (sumN (toH (M 1) (1 + f)) n))) M) : CT mX5_sum shR 2 [.ref 0, .int (nI f)] M Q := by
  refine CT.mk [some (.ref 0), some (.int (nI f)), none, none] (by decide) (Nat.le_of_ble_eq_true rfl) rfl rfl ?_
  refine G_iconst (K := mX5_sum) (v := 0) dX5_sum_0 (by decide) ?_
  refine G_istore_n (K := mX5_sum) (i := 2) dX5_sum_1 rfl (by decide) ?_
  refine G_iconst (K := mX5_sum) (v := 0) dX5_sum_2 (by decide) ?_
  refine G_istore_n (K := mX5_sum) (i := 3) dX5_sum_3 rfl (by decide) ?_
  have loop4 : ∀ i, i ≤ n → ∀ s, s = sumN (toH (M 1) (1 + f)) i → G mX5_sum shR 2 Q 4 [some (.ref 0), some (.int (nI f)), some (.int s), some (.int (nI i))] [] M := by
    refine upto n (fun i hi ih => ?_)
    intro s hs2
    refine G_iload_n (K := mX5_sum) (i := 3) dX5_sum_4 rfl rfl ?_
    refine G_aload_n (K := mX5_sum) (i := 0) dX5_sum_5 rfl rfl ?_
    refine G_getr (K := mX5_sum) fX5_9 dX5_sum_6 rfl rfl ?_
    refine G_iconst (K := mX5_sum) (v := 2) dX5_sum_9 (by decide) ?_
    refine G_ld (K := mX5_sum) 2 dX5_sum_10 rfl rfl (by omega) (by decide) ?_
    refine G_icmp_ge (K := mX5_sum) (tgt := 29) dX5_sum_11 (by decide) (fun c11 => ?_) (fun c11 => ?_)
    · skip
      rw [hn, le_nn (by omega) (by omega)] at c11
      have hin : i = n := by omega
      subst hin
      refine G_iload_n (K := mX5_sum) (i := 2) dX5_sum_29 rfl rfl ?_
      exact G_irm (K := mX5_sum) dX5_sum_30 rfl (by exact hs2) (by rfl) hQ
    · skip
      rw [hn, le_nn (by omega) (by omega)] at c11
      refine G_iload_n (K := mX5_sum) (i := 2) dX5_sum_14 rfl rfl ?_
      refine G_aload_n (K := mX5_sum) (i := 0) dX5_sum_15 rfl rfl ?_
      refine G_iload_n (K := mX5_sum) (i := 3) dX5_sum_16 rfl rfl ?_
      refine G_iload_n (K := mX5_sum) (i := 1) dX5_sum_17 rfl rfl ?_
      refine G_cv (K := mX5_sum) (c_X5_roomIs (i := i) (f := f) (by omega) (by omega) ⟨rfl, rfl⟩) vX5_roomIs rfl lX5_120 dX5_sum_18 ⟨_, _, _, rfl, rfl, rfl⟩ (by decide) rfl (Nat.le_of_ble_eq_true rfl) ?_
      refine G_iadd (K := mX5_sum) dX5_sum_21 ?_
      refine G_istore_n (K := mX5_sum) (i := 2) dX5_sum_22 rfl (by decide) ?_
      refine G_iincN (K := mX5_sum) dX5_sum_23 (by decide) rfl ?_
      refine G_goto (K := mX5_sum) (tgt := 4) dX5_sum_26 (by decide) ?_
      exact ih (i + 1) (by omega) (by omega) _ (by rw [hs2]; rfl)
  exact loop4 0 (by omega) _ rfl

def takeR (M : Mem) (j r : Nat) : Int32 := if toH (M 1) 5 r = nI j then maxI 0 (M 7 r - toH (M 1) 7 r) else 0
set_option maxRecDepth 20000 in
theorem c_X5_gets {M : Mem} {n j : Nat} (hn : M 1 2 = nI n) (hn8 : n ≤ 8) {Q : Option Value → Mem → Prop} (hQ : Q (some (.int (sumN (takeR M j) n))) M) : CT mX5_gets shR 2 [.ref 0, .int (nI j)] M Q := by
  refine CT.mk [some (.ref 0), some (.int (nI j)), none, none] (by decide) (Nat.le_of_ble_eq_true rfl) rfl rfl ?_
  refine G_iconst (K := mX5_gets) (v := 0) dX5_gets_0 (by decide) ?_
  refine G_istore_n (K := mX5_gets) (i := 2) dX5_gets_1 rfl (by decide) ?_
  refine G_iconst (K := mX5_gets) (v := 0) dX5_gets_2 (by decide) ?_
  refine G_istore_n (K := mX5_gets) (i := 3) dX5_gets_3 rfl (by decide) ?_
  have loop4 : ∀ i, i ≤ n → ∀ s, s = sumN (takeR M j) i → G mX5_gets shR 2 Q 4 [some (.ref 0), some (.int (nI j)), some (.int s), some (.int (nI i))] [] M := by
    refine upto n (fun i hi ih => ?_)
    intro s hs2
    refine G_iload_n (K := mX5_gets) (i := 3) dX5_gets_4 rfl rfl ?_
    refine G_aload_n (K := mX5_gets) (i := 0) dX5_gets_5 rfl rfl ?_
    refine G_getr (K := mX5_gets) fX5_9 dX5_gets_6 rfl rfl ?_
    refine G_iconst (K := mX5_gets) (v := 2) dX5_gets_9 (by decide) ?_
    refine G_ld (K := mX5_gets) 2 dX5_gets_10 rfl rfl (by omega) (by decide) ?_
    refine G_icmp_ge (K := mX5_gets) (tgt := 55) dX5_gets_11 (by decide) (fun c11 => ?_) (fun c11 => ?_)
    · skip
      rw [hn, le_nn (by omega) (by omega)] at c11
      have hin : i = n := by omega
      subst hin
      refine G_iload_n (K := mX5_gets) (i := 2) dX5_gets_55 rfl rfl ?_
      exact G_irm (K := mX5_gets) dX5_gets_56 rfl (by exact hs2) (by rfl) hQ
    · skip
      rw [hn, le_nn (by omega) (by omega)] at c11
      refine G_iload_n (K := mX5_gets) (i := 2) dX5_gets_14 rfl rfl ?_
      refine G_aload_n (K := mX5_gets) (i := 0) dX5_gets_15 rfl rfl ?_
      refine G_iload_n (K := mX5_gets) (i := 3) dX5_gets_16 rfl rfl ?_
      refine G_iconst (K := mX5_gets) (v := 4) dX5_gets_17 (by decide) ?_
      refine G_cv (K := mX5_gets) (c_X5_roomIs (i := i) (f := 4) (by omega) (by omega) ⟨rfl, rfl⟩) vX5_roomIs rfl lX5_120 dX5_gets_18 ⟨_, _, _, rfl, rfl, rfl⟩ (by decide) rfl (Nat.le_of_ble_eq_true rfl) ?_
      refine G_iload_n (K := mX5_gets) (i := 1) dX5_gets_21 rfl rfl ?_
      refine G_icmp_ne (K := mX5_gets) (tgt := 46) dX5_gets_22 (by decide) (fun c22 => ?_) (fun c22 => ?_)
      · skip
        refine G_iconst (K := mX5_gets) (v := 0) dX5_gets_46 (by decide) ?_
        refine G_iadd (K := mX5_gets) dX5_gets_47 ?_
        refine G_istore_n (K := mX5_gets) (i := 2) dX5_gets_48 rfl (by decide) ?_
        refine G_iincN (K := mX5_gets) dX5_gets_49 (by decide) rfl ?_
        refine G_goto (K := mX5_gets) (tgt := 4) dX5_gets_52 (by decide) ?_
        refine ih (i + 1) (by omega) (by omega) _ ?_
        show _ = sumN (takeR M j) i + takeR M j i
        rw [hs2]
        first
          | (have e : takeR M j i = maxI 0 (M 7 i - toH (M 1) 7 i) := if_pos c22
             rw [e]; rfl)
          | (have e : takeR M j i = 0 := if_neg c22
             rw [e])
      · skip
        refine G_iconst (K := mX5_gets) (v := 0) dX5_gets_25 (by decide) ?_
        refine G_aload_n (K := mX5_gets) (i := 0) dX5_gets_26 rfl rfl ?_
        refine G_getr (K := mX5_gets) fX5_28 dX5_gets_27 rfl rfl ?_
        refine G_iload_n (K := mX5_gets) (i := 3) dX5_gets_30 rfl rfl ?_
        refine G_ld (K := mX5_gets) _ dX5_gets_31 rfl rfl (by omega) (by decide) ?_
        refine G_aload_n (K := mX5_gets) (i := 0) dX5_gets_32 rfl rfl ?_
        refine G_iload_n (K := mX5_gets) (i := 3) dX5_gets_33 rfl rfl ?_
        refine G_bipush (K := mX5_gets) (v := 6) dX5_gets_34 (by decide) ?_
        refine G_cv (K := mX5_gets) (c_X5_roomIs (i := i) (f := 6) (by omega) (by omega) ⟨rfl, rfl⟩) vX5_roomIs rfl lX5_120 dX5_gets_36 ⟨_, _, _, rfl, rfl, rfl⟩ (by decide) rfl (Nat.le_of_ble_eq_true rfl) ?_
        refine G_isub (K := mX5_gets) dX5_gets_39 ?_
        refine G_max (K := mX5_gets) qX5_153 dX5_gets_40 (by decide) (Nat.le_of_ble_eq_true rfl) ?_
        refine G_goto (K := mX5_gets) (tgt := 47) dX5_gets_43 (by decide) ?_
        refine G_iadd (K := mX5_gets) dX5_gets_47 ?_
        refine G_istore_n (K := mX5_gets) (i := 2) dX5_gets_48 rfl (by decide) ?_
        refine G_iincN (K := mX5_gets) dX5_gets_49 (by decide) rfl ?_
        refine G_goto (K := mX5_gets) (tgt := 4) dX5_gets_52 (by decide) ?_
        refine ih (i + 1) (by omega) (by omega) _ ?_
        show _ = sumN (takeR M j) i + takeR M j i
        rw [hs2]
        first
          | (have e : takeR M j i = maxI 0 (M 7 i - toH (M 1) 7 i) := if_pos c22
             rw [e]; rfl)
          | (have e : takeR M j i = 0 := if_neg c22
             rw [e])
  exact loop4 0 (by omega) _ rfl

set_option maxRecDepth 20000 in
theorem c_X5_isTooLate {M : Mem} {a : Int32} {Q : Option Value → Mem → Prop} (hQ : Q (some (.int (bI (decide (9999 < M 1 0 + a))))) M) : CT mX5_isTooLate shR 0 [.ref 0, .int a] M Q := by
  refine CT.mk [some (.ref 0), some (.int a)] (by decide) (Nat.le_of_ble_eq_true rfl) rfl rfl ?_
  refine G_aload_n (K := mX5_isTooLate) (i := 0) dX5_isTooLate_0 rfl rfl ?_
  refine G_getr (K := mX5_isTooLate) fX5_9 dX5_isTooLate_1 rfl rfl ?_
  refine G_iconst (K := mX5_isTooLate) (v := 0) dX5_isTooLate_4 (by decide) ?_
  refine G_ld (K := mX5_isTooLate) 0 dX5_isTooLate_5 rfl rfl (by omega) (by decide) ?_
  refine G_iload_n (K := mX5_isTooLate) (i := 1) dX5_isTooLate_6 rfl rfl ?_
  refine G_iadd (K := mX5_isTooLate) dX5_isTooLate_7 ?_
  refine G_sipush (K := mX5_isTooLate) (v := 9999) dX5_isTooLate_8 (by decide) ?_
  refine G_icmp_le (K := mX5_isTooLate) (tgt := 18) dX5_isTooLate_11 (by decide) (fun c11 => ?_) (fun c11 => ?_)
  · skip
    refine G_iconst (K := mX5_isTooLate) (v := 0) dX5_isTooLate_18 (by decide) ?_
    exact G_zrm (K := mX5_isTooLate) dX5_isTooLate_19 rfl rfl (by first | exact (bI_t (decide_eq_true (Int32.not_le.mp c11))).symm | exact (bI_f (decide_eq_false (Int32.not_lt.mpr c11))).symm) rfl hQ
  · skip
    refine G_iconst (K := mX5_isTooLate) (v := 1) dX5_isTooLate_14 (by decide) ?_
    refine G_goto (K := mX5_isTooLate) (tgt := 19) dX5_isTooLate_15 (by decide) ?_
    exact G_zrm (K := mX5_isTooLate) dX5_isTooLate_19 rfl rfl (by first | exact (bI_t (decide_eq_true (Int32.not_le.mp c11))).symm | exact (bI_f (decide_eq_false (Int32.not_lt.mpr c11))).symm) rfl hQ

set_option maxRecDepth 20000 in
theorem c_X5_isLate {M : Mem} {Q : Option Value → Mem → Prop} (hQ : Q (some (.int (bI (decide (9899 < M 1 0))))) M) : CT mX5_isLate shR 0 [.ref 0] M Q := by
  refine CT.mk [some (.ref 0)] (by decide) (Nat.le_of_ble_eq_true rfl) rfl rfl ?_
  refine G_aload_n (K := mX5_isLate) (i := 0) dX5_isLate_0 rfl rfl ?_
  refine G_getr (K := mX5_isLate) fX5_9 dX5_isLate_1 rfl rfl ?_
  refine G_iconst (K := mX5_isLate) (v := 0) dX5_isLate_4 (by decide) ?_
  refine G_ld (K := mX5_isLate) 0 dX5_isLate_5 rfl rfl (by omega) (by decide) ?_
  refine G_sipush (K := mX5_isLate) (v := 9899) dX5_isLate_6 (by decide) ?_
  refine G_icmp_le (K := mX5_isLate) (tgt := 16) dX5_isLate_9 (by decide) (fun c9 => ?_) (fun c9 => ?_)
  · skip
    refine G_iconst (K := mX5_isLate) (v := 0) dX5_isLate_16 (by decide) ?_
    exact G_zrm (K := mX5_isLate) dX5_isLate_17 rfl rfl (by first | exact (bI_t (decide_eq_true (Int32.not_le.mp c9))).symm | exact (bI_f (decide_eq_false (Int32.not_lt.mpr c9))).symm) rfl hQ
  · skip
    refine G_iconst (K := mX5_isLate) (v := 1) dX5_isLate_12 (by decide) ?_
    refine G_goto (K := mX5_isLate) (tgt := 17) dX5_isLate_13 (by decide) ?_
    exact G_zrm (K := mX5_isLate) dX5_isLate_17 rfl rfl (by first | exact (bI_t (decide_eq_true (Int32.not_le.mp c9))).symm | exact (bI_f (decide_eq_false (Int32.not_lt.mpr c9))).symm) rfl hQ

def hourP (h : Mem) (n i : Nat) : Mem := fun c k => if (c = 2 ∨ c = 3 ∨ c = 8 ∨ c = 9) ∧ k < i then hourH h n c k else h c k
theorem hourP_0 (h : Mem) (n : Nat) : hourP h n 0 = h := by funext c k; exact if_neg (by omega)
theorem hourP_n (h : Mem) (n : Nat) : ups (hourP h n n) 0 2 (h 0 2 + 1) = hourH h n := by
  funext c k
  have hc : c = 0 ∨ c = 2 ∨ c = 3 ∨ c = 8 ∨ c = 9 ∨ (c ≠ 0 ∧ c ≠ 2 ∧ c ≠ 3 ∧ c ≠ 8 ∧ c ≠ 9) := by omega
  rcases hc with rfl | rfl | rfl | rfl | rfl | ⟨h0, h2, h3, h8, h9⟩
  · by_cases hk : k = 2
    · subst hk; rw [ups_same]; rfl
    · rw [ups_ne (fun z => hk z.2)]
      show (if (0 = 2 ∨ 0 = 3 ∨ 0 = 8 ∨ 0 = 9) ∧ k < n then _ else h 0 k) = (if k = 2 then h 0 2 + 1 else h 0 k)
      rw [if_neg (by omega), if_neg hk]
  all_goals (try (
    rw [ups_cell (by decide)]
    by_cases hk : k < n
    · exact if_pos ⟨by omega, hk⟩
    · refine (if_neg (by omega)).trans ?_
      simp [hourH, hk]))
  rw [ups_cell h0]
  refine (if_neg (by omega)).trans ?_
  simp [hourH, h0, h2, h3, h8, h9]
theorem hourP_s {h T : Mem} {n i : Nat} (hi : i < n) (hT : T = hourP h n i) : ups (ups (ups (ups T 3 i (h 3 i - stokeH h i)) 9 i (stokeH h i)) 8 i (gotH h n i)) 2 i (warmH h n i) = hourP h n (i + 1) := by
  subst hT
  funext c k
  by_cases hk : k = i
  · subst hk
    have hc : c = 2 ∨ c = 3 ∨ c = 8 ∨ c = 9 ∨ (c ≠ 2 ∧ c ≠ 3 ∧ c ≠ 8 ∧ c ≠ 9) := by omega
    rcases hc with rfl | rfl | rfl | rfl | ⟨h2, h3, h8, h9⟩
    · simp [ups, hourP, hourH, hi]
    · simp [ups, hourP, hourH, hi]
    · simp [ups, hourP, hourH, hi]
    · simp [ups, hourP, hourH, hi]
    · simp [ups, hourP, h2, h3, h8, h9]
  · have e : (k < i + 1) = (k < i) := propext ⟨fun z => by omega, fun z => by omega⟩
    simp [ups, hourP, hk, e]
set_option maxRecDepth 20000 in
theorem c_X5_hour {M : Mem} {n : Nat} (hn : M 1 2 = nI n) (hn8 : n ≤ 8) (hw : ∀ i, i < n → 0 < toH (M 1) 4 i) {Q : Option Value → Mem → Prop} (hQ : ∀ M2 : Mem, toH (M2 1) = hourH (toH (M 1)) n → (∀ c, c ≠ 1 → c ≠ 7 → M2 c = M c) → Q (some (.int (stSum (toH (M 1)) n))) M2) : CT mX5_hour shR 3 [.ref 0] M Q := by
  refine CT.mk [some (.ref 0), none, none, none] (by decide) (Nat.le_of_ble_eq_true rfl) rfl rfl ?_
  refine G_iconst (K := mX5_hour) (v := 0) dX5_hour_0 (by decide) ?_
  refine G_istore_n (K := mX5_hour) (i := 1) dX5_hour_1 rfl (by decide) ?_
  refine G_iconst (K := mX5_hour) (v := 0) dX5_hour_2 (by decide) ?_
  refine G_istore_n (K := mX5_hour) (i := 2) dX5_hour_3 rfl (by decide) ?_
  have loop4 : ∀ i, i ≤ n → ∀ s, s = sumN (stokeH (toH (M 1))) i → ∀ M1 : Mem, (∀ c, c ≠ 7 → M1 c = M c) → (∀ r, r < i → M1 7 r = stokeH (toH (M 1)) r) → ∀ y, G mX5_hour shR 3 Q 4 [some (.ref 0), some (.int s), some (.int (nI i)), y] [] M1 := by
    refine upto n (fun i hi ih => ?_)
    intro s hs2 M1 h1c h17 y
    have hn1 : M1 1 2 = nI n := by rw [h1c 1 (by decide)]; exact hn
    have eT : toH (M1 1) = toH (M 1) := by rw [h1c 1 (by decide)]
    refine G_iload_n (K := mX5_hour) (i := 2) dX5_hour_4 rfl rfl ?_
    refine G_aload_n (K := mX5_hour) (i := 0) dX5_hour_5 rfl rfl ?_
    refine G_getr (K := mX5_hour) fX5_9 dX5_hour_6 rfl rfl ?_
    refine G_iconst (K := mX5_hour) (v := 2) dX5_hour_9 (by decide) ?_
    refine G_ld (K := mX5_hour) 2 dX5_hour_10 rfl rfl (by omega) (by decide) ?_
    refine G_icmp_ge (K := mX5_hour) (tgt := 63) dX5_hour_11 (by decide) (fun c11 => ?_) (fun c11 => ?_)
    · skip
      rw [hn1, le_nn (by omega) (by omega)] at c11
      have hin : i = n := by omega
      subst hin
      refine G_iconst (K := mX5_hour) (v := 0) dX5_hour_63 (by decide) ?_
      refine G_istore_n (K := mX5_hour) (i := 2) dX5_hour_64 rfl (by decide) ?_
      have loop65 : ∀ k, k ≤ i → ∀ M3 : Mem, (∀ c, c ≠ 1 → M3 c = M1 c) → toH (M3 1) = hourP (toH (M 1)) i k → ∀ y, G mX5_hour shR 3 Q 65 [some (.ref 0), some (.int s), some (.int (nI k)), y] [] M3 := by
        refine upto i (fun k hk ih2 => ?_)
        intro M3 h3c hT3 y
        have hn3 : M3 1 2 = nI i := by rw [← toH_n (M3 1), hT3]; exact (if_neg (by omega)).trans hn
        refine G_iload_n (K := mX5_hour) (i := 2) dX5_hour_65 rfl rfl ?_
        refine G_aload_n (K := mX5_hour) (i := 0) dX5_hour_66 rfl rfl ?_
        refine G_getr (K := mX5_hour) fX5_9 dX5_hour_67 rfl rfl ?_
        refine G_iconst (K := mX5_hour) (v := 2) dX5_hour_70 (by decide) ?_
        refine G_ld (K := mX5_hour) 2 dX5_hour_71 rfl rfl (by omega) (by decide) ?_
        refine G_icmp_ge (K := mX5_hour) (tgt := 198) dX5_hour_72 (by decide) (fun c72 => ?_) (fun c72 => ?_)
        · skip
          rw [hn3, le_nn (by omega) (by omega)] at c72
          have hki : k = i := by omega
          subst hki
          refine G_aload_n (K := mX5_hour) (i := 0) dX5_hour_198 rfl rfl ?_
          refine G_getr (K := mX5_hour) fX5_9 dX5_hour_199 rfl rfl ?_
          refine G_iconst (K := mX5_hour) (v := 0) dX5_hour_202 (by decide) ?_
          refine G_dup2 (K := mX5_hour) dX5_hour_203 rfl rfl ?_
          refine G_ld (K := mX5_hour) 0 dX5_hour_204 rfl rfl (by omega) (by decide) ?_
          refine G_iconst (K := mX5_hour) (v := 1) dX5_hour_205 (by decide) ?_
          refine G_iadd (K := mX5_hour) dX5_hour_206 ?_
          refine G_nowS (K := mX5_hour) 0 2 (by omega) dX5_hour_207 rfl (fun M4 hT4 h45 => ?_)
          refine G_iload_n (K := mX5_hour) (i := 1) dX5_hour_208 rfl rfl ?_
          refine G_irm (K := mX5_hour) dX5_hour_209 rfl hs2 rfl (hQ M4 ?_ (fun c h1 h7 => by rw [h45 c h1, h3c c h1, h1c c h7]))
          rw [hT4, show M3 1 0 = toH (M3 1) 0 2 from rfl, hT3, show hourP (toH (M 1)) k k 0 2 = toH (M 1) 0 2 from if_neg (by omega)]
          exact hourP_n _ _
        · skip
          rw [hn3, le_nn (by omega) (by omega)] at c72
          refine G_aload_n (K := mX5_hour) (i := 0) dX5_hour_75 rfl rfl ?_
          refine G_getr (K := mX5_hour) fX5_9 dX5_hour_76 rfl rfl ?_
          refine G_iload_n (K := mX5_hour) (i := 2) dX5_hour_79 rfl rfl ?_
          refine G_iconst (K := mX5_hour) (v := 2) dX5_hour_80 (by decide) ?_
          refine G_sv (K := mX5_hour) (c_X5_at (i := k) (f := 2) (by omega) (by omega) ⟨rfl, rfl⟩) sX5_at rfl lX5_101 dX5_hour_81 (by decide) rfl (Nat.le_of_ble_eq_true rfl) ?_
          refine G_dup2 (K := mX5_hour) dX5_hour_84 rfl rfl ?_
          refine G_ld (K := mX5_hour) (14 + 9 * k + 2) dX5_hour_85 rfl rfl (by omega) (by decide) ?_
          rw [show M3 1 (14 + 9 * k + 2) = toH (M3 1) 3 k from (toH_f _ (by omega) (by omega)).symm, hT3, show hourP (toH (M 1)) i k 3 k = toH (M 1) 3 k from if_neg (by omega)]
          refine G_aload_n (K := mX5_hour) (i := 0) dX5_hour_86 rfl rfl ?_
          refine G_getr (K := mX5_hour) fX5_28 dX5_hour_87 rfl rfl ?_
          refine G_iload_n (K := mX5_hour) (i := 2) dX5_hour_90 rfl rfl ?_
          refine G_ld (K := mX5_hour) _ dX5_hour_91 rfl rfl (by omega) (by decide) ?_
          rw [h3c 7 (by decide), h17 k (by omega)]
          refine G_isub (K := mX5_hour) dX5_hour_92 ?_
          refine G_now (K := mX5_hour) 2 k dX5_hour_93 (by omega) (by omega) rfl (fun Mb hTb h3b => ?_)
          have h34 : ∀ c, c ≠ 1 → Mb c = M3 c := h3b
          refine G_aload_n (K := mX5_hour) (i := 0) dX5_hour_94 rfl rfl ?_
          refine G_getr (K := mX5_hour) fX5_9 dX5_hour_95 rfl rfl ?_
          refine G_iload_n (K := mX5_hour) (i := 2) dX5_hour_98 rfl rfl ?_
          refine G_bipush (K := mX5_hour) (v := 8) dX5_hour_99 (by decide) ?_
          refine G_sv (K := mX5_hour) (c_X5_at (i := k) (f := 8) (by omega) (by omega) ⟨rfl, rfl⟩) sX5_at rfl lX5_101 dX5_hour_101 (by decide) rfl (Nat.le_of_ble_eq_true rfl) ?_
          refine G_aload_n (K := mX5_hour) (i := 0) dX5_hour_104 rfl rfl ?_
          refine G_getr (K := mX5_hour) fX5_28 dX5_hour_105 rfl rfl ?_
          refine G_iload_n (K := mX5_hour) (i := 2) dX5_hour_108 rfl rfl ?_
          refine G_ld (K := mX5_hour) _ dX5_hour_109 rfl rfl (by omega) (by decide) ?_
          rw [h34 7 (by decide), h3c 7 (by decide), h17 k (by omega)]
          refine G_now (K := mX5_hour) 8 k dX5_hour_110 (by omega) (by omega) rfl (fun M4 hT4 h45 => ?_)
          have hn4 : M4 1 2 = nI i := by rw [← toH_n (M4 1), hT4, ups_cell (by decide), hTb, ups_cell (by decide), hT3]; exact (if_neg (by omega)).trans hn
          refine G_aload_n (K := mX5_hour) (i := 0) dX5_hour_111 rfl rfl ?_
          refine G_getr (K := mX5_hour) fX5_9 dX5_hour_112 rfl rfl ?_
          refine G_iload_n (K := mX5_hour) (i := 2) dX5_hour_115 rfl rfl ?_
          refine G_bipush (K := mX5_hour) (v := 7) dX5_hour_116 (by decide) ?_
          refine G_sv (K := mX5_hour) (c_X5_at (i := k) (f := 7) (by omega) (by omega) ⟨rfl, rfl⟩) sX5_at rfl lX5_101 dX5_hour_118 (by decide) rfl (Nat.le_of_ble_eq_true rfl) ?_
          refine G_aload_n (K := mX5_hour) (i := 0) dX5_hour_121 rfl rfl ?_
          refine G_iload_n (K := mX5_hour) (i := 2) dX5_hour_122 rfl rfl ?_
          refine G_cv (K := mX5_hour) (c_X5_gets (M := M4) (j := k) hn4 hn8 ⟨rfl, rfl⟩) vX5_gets rfl lX5_150 dX5_hour_123 ⟨_, _, _, rfl, rfl, rfl⟩ (by decide) rfl (Nat.le_of_ble_eq_true rfl) ?_
          have eG : sumN (takeR M4 k) i = gotH (toH (M 1)) i k := by
            refine sumN_congr i (fun r hr => ?_)
            show (if toH (M4 1) 5 r = nI k then maxI 0 (M4 7 r - toH (M4 1) 7 r) else 0) = (if toH (M 1) 5 r = nI k then maxI 0 (stokeH (toH (M 1)) r - toH (M 1) 7 r) else 0)
            have e5 : toH (M4 1) 5 = toH (M 1) 5 := by rw [hT4, ups_cell (by decide), hTb, ups_cell (by decide), hT3]; funext q; exact if_neg (by omega)
            have e7 : toH (M4 1) 7 = toH (M 1) 7 := by rw [hT4, ups_cell (by decide), hTb, ups_cell (by decide), hT3]; funext q; exact if_neg (by omega)
            rw [e5, e7, h45 7 (by decide), h34 7 (by decide), h3c 7 (by decide), h17 r hr]
          rw [eG]
          refine G_now (K := mX5_hour) 7 k dX5_hour_126 (by omega) (by omega) rfl (fun M5 hT5 h56 => ?_)
          refine G_sipush (K := mX5_hour) (v := 300) dX5_hour_127 (by decide) ?_
          refine G_aload_n (K := mX5_hour) (i := 0) dX5_hour_130 rfl rfl ?_
          refine G_iload_n (K := mX5_hour) (i := 2) dX5_hour_131 rfl rfl ?_
          refine G_iconst (K := mX5_hour) (v := 1) dX5_hour_132 (by decide) ?_
          refine G_cv (K := mX5_hour) (c_X5_roomIs (M := M5) (i := k) (f := 1) (by omega) (by omega) ⟨rfl, rfl⟩) vX5_roomIs rfl lX5_120 dX5_hour_133 ⟨_, _, _, rfl, rfl, rfl⟩ (by decide) rfl (Nat.le_of_ble_eq_true rfl) ?_
          have e2 : toH (M5 1) (1 + 1) k = toH (M 1) 2 k := by rw [hT5, ups_cell (by decide), hT4, ups_cell (by decide), hTb, ups_cell (by decide), hT3]; exact if_neg (by omega)
          rw [e2]
          refine G_bipush (K := mX5_hour) (v := 15) dX5_hour_136 (by decide) ?_
          refine G_aload_n (K := mX5_hour) (i := 0) dX5_hour_138 rfl rfl ?_
          refine G_iload_n (K := mX5_hour) (i := 2) dX5_hour_139 rfl rfl ?_
          refine G_bipush (K := mX5_hour) (v := 7) dX5_hour_140 (by decide) ?_
          refine G_cv (K := mX5_hour) (c_X5_roomIs (M := M5) (i := k) (f := 7) (by omega) (by omega) ⟨rfl, rfl⟩) vX5_roomIs rfl lX5_120 dX5_hour_142 ⟨_, _, _, rfl, rfl, rfl⟩ (by decide) rfl (Nat.le_of_ble_eq_true rfl) ?_
          have e8 : toH (M5 1) (1 + 7) k = gotH (toH (M 1)) i k := by rw [hT5, ups_same]
          rw [e8]
          refine G_imul (K := mX5_hour) dX5_hour_145 ?_
          refine G_iadd (K := mX5_hour) dX5_hour_146 ?_
          refine G_min (K := mX5_hour) qX5_123 dX5_hour_147 (by decide) (Nat.le_of_ble_eq_true rfl) ?_
          have eW : (if toH (M 1) 2 k + 15 * gotH (toH (M 1)) i k < 300 then toH (M 1) 2 k + 15 * gotH (toH (M 1)) i k else 300) = minI 300 (toH (M 1) 2 k + 15 * gotH (toH (M 1)) i k) := rfl
          rw [eW]
          have eO : M5 1 1 = toH (M 1) 0 1 := by
            rw [← toH_out (M5 1), hT5, ups_cell (by decide), hT4, ups_cell (by decide), hTb, ups_cell (by decide), hT3]
            exact if_neg (by omega)
          have e4 : toH (M5 1) (1 + 3) k = toH (M 1) 4 k := by rw [hT5, ups_cell (by decide), hT4, ups_cell (by decide), hTb, ups_cell (by decide), hT3]; exact if_neg (by omega)
          refine G_istore_n (K := mX5_hour) (i := 3) dX5_hour_150 rfl (by decide) ?_
          refine G_aload_n (K := mX5_hour) (i := 0) dX5_hour_151 rfl rfl ?_
          refine G_getr (K := mX5_hour) fX5_9 dX5_hour_152 rfl rfl ?_
          refine G_iload_n (K := mX5_hour) (i := 2) dX5_hour_155 rfl rfl ?_
          refine G_iconst (K := mX5_hour) (v := 1) dX5_hour_156 (by decide) ?_
          refine G_sv (K := mX5_hour) (c_X5_at (i := k) (f := 1) (by omega) (by omega) ⟨rfl, rfl⟩) sX5_at rfl lX5_101 dX5_hour_157 (by decide) rfl (Nat.le_of_ble_eq_true rfl) ?_
          refine G_iload_n (K := mX5_hour) (i := 3) dX5_hour_160 rfl rfl ?_
          refine G_aload_n (K := mX5_hour) (i := 0) dX5_hour_161 rfl rfl ?_
          refine G_getr (K := mX5_hour) fX5_9 dX5_hour_162 rfl rfl ?_
          refine G_iconst (K := mX5_hour) (v := 1) dX5_hour_165 (by decide) ?_
          refine G_ld (K := mX5_hour) 1 dX5_hour_166 rfl rfl (by omega) (by decide) ?_
          rw [eO]
          refine G_iload_n (K := mX5_hour) (i := 3) dX5_hour_167 rfl rfl ?_
          refine G_icmp_ge (K := mX5_hour) (tgt := 189) dX5_hour_168 (by decide) (fun c168 => ?_) (fun c168 => ?_)
          · skip
            refine G_iconst (K := mX5_hour) (v := 0) dX5_hour_189 (by decide) ?_
            refine G_isub (K := mX5_hour) dX5_hour_190 ?_
            refine G_now (K := mX5_hour) 1 k dX5_hour_191 (by omega) (by omega) rfl (fun M6 hT6 h67 => ?_)
            refine G_iincN (K := mX5_hour) dX5_hour_192 (by decide) rfl ?_
            refine G_goto (K := mX5_hour) (tgt := 65) dX5_hour_195 (by decide) ?_
            refine ih2 (k + 1) (by omega) (by omega) _ (fun c hc => by rw [h67 c hc, h56 c hc, h45 c hc, h34 c hc]; exact h3c c hc) ?_ _
            rw [hT6, hT5, hT4, hTb]
            have eL : minI 300 (toH (M 1) 2 k + 15 * gotH (toH (M 1)) i k) - 0 = warmH (toH (M 1)) i k := by
              unfold warmH lossF
              rw [if_neg (Int32.not_lt.mpr c168)]
            rw [eL]
            exact hourP_s (by omega) hT3
          · skip
            refine G_iload_n (K := mX5_hour) (i := 3) dX5_hour_171 rfl rfl ?_
            refine G_aload_n (K := mX5_hour) (i := 0) dX5_hour_172 rfl rfl ?_
            refine G_getr (K := mX5_hour) fX5_9 dX5_hour_173 rfl rfl ?_
            refine G_iconst (K := mX5_hour) (v := 1) dX5_hour_176 (by decide) ?_
            refine G_ld (K := mX5_hour) 1 dX5_hour_177 rfl rfl (by omega) (by decide) ?_
            rw [eO]
            refine G_isub (K := mX5_hour) dX5_hour_178 ?_
            refine G_aload_n (K := mX5_hour) (i := 0) dX5_hour_179 rfl rfl ?_
            refine G_iload_n (K := mX5_hour) (i := 2) dX5_hour_180 rfl rfl ?_
            refine G_iconst (K := mX5_hour) (v := 3) dX5_hour_181 (by decide) ?_
            refine G_cv (K := mX5_hour) (c_X5_roomIs (M := M5) (i := k) (f := 3) (by omega) (by omega) ⟨rfl, rfl⟩) vX5_roomIs rfl lX5_120 dX5_hour_182 ⟨_, _, _, rfl, rfl, rfl⟩ (by decide) rfl (Nat.le_of_ble_eq_true rfl) ?_
            rw [e4]
            refine G_idiv (K := mX5_hour) dX5_hour_185 (fun e => absurd (hw k (by omega)) (by rw [e]; decide)) ?_
            refine G_goto (K := mX5_hour) (tgt := 190) dX5_hour_186 (by decide) ?_
            refine G_isub (K := mX5_hour) dX5_hour_190 ?_
            refine G_now (K := mX5_hour) 1 k dX5_hour_191 (by omega) (by omega) rfl (fun M6 hT6 h67 => ?_)
            refine G_iincN (K := mX5_hour) dX5_hour_192 (by decide) rfl ?_
            refine G_goto (K := mX5_hour) (tgt := 65) dX5_hour_195 (by decide) ?_
            refine ih2 (k + 1) (by omega) (by omega) _ (fun c hc => by rw [h67 c hc, h56 c hc, h45 c hc, h34 c hc]; exact h3c c hc) ?_ _
            rw [hT6, hT5, hT4, hTb]
            have eL : minI 300 (toH (M 1) 2 k + 15 * gotH (toH (M 1)) i k) - (minI 300 (toH (M 1) 2 k + 15 * gotH (toH (M 1)) i k) - toH (M 1) 0 1) / toH (M 1) 4 k = warmH (toH (M 1)) i k := by
              unfold warmH lossF
              rw [if_pos (Int32.not_le.mp c168)]
            rw [eL]
            exact hourP_s (by omega) hT3
      exact loop65 0 (by omega) M1 (fun _ _ => rfl) (by rw [hourP_0, eT]) _
    · skip
      rw [hn1, le_nn (by omega) (by omega)] at c11
      refine G_aload_n (K := mX5_hour) (i := 0) dX5_hour_14 rfl rfl ?_
      refine G_getr (K := mX5_hour) fX5_28 dX5_hour_15 rfl rfl ?_
      refine G_iload_n (K := mX5_hour) (i := 2) dX5_hour_18 rfl rfl ?_
      refine G_aload_n (K := mX5_hour) (i := 0) dX5_hour_19 rfl rfl ?_
      refine G_iload_n (K := mX5_hour) (i := 2) dX5_hour_20 rfl rfl ?_
      refine G_iconst (K := mX5_hour) (v := 5) dX5_hour_21 (by decide) ?_
      refine G_cv (K := mX5_hour) (c_X5_roomIs (M := M1) (i := i) (f := 5) (by omega) (by omega) ⟨rfl, rfl⟩) vX5_roomIs rfl lX5_120 dX5_hour_22 ⟨_, _, _, rfl, rfl, rfl⟩ (by decide) rfl (Nat.le_of_ble_eq_true rfl) ?_
      refine G_iconst (K := mX5_hour) (v := 1) dX5_hour_25 (by decide) ?_
      refine G_icmp_ne (K := mX5_hour) (tgt := 33) dX5_hour_26 (by decide) (fun c26 => ?_) (fun c26 => ?_)
      · skip
        refine G_aload_n (K := mX5_hour) (i := 0) dX5_hour_33 rfl rfl ?_
        refine G_iload_n (K := mX5_hour) (i := 2) dX5_hour_34 rfl rfl ?_
        refine G_cv (K := mX5_hour) (c_X5_wants (M := M1) (i := i) (by omega) ⟨rfl, rfl⟩) vX5_wants rfl lX5_131 dX5_hour_35 ⟨_, _, _, rfl, rfl, rfl⟩ (by decide) rfl (Nat.le_of_ble_eq_true rfl) ?_
        refine G_aload_n (K := mX5_hour) (i := 0) dX5_hour_38 rfl rfl ?_
        refine G_iload_n (K := mX5_hour) (i := 2) dX5_hour_39 rfl rfl ?_
        refine G_iconst (K := mX5_hour) (v := 2) dX5_hour_40 (by decide) ?_
        refine G_cv (K := mX5_hour) (c_X5_roomIs (M := M1) (i := i) (f := 2) (by omega) (by omega) ⟨rfl, rfl⟩) vX5_roomIs rfl lX5_120 dX5_hour_41 ⟨_, _, _, rfl, rfl, rfl⟩ (by decide) rfl (Nat.le_of_ble_eq_true rfl) ?_
        refine G_min (K := mX5_hour) qX5_123 dX5_hour_44 (by decide) (Nat.le_of_ble_eq_true rfl) ?_
        refine G_sto (K := mX5_hour) _ dX5_hour_47 rfl rfl (by omega) (by decide) ?_
        refine G_iload_n (K := mX5_hour) (i := 1) dX5_hour_48 rfl rfl ?_
        refine G_aload_n (K := mX5_hour) (i := 0) dX5_hour_49 rfl rfl ?_
        refine G_getr (K := mX5_hour) fX5_28 dX5_hour_50 rfl rfl ?_
        refine G_iload_n (K := mX5_hour) (i := 2) dX5_hour_53 rfl rfl ?_
        refine G_ld (K := mX5_hour) _ dX5_hour_54 rfl rfl (by omega) (by decide) ?_
        refine G_iadd (K := mX5_hour) dX5_hour_55 ?_
        refine G_istore_n (K := mX5_hour) (i := 1) dX5_hour_56 rfl (by decide) ?_
        refine G_iincN (K := mX5_hour) dX5_hour_57 (by decide) rfl ?_
        refine G_goto (K := mX5_hour) (tgt := 4) dX5_hour_60 (by decide) ?_
        rw [ups_same]
        have eS : (if toH (M1 1) (1 + 2) i < wantsH (toH (M1 1)) i then toH (M1 1) (1 + 2) i else wantsH (toH (M1 1)) i) = stokeH (toH (M 1)) i := by
          rw [← eT]
          exact (if_neg c26).symm
        rw [eS]
        exact ih (i + 1) (by omega) (by omega) _ (by rw [hs2]; rfl) _ (fun c hc => (ups_cell hc).trans (h1c c hc)) (fun r hr => by
          by_cases hri : r = i
          · subst hri; rw [ups_same]
          · rw [ups_ne (fun z => hri z.2)]; exact h17 r (by omega)) _
      · skip
        refine G_iconst (K := mX5_hour) (v := 0) dX5_hour_29 (by decide) ?_
        refine G_goto (K := mX5_hour) (tgt := 47) dX5_hour_30 (by decide) ?_
        refine G_sto (K := mX5_hour) _ dX5_hour_47 rfl rfl (by omega) (by decide) ?_
        refine G_iload_n (K := mX5_hour) (i := 1) dX5_hour_48 rfl rfl ?_
        refine G_aload_n (K := mX5_hour) (i := 0) dX5_hour_49 rfl rfl ?_
        refine G_getr (K := mX5_hour) fX5_28 dX5_hour_50 rfl rfl ?_
        refine G_iload_n (K := mX5_hour) (i := 2) dX5_hour_53 rfl rfl ?_
        refine G_ld (K := mX5_hour) _ dX5_hour_54 rfl rfl (by omega) (by decide) ?_
        refine G_iadd (K := mX5_hour) dX5_hour_55 ?_
        refine G_istore_n (K := mX5_hour) (i := 1) dX5_hour_56 rfl (by decide) ?_
        refine G_iincN (K := mX5_hour) dX5_hour_57 (by decide) rfl ?_
        refine G_goto (K := mX5_hour) (tgt := 4) dX5_hour_60 (by decide) ?_
        rw [ups_same]
        have eS : (0 : Int32) = stokeH (toH (M 1)) i := by
          rw [← eT]
          exact (if_pos c26).symm
        rw [eS]
        exact ih (i + 1) (by omega) (by omega) _ (by rw [hs2]; rfl) _ (fun c hc => (ups_cell hc).trans (h1c c hc)) (fun r hr => by
          by_cases hri : r = i
          · subst hri; rw [ups_same]
          · rw [ups_ne (fun z => hri z.2)]; exact h17 r (by omega)) _
  exact loop4 0 (by omega) _ rfl M (fun _ _ => rfl) (fun r hr => absurd hr (by omega)) _
