def hasI (M : Mem) (r : Int32) : Int32 := if r < 0 then 0 else if M 0 0 ≤ r then 0 else 1
theorem hasI_0 {M : Mem} {r : Int32} {n : Nat} (hn : M 0 0 = nI n) (hn8 : n ≤ 8) (h : ¬ hasI M r = 0) : ∃ k, k < n ∧ r = nI k := by
  unfold hasI at h
  by_cases h1 : r < 0
  · rw [if_pos h1] at h; exact absurd rfl h
  · rw [if_neg h1] at h
    by_cases h2 : M 0 0 ≤ r
    · rw [if_pos h2] at h; exact absurd rfl h
    · rw [hn] at h2
      exact nI_of_has (by omega) h1 h2
theorem hasI_1 {M : Mem} {n k : Nat} (hn : M 0 0 = nI n) (hn8 : n ≤ 8) (hk : k < n) : hasI M (nI k) = 1 := by
  unfold hasI
  rw [if_neg (nI_pos (by omega)), hn, if_neg (by rw [le_nn (by omega) (by omega)]; omega)]
theorem hasI_n {M : Mem} {r : Int32} {n : Nat} (hn : M 0 0 = nI n) (hn8 : n ≤ 8) (h : hasI M r = 0) : ∀ k, k < n → r ≠ nI k := by
  rintro k hk rfl
  rw [hasI_1 hn hn8 hk] at h
  exact absurd h (by decide)
set_option maxRecDepth 20000 in
theorem c_X0_has {M : Mem} {r : Int32} {Q : Option Value → Mem → Prop} (hQ : Q (some (.int (hasI M r))) M) : CT mX0_has shH 0 [.ref 0, .int r] M Q := by
  refine CT.mk [some (.ref 0), some (.int r)] (by decide) (Nat.le_of_ble_eq_true rfl) rfl rfl ?_
  refine G_iload_n (K := mX0_has) (i := 1) dX0_has_0 rfl rfl ?_
  refine G_if_lt (K := mX0_has) (tgt := 16) dX0_has_1 (by decide) (fun c1 => ?_) (fun c1 => ?_)
  · skip
    refine G_iconst (K := mX0_has) (v := 0) dX0_has_16 (by decide) ?_
    exact G_zrm (K := mX0_has) dX0_has_17 rfl rfl (by simp [hasI, *]) (by rfl) hQ
  · skip
    refine G_iload_n (K := mX0_has) (i := 1) dX0_has_4 rfl rfl ?_
    refine G_aload_n (K := mX0_has) (i := 0) dX0_has_5 rfl rfl ?_
    refine G_geti (K := mX0_has) fX0_55 dX0_has_6 rfl rfl ?_
    refine G_icmp_ge (K := mX0_has) (tgt := 16) dX0_has_9 (by decide) (fun c9 => ?_) (fun c9 => ?_)
    · skip
      refine G_iconst (K := mX0_has) (v := 0) dX0_has_16 (by decide) ?_
      exact G_zrm (K := mX0_has) dX0_has_17 rfl rfl (by simp [hasI, *]) (by rfl) hQ
    · skip
      refine G_iconst (K := mX0_has) (v := 1) dX0_has_12 (by decide) ?_
      refine G_goto (K := mX0_has) (tgt := 17) dX0_has_13 (by decide) ?_
      exact G_zrm (K := mX0_has) dX0_has_17 rfl rfl (by simp [hasI, *]) (by rfl) hQ

set_option maxRecDepth 20000 in
theorem c_X0_sumOf {M : Mem} {c : Nat} (hc1 : 1 ≤ c) (hc2 : c < 10) {n : Nat} (hn : M 0 0 = nI n) (hn8 : n ≤ 8) {Q : Option Value → Mem → Prop} (hQ : Q (some (.int (sumN (M c) n))) M) : CT mX0_sumOf shH 0 [.ref 0, .ref c] M Q := by
  refine CT.mk [some (.ref 0), some (.ref c), none, none] (by decide) (Nat.le_of_ble_eq_true rfl) rfl rfl ?_
  have hs : shH[c]? = some (.inr (.inl 8)) := by
    have h : c = 1 ∨ c = 2 ∨ c = 3 ∨ c = 4 ∨ c = 5 ∨ c = 6 ∨ c = 7 ∨ c = 8 ∨ c = 9 := by omega
    rcases h with rfl | rfl | rfl | rfl | rfl | rfl | rfl | rfl | rfl <;> rfl
  refine G_iconst (K := mX0_sumOf) (v := 0) dX0_sumOf_0 (by decide) ?_
  refine G_istore_n (K := mX0_sumOf) (i := 2) dX0_sumOf_1 rfl (by decide) ?_
  refine G_iconst (K := mX0_sumOf) (v := 0) dX0_sumOf_2 (by decide) ?_
  refine G_istore_n (K := mX0_sumOf) (i := 3) dX0_sumOf_3 rfl (by decide) ?_
  have loop4 : ∀ i, i ≤ n → ∀ s, s = sumN (M c) i → G mX0_sumOf shH 0 Q 4 [some (.ref 0), some (.ref c), some (.int s), some (.int (nI i))] [] M := by
    refine upto n (fun i hi ih => ?_)
    intro s hs2
    refine G_iload_n (K := mX0_sumOf) (i := 3) dX0_sumOf_4 rfl rfl ?_
    refine G_aload_n (K := mX0_sumOf) (i := 0) dX0_sumOf_5 rfl rfl ?_
    refine G_geti (K := mX0_sumOf) fX0_55 dX0_sumOf_6 rfl rfl ?_
    refine G_icmp_ge (K := mX0_sumOf) (tgt := 24) dX0_sumOf_9 (by decide) (fun c9 => ?_) (fun c9 => ?_)
    · skip
      rw [hn, le_nn (by omega) (by omega)] at c9
      have hin : i = n := by omega
      subst hin
      refine G_iload_n (K := mX0_sumOf) (i := 2) dX0_sumOf_24 rfl rfl ?_
      exact G_irm (K := mX0_sumOf) dX0_sumOf_25 rfl (by exact hs2) (by rfl) hQ
    · skip
      rw [hn, le_nn (by omega) (by omega)] at c9
      refine G_iload_n (K := mX0_sumOf) (i := 2) dX0_sumOf_12 rfl rfl ?_
      refine G_aload_n (K := mX0_sumOf) (i := 1) dX0_sumOf_13 rfl rfl ?_
      refine G_iload_n (K := mX0_sumOf) (i := 3) dX0_sumOf_14 rfl rfl ?_
      refine G_ld (K := mX0_sumOf) _ dX0_sumOf_15 hs rfl (by omega) (by decide) ?_
      refine G_iadd (K := mX0_sumOf) dX0_sumOf_16 ?_
      refine G_istore_n (K := mX0_sumOf) (i := 2) dX0_sumOf_17 rfl (by decide) ?_
      refine G_iincN (K := mX0_sumOf) dX0_sumOf_18 (by decide) rfl ?_
      refine G_goto (K := mX0_sumOf) (tgt := 4) dX0_sumOf_21 (by decide) ?_
      exact ih (i + 1) (by omega) (by omega) _ (by rw [hs2]; rfl)
  exact loop4 0 (by omega) _ rfl

set_option maxRecDepth 20000 in
theorem c_X0_coldRooms {M : Mem} {n : Nat} (hn : M 0 0 = nI n) (hn8 : n ≤ 8) {Q : Option Value → Mem → Prop} (hQ : Q (some (.int (bits (fun i => decide (M 2 i < 60)) n))) M) : CT mX0_coldRooms shH 0 [.ref 0] M Q := by
  refine CT.mk [some (.ref 0), none, none] (by decide) (Nat.le_of_ble_eq_true rfl) rfl rfl ?_
  refine G_iconst (K := mX0_coldRooms) (v := 0) dX0_coldRooms_0 (by decide) ?_
  refine G_istore_n (K := mX0_coldRooms) (i := 1) dX0_coldRooms_1 rfl (by decide) ?_
  refine G_iconst (K := mX0_coldRooms) (v := 0) dX0_coldRooms_2 (by decide) ?_
  refine G_istore_n (K := mX0_coldRooms) (i := 2) dX0_coldRooms_3 rfl (by decide) ?_
  have loop4 : ∀ i, i ≤ n → ∀ s, s = bits (fun i => decide (M 2 i < 60)) i → G mX0_coldRooms shH 0 Q 4 [some (.ref 0), some (.int s), some (.int (nI i))] [] M := by
    refine upto n (fun i hi ih => ?_)
    intro s hs2
    refine G_iload_n (K := mX0_coldRooms) (i := 2) dX0_coldRooms_4 rfl rfl ?_
    refine G_aload_n (K := mX0_coldRooms) (i := 0) dX0_coldRooms_5 rfl rfl ?_
    refine G_geti (K := mX0_coldRooms) fX0_55 dX0_coldRooms_6 rfl rfl ?_
    refine G_icmp_ge (K := mX0_coldRooms) (tgt := 35) dX0_coldRooms_9 (by decide) (fun c9 => ?_) (fun c9 => ?_)
    · skip
      rw [hn, le_nn (by omega) (by omega)] at c9
      have hin : i = n := by omega
      subst hin
      refine G_iload_n (K := mX0_coldRooms) (i := 1) dX0_coldRooms_35 rfl rfl ?_
      exact G_irm (K := mX0_coldRooms) dX0_coldRooms_36 rfl (by exact hs2) (by rfl) hQ
    · skip
      rw [hn, le_nn (by omega) (by omega)] at c9
      refine G_aload_n (K := mX0_coldRooms) (i := 0) dX0_coldRooms_12 rfl rfl ?_
      refine G_getr (K := mX0_coldRooms) fX0_22 dX0_coldRooms_13 rfl rfl ?_
      refine G_iload_n (K := mX0_coldRooms) (i := 2) dX0_coldRooms_16 rfl rfl ?_
      refine G_ld (K := mX0_coldRooms) _ dX0_coldRooms_17 rfl rfl (by omega) (by decide) ?_
      refine G_bipush (K := mX0_coldRooms) (v := 60) dX0_coldRooms_18 (by decide) ?_
      refine G_icmp_ge (K := mX0_coldRooms) (tgt := 29) dX0_coldRooms_20 (by decide) (fun c20 => ?_) (fun c20 => ?_)
      · skip
        refine G_iincN (K := mX0_coldRooms) dX0_coldRooms_29 (by decide) rfl ?_
        refine G_goto (K := mX0_coldRooms) (tgt := 4) dX0_coldRooms_32 (by decide) ?_
        exact ih (i + 1) (by omega) (by omega) _ (by first | (rw [bits_t (decide_eq_true (Int32.not_le.mp c20)), hs2]; rfl) | (rw [bits_f (by rw [decide_eq_true_iff]; exact (Int32.not_lt.mpr c20))]; exact hs2))
      · skip
        refine G_iload_n (K := mX0_coldRooms) (i := 1) dX0_coldRooms_23 rfl rfl ?_
        refine G_iconst (K := mX0_coldRooms) (v := 1) dX0_coldRooms_24 (by decide) ?_
        refine G_iload_n (K := mX0_coldRooms) (i := 2) dX0_coldRooms_25 rfl rfl ?_
        refine G_ishl (K := mX0_coldRooms) dX0_coldRooms_26 ?_
        refine G_ior (K := mX0_coldRooms) dX0_coldRooms_27 ?_
        refine G_istore_n (K := mX0_coldRooms) (i := 1) dX0_coldRooms_28 rfl (by decide) ?_
        refine G_iincN (K := mX0_coldRooms) dX0_coldRooms_29 (by decide) rfl ?_
        refine G_goto (K := mX0_coldRooms) (tgt := 4) dX0_coldRooms_32 (by decide) ?_
        exact ih (i + 1) (by omega) (by omega) _ (by first | (rw [bits_t (decide_eq_true (Int32.not_le.mp c20)), hs2]; rfl) | (rw [bits_f (by rw [decide_eq_true_iff]; exact (Int32.not_lt.mpr c20))]; exact hs2))
  exact loop4 0 (by omega) _ rfl

set_option maxRecDepth 20000 in
theorem c_X0_awayRooms {M : Mem} {n : Nat} (hn : M 0 0 = nI n) (hn8 : n ≤ 8) {Q : Option Value → Mem → Prop} (hQ : Q (some (.int (bits (fun i => decide (M 6 i = 1)) n))) M) : CT mX0_awayRooms shH 0 [.ref 0] M Q := by
  refine CT.mk [some (.ref 0), none, none] (by decide) (Nat.le_of_ble_eq_true rfl) rfl rfl ?_
  refine G_iconst (K := mX0_awayRooms) (v := 0) dX0_awayRooms_0 (by decide) ?_
  refine G_istore_n (K := mX0_awayRooms) (i := 1) dX0_awayRooms_1 rfl (by decide) ?_
  refine G_iconst (K := mX0_awayRooms) (v := 0) dX0_awayRooms_2 (by decide) ?_
  refine G_istore_n (K := mX0_awayRooms) (i := 2) dX0_awayRooms_3 rfl (by decide) ?_
  have loop4 : ∀ i, i ≤ n → ∀ s, s = bits (fun i => decide (M 6 i = 1)) i → G mX0_awayRooms shH 0 Q 4 [some (.ref 0), some (.int s), some (.int (nI i))] [] M := by
    refine upto n (fun i hi ih => ?_)
    intro s hs2
    refine G_iload_n (K := mX0_awayRooms) (i := 2) dX0_awayRooms_4 rfl rfl ?_
    refine G_aload_n (K := mX0_awayRooms) (i := 0) dX0_awayRooms_5 rfl rfl ?_
    refine G_geti (K := mX0_awayRooms) fX0_55 dX0_awayRooms_6 rfl rfl ?_
    refine G_icmp_ge (K := mX0_awayRooms) (tgt := 34) dX0_awayRooms_9 (by decide) (fun c9 => ?_) (fun c9 => ?_)
    · skip
      rw [hn, le_nn (by omega) (by omega)] at c9
      have hin : i = n := by omega
      subst hin
      refine G_iload_n (K := mX0_awayRooms) (i := 1) dX0_awayRooms_34 rfl rfl ?_
      exact G_irm (K := mX0_awayRooms) dX0_awayRooms_35 rfl (by exact hs2) (by rfl) hQ
    · skip
      rw [hn, le_nn (by omega) (by omega)] at c9
      refine G_aload_n (K := mX0_awayRooms) (i := 0) dX0_awayRooms_12 rfl rfl ?_
      refine G_getr (K := mX0_awayRooms) fX0_34 dX0_awayRooms_13 rfl rfl ?_
      refine G_iload_n (K := mX0_awayRooms) (i := 2) dX0_awayRooms_16 rfl rfl ?_
      refine G_ld (K := mX0_awayRooms) _ dX0_awayRooms_17 rfl rfl (by omega) (by decide) ?_
      refine G_iconst (K := mX0_awayRooms) (v := 1) dX0_awayRooms_18 (by decide) ?_
      refine G_icmp_ne (K := mX0_awayRooms) (tgt := 28) dX0_awayRooms_19 (by decide) (fun c19 => ?_) (fun c19 => ?_)
      · skip
        refine G_iincN (K := mX0_awayRooms) dX0_awayRooms_28 (by decide) rfl ?_
        refine G_goto (K := mX0_awayRooms) (tgt := 4) dX0_awayRooms_31 (by decide) ?_
        exact ih (i + 1) (by omega) (by omega) _ (by first | (rw [bits_t (decide_eq_true c19), hs2]; rfl) | (rw [bits_f (by rw [decide_eq_true_iff]; exact c19)]; exact hs2))
      · skip
        refine G_iload_n (K := mX0_awayRooms) (i := 1) dX0_awayRooms_22 rfl rfl ?_
        refine G_iconst (K := mX0_awayRooms) (v := 1) dX0_awayRooms_23 (by decide) ?_
        refine G_iload_n (K := mX0_awayRooms) (i := 2) dX0_awayRooms_24 rfl rfl ?_
        refine G_ishl (K := mX0_awayRooms) dX0_awayRooms_25 ?_
        refine G_ior (K := mX0_awayRooms) dX0_awayRooms_26 ?_
        refine G_istore_n (K := mX0_awayRooms) (i := 1) dX0_awayRooms_27 rfl (by decide) ?_
        refine G_iincN (K := mX0_awayRooms) dX0_awayRooms_28 (by decide) rfl ?_
        refine G_goto (K := mX0_awayRooms) (tgt := 4) dX0_awayRooms_31 (by decide) ?_
        exact ih (i + 1) (by omega) (by omega) _ (by first | (rw [bits_t (decide_eq_true c19), hs2]; rfl) | (rw [bits_f (by rw [decide_eq_true_iff]; exact c19)]; exact hs2))
  exact loop4 0 (by omega) _ rfl

set_option maxRecDepth 20000 in
theorem c_X0_warmerThan {M : Mem} {n : Nat} (hn : M 0 0 = nI n) (hn8 : n ≤ 8) {Q : Option Value → Mem → Prop} (hQ : Q (some (.int (bits (fun i => decide (M 13 i < M 2 i)) n))) M) : CT mX0_warmerThan shH2 0 [.ref 0, .ref 11] M Q := by
  refine CT.mk [some (.ref 0), some (.ref 11), none, none] (by decide) (Nat.le_of_ble_eq_true rfl) rfl rfl ?_
  refine G_iconst (K := mX0_warmerThan) (v := 0) dX0_warmerThan_0 (by decide) ?_
  refine G_istore_n (K := mX0_warmerThan) (i := 2) dX0_warmerThan_1 rfl (by decide) ?_
  refine G_iconst (K := mX0_warmerThan) (v := 0) dX0_warmerThan_2 (by decide) ?_
  refine G_istore_n (K := mX0_warmerThan) (i := 3) dX0_warmerThan_3 rfl (by decide) ?_
  have loop4 : ∀ i, i ≤ n → ∀ s, s = bits (fun i => decide (M 13 i < M 2 i)) i → G mX0_warmerThan shH2 0 Q 4 [some (.ref 0), some (.ref 11), some (.int s), some (.int (nI i))] [] M := by
    refine upto n (fun i hi ih => ?_)
    intro s hs2
    refine G_iload_n (K := mX0_warmerThan) (i := 3) dX0_warmerThan_4 rfl rfl ?_
    refine G_aload_n (K := mX0_warmerThan) (i := 0) dX0_warmerThan_5 rfl rfl ?_
    refine G_geti (K := mX0_warmerThan) fX0_55 dX0_warmerThan_6 rfl rfl ?_
    refine G_icmp_ge (K := mX0_warmerThan) (tgt := 39) dX0_warmerThan_9 (by decide) (fun c9 => ?_) (fun c9 => ?_)
    · skip
      rw [hn, le_nn (by omega) (by omega)] at c9
      have hin : i = n := by omega
      subst hin
      refine G_iload_n (K := mX0_warmerThan) (i := 2) dX0_warmerThan_39 rfl rfl ?_
      exact G_irm (K := mX0_warmerThan) dX0_warmerThan_40 rfl (by exact hs2) (by rfl) hQ
    · skip
      rw [hn, le_nn (by omega) (by omega)] at c9
      refine G_aload_n (K := mX0_warmerThan) (i := 0) dX0_warmerThan_12 rfl rfl ?_
      refine G_getr (K := mX0_warmerThan) fX0_22 dX0_warmerThan_13 rfl rfl ?_
      refine G_iload_n (K := mX0_warmerThan) (i := 3) dX0_warmerThan_16 rfl rfl ?_
      refine G_ld (K := mX0_warmerThan) _ dX0_warmerThan_17 rfl rfl (by omega) (by decide) ?_
      refine G_aload_n (K := mX0_warmerThan) (i := 1) dX0_warmerThan_18 rfl rfl ?_
      refine G_getr (K := mX0_warmerThan) fX0_22 dX0_warmerThan_19 rfl rfl ?_
      refine G_iload_n (K := mX0_warmerThan) (i := 3) dX0_warmerThan_22 rfl rfl ?_
      refine G_ld (K := mX0_warmerThan) _ dX0_warmerThan_23 rfl rfl (by omega) (by decide) ?_
      refine G_icmp_le (K := mX0_warmerThan) (tgt := 33) dX0_warmerThan_24 (by decide) (fun c24 => ?_) (fun c24 => ?_)
      · skip
        refine G_iincN (K := mX0_warmerThan) dX0_warmerThan_33 (by decide) rfl ?_
        refine G_goto (K := mX0_warmerThan) (tgt := 4) dX0_warmerThan_36 (by decide) ?_
        exact ih (i + 1) (by omega) (by omega) _ (by first | (rw [bits_t (decide_eq_true (Int32.not_le.mp c24)), hs2]; rfl) | (rw [bits_f (by rw [decide_eq_true_iff]; exact (Int32.not_lt.mpr c24))]; exact hs2))
      · skip
        refine G_iload_n (K := mX0_warmerThan) (i := 2) dX0_warmerThan_27 rfl rfl ?_
        refine G_iconst (K := mX0_warmerThan) (v := 1) dX0_warmerThan_28 (by decide) ?_
        refine G_iload_n (K := mX0_warmerThan) (i := 3) dX0_warmerThan_29 rfl rfl ?_
        refine G_ishl (K := mX0_warmerThan) dX0_warmerThan_30 ?_
        refine G_ior (K := mX0_warmerThan) dX0_warmerThan_31 ?_
        refine G_istore_n (K := mX0_warmerThan) (i := 2) dX0_warmerThan_32 rfl (by decide) ?_
        refine G_iincN (K := mX0_warmerThan) dX0_warmerThan_33 (by decide) rfl ?_
        refine G_goto (K := mX0_warmerThan) (tgt := 4) dX0_warmerThan_36 (by decide) ?_
        exact ih (i + 1) (by omega) (by omega) _ (by first | (rw [bits_t (decide_eq_true (Int32.not_le.mp c24)), hs2]; rfl) | (rw [bits_f (by rw [decide_eq_true_iff]; exact (Int32.not_lt.mpr c24))]; exact hs2))
  exact loop4 0 (by omega) _ rfl

set_option maxRecDepth 20000 in
theorem c_X0_heatersOf {M : Mem} {r : Int32} {n : Nat} (hn : M 0 0 = nI n) (hn8 : n ≤ 8) {Q : Option Value → Mem → Prop} (hQ : Q (some (.int (bits (fun i => decide (M 5 i = r)) n))) M) : CT mX0_heatersOf shH 0 [.ref 0, .int r] M Q := by
  refine CT.mk [some (.ref 0), some (.int r), none, none] (by decide) (Nat.le_of_ble_eq_true rfl) rfl rfl ?_
  refine G_iconst (K := mX0_heatersOf) (v := 0) dX0_heatersOf_0 (by decide) ?_
  refine G_istore_n (K := mX0_heatersOf) (i := 2) dX0_heatersOf_1 rfl (by decide) ?_
  refine G_iconst (K := mX0_heatersOf) (v := 0) dX0_heatersOf_2 (by decide) ?_
  refine G_istore_n (K := mX0_heatersOf) (i := 3) dX0_heatersOf_3 rfl (by decide) ?_
  have loop4 : ∀ i, i ≤ n → ∀ s, s = bits (fun i => decide (M 5 i = r)) i → G mX0_heatersOf shH 0 Q 4 [some (.ref 0), some (.int r), some (.int s), some (.int (nI i))] [] M := by
    refine upto n (fun i hi ih => ?_)
    intro s hs2
    refine G_iload_n (K := mX0_heatersOf) (i := 3) dX0_heatersOf_4 rfl rfl ?_
    refine G_aload_n (K := mX0_heatersOf) (i := 0) dX0_heatersOf_5 rfl rfl ?_
    refine G_geti (K := mX0_heatersOf) fX0_55 dX0_heatersOf_6 rfl rfl ?_
    refine G_icmp_ge (K := mX0_heatersOf) (tgt := 34) dX0_heatersOf_9 (by decide) (fun c9 => ?_) (fun c9 => ?_)
    · skip
      rw [hn, le_nn (by omega) (by omega)] at c9
      have hin : i = n := by omega
      subst hin
      refine G_iload_n (K := mX0_heatersOf) (i := 2) dX0_heatersOf_34 rfl rfl ?_
      exact G_irm (K := mX0_heatersOf) dX0_heatersOf_35 rfl (by exact hs2) (by rfl) hQ
    · skip
      rw [hn, le_nn (by omega) (by omega)] at c9
      refine G_aload_n (K := mX0_heatersOf) (i := 0) dX0_heatersOf_12 rfl rfl ?_
      refine G_getr (K := mX0_heatersOf) fX0_31 dX0_heatersOf_13 rfl rfl ?_
      refine G_iload_n (K := mX0_heatersOf) (i := 3) dX0_heatersOf_16 rfl rfl ?_
      refine G_ld (K := mX0_heatersOf) _ dX0_heatersOf_17 rfl rfl (by omega) (by decide) ?_
      refine G_iload_n (K := mX0_heatersOf) (i := 1) dX0_heatersOf_18 rfl rfl ?_
      refine G_icmp_ne (K := mX0_heatersOf) (tgt := 28) dX0_heatersOf_19 (by decide) (fun c19 => ?_) (fun c19 => ?_)
      · skip
        refine G_iincN (K := mX0_heatersOf) dX0_heatersOf_28 (by decide) rfl ?_
        refine G_goto (K := mX0_heatersOf) (tgt := 4) dX0_heatersOf_31 (by decide) ?_
        exact ih (i + 1) (by omega) (by omega) _ (by first | (rw [bits_t (decide_eq_true c19), hs2]; rfl) | (rw [bits_f (by rw [decide_eq_true_iff]; exact c19)]; exact hs2))
      · skip
        refine G_iload_n (K := mX0_heatersOf) (i := 2) dX0_heatersOf_22 rfl rfl ?_
        refine G_iconst (K := mX0_heatersOf) (v := 1) dX0_heatersOf_23 (by decide) ?_
        refine G_iload_n (K := mX0_heatersOf) (i := 3) dX0_heatersOf_24 rfl rfl ?_
        refine G_ishl (K := mX0_heatersOf) dX0_heatersOf_25 ?_
        refine G_ior (K := mX0_heatersOf) dX0_heatersOf_26 ?_
        refine G_istore_n (K := mX0_heatersOf) (i := 2) dX0_heatersOf_27 rfl (by decide) ?_
        refine G_iincN (K := mX0_heatersOf) dX0_heatersOf_28 (by decide) rfl ?_
        refine G_goto (K := mX0_heatersOf) (tgt := 4) dX0_heatersOf_31 (by decide) ?_
        exact ih (i + 1) (by omega) (by omega) _ (by first | (rw [bits_t (decide_eq_true c19), hs2]; rfl) | (rw [bits_f (by rw [decide_eq_true_iff]; exact c19)]; exact hs2))
  exact loop4 0 (by omega) _ rfl

set_option maxRecDepth 20000 in
theorem c_X0_coldestRoom {M : Mem} {n : Nat} (hn : M 0 0 = nI n) (hn8 : n ≤ 8) {Q : Option Value → Mem → Prop} (hQ : Q (some (.int (coldN (M 2) n))) M) : CT mX0_coldestRoom shH 0 [.ref 0] M Q := by
  refine CT.mk [some (.ref 0), none, none] (by decide) (Nat.le_of_ble_eq_true rfl) rfl rfl ?_
  refine G_iconst (K := mX0_coldestRoom) (v := -1) dX0_coldestRoom_0 (by decide) ?_
  refine G_istore_n (K := mX0_coldestRoom) (i := 1) dX0_coldestRoom_1 rfl (by decide) ?_
  refine G_iconst (K := mX0_coldestRoom) (v := 0) dX0_coldestRoom_2 (by decide) ?_
  refine G_istore_n (K := mX0_coldestRoom) (i := 2) dX0_coldestRoom_3 rfl (by decide) ?_
  have loop4 : ∀ i, i ≤ n → ∀ s, s = coldN (M 2) i → G mX0_coldestRoom shH 0 Q 4 [some (.ref 0), some (.int s), some (.int (nI i))] [] M := by
    refine upto n (fun i hi ih => ?_)
    intro s hs2
    refine G_iload_n (K := mX0_coldestRoom) (i := 2) dX0_coldestRoom_4 rfl rfl ?_
    refine G_aload_n (K := mX0_coldestRoom) (i := 0) dX0_coldestRoom_5 rfl rfl ?_
    refine G_geti (K := mX0_coldestRoom) fX0_55 dX0_coldestRoom_6 rfl rfl ?_
    refine G_icmp_ge (K := mX0_coldestRoom) (tgt := 39) dX0_coldestRoom_9 (by decide) (fun c9 => ?_) (fun c9 => ?_)
    · skip
      rw [hn, le_nn (by omega) (by omega)] at c9
      have hin : i = n := by omega
      subst hin
      refine G_iload_n (K := mX0_coldestRoom) (i := 1) dX0_coldestRoom_39 rfl rfl ?_
      exact G_irm (K := mX0_coldestRoom) dX0_coldestRoom_40 rfl (by exact hs2) (by rfl) hQ
    · skip
      rw [hn, le_nn (by omega) (by omega)] at c9
      refine G_iload_n (K := mX0_coldestRoom) (i := 1) dX0_coldestRoom_12 rfl rfl ?_
      refine G_if_lt (K := mX0_coldestRoom) (tgt := 31) dX0_coldestRoom_13 (by decide) (fun c13 => ?_) (fun c13 => ?_)
      · skip
        refine G_iload_n (K := mX0_coldestRoom) (i := 2) dX0_coldestRoom_31 rfl rfl ?_
        refine G_istore_n (K := mX0_coldestRoom) (i := 1) dX0_coldestRoom_32 rfl (by decide) ?_
        refine G_iincN (K := mX0_coldestRoom) dX0_coldestRoom_33 (by decide) rfl ?_
        refine G_goto (K := mX0_coldestRoom) (tgt := 4) dX0_coldestRoom_36 (by decide) ?_
        exact ih (i + 1) (by omega) (by omega) _ (by first | (rw [hs2] at c13; exact (if_pos c13).symm) | (rw [hs2] at c13 ⊢; exact ((if_neg c13).trans (if_pos c28)).symm) | (rw [hs2] at c13; exact ((if_neg c13).trans (if_neg c28)).symm))
      · skip
        obtain ⟨j, hj, ej⟩ : ∃ j, j < i ∧ s = nI j := by
          rcases coldN_pos (M 2) i (by omega) with ⟨rfl, e⟩ | ⟨j, hj, e⟩
          · rw [hs2, e] at c13; exact absurd (by decide) c13
          · exact ⟨j, hj, hs2.trans e⟩
        refine G_aload_n (K := mX0_coldestRoom) (i := 0) dX0_coldestRoom_16 rfl rfl ?_
        refine G_getr (K := mX0_coldestRoom) fX0_22 dX0_coldestRoom_17 rfl rfl ?_
        refine G_iload_n (K := mX0_coldestRoom) (i := 2) dX0_coldestRoom_20 rfl rfl ?_
        refine G_ld (K := mX0_coldestRoom) _ dX0_coldestRoom_21 rfl rfl (by omega) (by decide) ?_
        refine G_aload_n (K := mX0_coldestRoom) (i := 0) dX0_coldestRoom_22 rfl rfl ?_
        refine G_getr (K := mX0_coldestRoom) fX0_22 dX0_coldestRoom_23 rfl rfl ?_
        refine G_iload_n (K := mX0_coldestRoom) (i := 1) dX0_coldestRoom_26 rfl rfl ?_
        refine G_ld (K := mX0_coldestRoom) j dX0_coldestRoom_27 rfl ej (by omega) (by decide) ?_
        have e28 : M 2 j = M 2 (coldN (M 2) i).toNatClampNeg := by rw [← hs2, ej, nI_clamp (by omega)]
        rw [e28]
        refine G_icmp_ge (K := mX0_coldestRoom) (tgt := 33) dX0_coldestRoom_28 (by decide) (fun c28 => ?_) (fun c28 => ?_)
        · skip
          refine G_iincN (K := mX0_coldestRoom) dX0_coldestRoom_33 (by decide) rfl ?_
          refine G_goto (K := mX0_coldestRoom) (tgt := 4) dX0_coldestRoom_36 (by decide) ?_
          exact ih (i + 1) (by omega) (by omega) _ (by first | (rw [hs2] at c13; exact (if_pos c13).symm) | (rw [hs2] at c13 ⊢; exact ((if_neg c13).trans (if_pos c28)).symm) | (rw [hs2] at c13; exact ((if_neg c13).trans (if_neg c28)).symm))
        · skip
          refine G_iload_n (K := mX0_coldestRoom) (i := 2) dX0_coldestRoom_31 rfl rfl ?_
          refine G_istore_n (K := mX0_coldestRoom) (i := 1) dX0_coldestRoom_32 rfl (by decide) ?_
          refine G_iincN (K := mX0_coldestRoom) dX0_coldestRoom_33 (by decide) rfl ?_
          refine G_goto (K := mX0_coldestRoom) (tgt := 4) dX0_coldestRoom_36 (by decide) ?_
          exact ih (i + 1) (by omega) (by omega) _ (by first | (rw [hs2] at c13; exact (if_pos c13).symm) | (rw [hs2] at c13 ⊢; exact ((if_neg c13).trans (if_pos c28)).symm) | (rw [hs2] at c13; exact ((if_neg c13).trans (if_neg c28)).symm))
  exact loop4 0 (by omega) _ rfl
