set_option maxRecDepth 20000 in
theorem c_X5_findPair {M : Mem} {n k : Nat} {f : Nat → Int32} {c : Int32} (hn : M 1 2 = nI n) (hn8 : n ≤ 8) (hk : k ≤ 1000) (hc : c = leastN (hoursH n k (toH (M 1)) 2) n) (hf : ∀ i j, i < j → j < n → f (8 * i + j) = leastN (hoursH n k (chgH (toH (M 1)) i j) 2) n) (hJ0 : HJ (toH (M 1)) n) (hJ : ∀ i j, i < j → j < n → HJ (chgH (toH (M 1)) i j) n) (hch : ∀ i j, chgH (toH (M 1)) i j 0 = toH (M 1) 0) (ho : 0 ≤ (toH (M 1) 0 1).toInt) {Q : Option Value → Mem → Prop} (hQ : ∀ M2 : Mem, pairR f n c M M2 64 → Q none M2) : CT mX5_findPair shR 7 [.ref 0, .int (nI k)] M Q := by
  refine CT.mk [some (.ref 0), some (.int (nI k)), none, none, none] (by decide) (Nat.le_of_ble_eq_true rfl) rfl rfl ?_
  refine G_aload_n (K := mX5_findPair) (i := 0) dX5_findPair_0 rfl rfl ?_
  refine G_getr (K := mX5_findPair) fX5_9 dX5_findPair_1 rfl rfl ?_
  refine G_aload_n (K := mX5_findPair) (i := 0) dX5_findPair_4 rfl rfl ?_
  refine G_getr (K := mX5_findPair) fX5_16 dX5_findPair_5 rfl rfl ?_
  refine G_sn (K := mX5_findPair) (c_X5_copyRow (a := 1) (b := 3) rfl rfl (by decide) ⟨rfl, rfl⟩) sX5_copyRow rfl lX5_93 dX5_findPair_8 (by decide) rfl (Nat.le_of_ble_eq_true rfl) ?_
  refine G_aload_n (K := mX5_findPair) (i := 0) dX5_findPair_11 rfl rfl ?_
  refine G_iload_n (K := mX5_findPair) (i := 1) dX5_findPair_12 rfl rfl ?_
  refine G_call0 (K := mX5_findPair) (Q' := fun u Mz => u = none ∧ toH (Mz 1) = toH (cpyM M 1 3 86 3) ∧ (∀ r, r < n → Mz 9 r = hoursH n k (toH (cpyM M 1 3 86 1)) 2 r) ∧ ∀ z, z ≠ 1 → z ≠ 7 → z ≠ 9 → Mz z = cpyM M 1 3 86 z) (c_X5_live (n := n) (k := k) (by rw [cpyM_c (by decide)]; exact hn) hn8 hk (by rw [cpyM_c (by decide)]; exact hJ0) (by rw [cpyM_c (by decide)]; exact ho) (fun Mz h1 h2 h3 => ⟨rfl, h1, h2, h3⟩)) vX5_live rfl lX5_194 ⟨_, _, _, rfl, rfl, rfl⟩ (by decide) (Nat.le_of_ble_eq_true rfl) dX5_findPair_13 rfl ?_
  rintro v M2 ⟨rfl, h21, h22, h23⟩
  rw [toH_cpy] at h21
  rw [cpyM_c (by decide)] at h22
  have h2n : M2 1 2 = nI n := by rw [← toH_n (M2 1), h21]; exact hn
  have h2l : mnT (M2 9) n = c := by
    rw [mnT_least (fun i hi => by rw [h22 i hi]; exact (hJ0.hours hn8 ho k i hi).1) hn8, hc]
    exact leastN_congr (by omega) h22
  refine G_aload_n (K := mX5_findPair) (i := 0) dX5_findPair_16 rfl rfl ?_
  refine G_iconst (K := mX5_findPair) (v := -1) dX5_findPair_17 (by decide) ?_
  refine G_puti (K := mX5_findPair) fX5_211 w5_11 dX5_findPair_18 rfl rfl ?_
  refine G_aload_n (K := mX5_findPair) (i := 0) dX5_findPair_21 rfl rfl ?_
  refine G_aload_n (K := mX5_findPair) (i := 0) dX5_findPair_22 rfl rfl ?_
  refine G_cv (K := mX5_findPair) (c_X5_leastThen (n := n) (by rw [ups_cell (by decide)]; exact h2n) hn8 ⟨rfl, rfl⟩) vX5_leastThen rfl lX5_215 dX5_findPair_23 ⟨_, _, _, rfl, rfl, rfl⟩ (by decide) rfl (Nat.le_of_ble_eq_true rfl) ?_
  rw [ups_cell (show (9 : Nat) ≠ 0 by decide), h2l]
  refine G_puti (K := mX5_findPair) fX5_218 w5_12 dX5_findPair_26 rfl rfl ?_
  refine G_iconst (K := mX5_findPair) (v := 0) dX5_findPair_29 (by decide) ?_
  refine G_istore_n (K := mX5_findPair) (i := 2) dX5_findPair_30 rfl (by decide) ?_
  have loop31 : ∀ i, i ≤ n → ∀ (M3 : Mem) (x3 x4 : Option Value), pairR f n c M M3 (8 * i) → G mX5_findPair shR 7 Q 31 [some (.ref 0), some (.int (nI k)), some (.int (nI i)), x3, x4] [] M3 := by
    refine upto n (fun i hi ih => ?_)
    intro M3 x3 x4 hp0
    have hn3 : M3 1 2 = nI n := by rw [← toH_n (M3 1), hp0.1]; exact hn
    refine G_iload_n (K := mX5_findPair) (i := 2) dX5_findPair_31 rfl rfl ?_
    refine G_aload_n (K := mX5_findPair) (i := 0) dX5_findPair_32 rfl rfl ?_
    refine G_getr (K := mX5_findPair) fX5_9 dX5_findPair_33 rfl rfl ?_
    refine G_iconst (K := mX5_findPair) (v := 2) dX5_findPair_36 (by decide) ?_
    refine G_ld (K := mX5_findPair) 2 dX5_findPair_37 rfl rfl (by omega) (by decide) ?_
    refine G_icmp_ge (K := mX5_findPair) (tgt := 115) dX5_findPair_38 (by decide) (fun c38 => ?_) (fun c38 => ?_)
    · skip
      rw [hn3, le_nn (by omega) (by omega)] at c38
      have hin : i = n := by omega
      subst hin
      exact G_vrm (K := mX5_findPair) dX5_findPair_115 rfl rfl (hQ M3 (by unfold pairR at hp0 ⊢; rw [pairZ_end hn8]; exact hp0))
    · skip
      rw [hn3, le_nn (by omega) (by omega)] at c38
      refine G_iload_n (K := mX5_findPair) (i := 2) dX5_findPair_41 rfl rfl ?_
      refine G_iconst (K := mX5_findPair) (v := 1) dX5_findPair_42 (by decide) ?_
      refine G_iadd (K := mX5_findPair) dX5_findPair_43 ?_
      rw [nI_1]
      refine G_istore_n (K := mX5_findPair) (i := 3) dX5_findPair_44 rfl (by decide) ?_
      have loop45 : ∀ j, j ≤ n → i < j → ∀ (M3 : Mem) (x4 : Option Value), pairR f n c M M3 (8 * i + j) → G mX5_findPair shR 7 Q 45 [some (.ref 0), some (.int (nI k)), some (.int (nI i)), some (.int (nI j)), x4] [] M3 := by
        refine upto n (fun j hj jh => ?_)
        intro hij M3 x4 hpr
        have hn4 : M3 1 2 = nI n := by rw [← toH_n (M3 1), hpr.1]; exact hn
        refine G_iload_n (K := mX5_findPair) (i := 3) dX5_findPair_45 rfl rfl ?_
        refine G_aload_n (K := mX5_findPair) (i := 0) dX5_findPair_46 rfl rfl ?_
        refine G_getr (K := mX5_findPair) fX5_9 dX5_findPair_47 rfl rfl ?_
        refine G_iconst (K := mX5_findPair) (v := 2) dX5_findPair_50 (by decide) ?_
        refine G_ld (K := mX5_findPair) 2 dX5_findPair_51 rfl rfl (by omega) (by decide) ?_
        refine G_icmp_ge (K := mX5_findPair) (tgt := 109) dX5_findPair_52 (by decide) (fun c52 => ?_) (fun c52 => ?_)
        · skip
          rw [hn4, le_nn (by omega) (by omega)] at c52
          have hjn : j = n := by omega
          subst hjn
          refine G_iincN (K := mX5_findPair) dX5_findPair_109 (by decide) rfl ?_
          refine G_goto (K := mX5_findPair) (tgt := 31) dX5_findPair_112 (by decide) ?_
          exact ih (i + 1) (by omega) (by omega) M3 _ _ (by unfold pairR at hpr ⊢; rw [pairZ_out hn8]; exact hpr)
        · skip
          rw [hn4, le_nn (by omega) (by omega)] at c52
          refine G_aload_n (K := mX5_findPair) (i := 0) dX5_findPair_55 rfl rfl ?_
          refine G_iload_n (K := mX5_findPair) (i := 2) dX5_findPair_56 rfl rfl ?_
          refine G_iload_n (K := mX5_findPair) (i := 3) dX5_findPair_57 rfl rfl ?_
          refine G_call0 (K := mX5_findPair) (as := [.int (nI i), .int (nI j)]) (r := 0) (Q' := fun u Mz => u = some (.int 1) ∧ toH (Mz 1) = chgH (toH (M3 1)) i j ∧ ∀ z, z ≠ 1 → Mz z = M3 z) (c_X5_moved (M := M3) (i := i) (j := j) (by omega) (by omega) (fun Mz h1 h2 => ⟨rfl, h1, h2⟩)) vX5_moved rfl lX5_148 ⟨_, _, _, rfl, rfl, rfl⟩ (by decide) (Nat.le_of_ble_eq_true rfl) dX5_findPair_58 rfl ?_
          rintro u M4 ⟨rfl, h41, h42⟩
          obtain ⟨p1, p3, p11, p12, p0, pc⟩ := hpr
          rw [p1] at h41
          refine G_istore (K := mX5_findPair) dX5_findPair_61 (by decide) ?_
          refine G_aload_n (K := mX5_findPair) (i := 0) dX5_findPair_63 rfl rfl ?_
          refine G_iload_n (K := mX5_findPair) (i := 1) dX5_findPair_64 rfl rfl ?_
          have e40 : toH (M4 1) 0 = toH (M 1) 0 := by rw [h41, hch]
          refine G_call0 (K := mX5_findPair) (Q' := fun u Mz => u = none ∧ toH (Mz 1) = toH (M4 3) ∧ (∀ r, r < n → Mz 9 r = hoursH n k (toH (M4 1)) 2 r) ∧ ∀ z, z ≠ 1 → z ≠ 7 → z ≠ 9 → Mz z = M4 z) (c_X5_live (M := M4) (n := n) (k := k) (by rw [← toH_n (M4 1), e40]; exact hn) hn8 hk (by rw [h41]; exact hJ i j (by omega) (by omega)) (by rw [e40]; exact ho) (fun Mz h1 h2 h3 => ⟨rfl, h1, h2, h3⟩)) vX5_live rfl lX5_194 ⟨_, _, _, rfl, rfl, rfl⟩ (by decide) (Nat.le_of_ble_eq_true rfl) dX5_findPair_65 rfl ?_
          rintro u M5 ⟨rfl, h51, h52, h53⟩
          rw [h42 3 (by decide), p3] at h51
          have h5n : M5 1 2 = nI n := by rw [← toH_n (M5 1), h51]; exact hn
          have h5l : mnT (M5 9) n = f (8 * i + j) := by
            rw [mnT_least (fun r hr => by rw [h52 r hr, h41]; exact ((hJ i j (by omega) (by omega)).hours hn8 (by rw [← h41, e40]; exact ho) k r hr).1) hn8, hf i j (by omega) (by omega), ← h41]
            exact leastN_congr (by omega) h52
          have h50 : M5 0 = M3 0 := by rw [h53 0 (by decide) (by decide) (by decide), h42 0 (by decide)]
          have h5c : ∀ z, z ≠ 1 → z ≠ 7 → z ≠ 9 → M5 z = M3 z := fun z h1 h7 h9 => by rw [h53 z h1 h7 h9, h42 z h1]
          refine G_iload (K := mX5_findPair) dX5_findPair_68 rfl ?_
          refine G_iconst (K := mX5_findPair) (v := 1) dX5_findPair_70 (by decide) ?_
          refine G_icmp_ne (K := mX5_findPair) (tgt := 103) dX5_findPair_71 (by decide) (fun c71 => ?_) (fun c71 => ?_)
          · skip
            exact absurd rfl c71
          · skip
            refine G_aload_n (K := mX5_findPair) (i := 0) dX5_findPair_74 rfl rfl ?_
            refine G_cv (K := mX5_findPair) (c_X5_leastThen (n := n) h5n hn8 ⟨rfl, rfl⟩) vX5_leastThen rfl lX5_215 dX5_findPair_75 ⟨_, _, _, rfl, rfl, rfl⟩ (by decide) rfl (Nat.le_of_ble_eq_true rfl) ?_
            refine G_aload_n (K := mX5_findPair) (i := 0) dX5_findPair_78 rfl rfl ?_
            rw [h5l]
            refine G_geti (K := mX5_findPair) fX5_218 dX5_findPair_79 rfl rfl ?_
            rw [h50, p12]
            refine G_icmp_le (K := mX5_findPair) (tgt := 103) dX5_findPair_82 (by decide) (fun c82 => ?_) (fun c82 => ?_)
            · skip
              refine G_iincN (K := mX5_findPair) dX5_findPair_103 (by decide) rfl ?_
              refine G_goto (K := mX5_findPair) (tgt := 45) dX5_findPair_106 (by decide) ?_
              first
              | exact jh (j + 1) (by omega) (by omega) (by omega) _ _ ⟨by rw [ups_cell (by decide), ups_cell (by decide)]; exact h51, by rw [ups_cell (by decide), ups_cell (by decide), h5c 3 (by decide) (by decide) (by decide)]; exact p3, by rw [pairZ_gt hij (by omega) hn8 c82, ups_ne (by omega), ups_same]; exact (pairV_ij (by omega)).symm, by rw [pairZ_gt hij (by omega) hn8 c82, ups_same], fun x h1 h2 => by rw [ups_ne (by omega), ups_ne (by omega), h50]; exact p0 x h1 h2, fun x a b e g m => by rw [ups_cell a, ups_cell a, h5c x b g m]; exact pc x a b e g m⟩
              | exact jh (j + 1) (by omega) (by omega) (by omega) M5 _ ⟨h51, by rw [h5c 3 (by decide) (by decide) (by decide)]; exact p3, by rw [pairZ_le hij (by omega) hn8 c82, h50]; exact p11, by rw [pairZ_le hij (by omega) hn8 c82, h50]; exact p12, fun x h1 h2 => by rw [h50]; exact p0 x h1 h2, fun x a b e g m => by rw [h5c x b g m]; exact pc x a b e g m⟩
            · skip
              refine G_aload_n (K := mX5_findPair) (i := 0) dX5_findPair_85 rfl rfl ?_
              refine G_bipush (K := mX5_findPair) (v := 10) dX5_findPair_86 (by decide) ?_
              refine G_iload_n (K := mX5_findPair) (i := 2) dX5_findPair_88 rfl rfl ?_
              refine G_imul (K := mX5_findPair) dX5_findPair_89 ?_
              refine G_iload_n (K := mX5_findPair) (i := 3) dX5_findPair_90 rfl rfl ?_
              refine G_iadd (K := mX5_findPair) dX5_findPair_91 ?_
              rw [nI_lin (by omega) (by omega)]
              refine G_puti (K := mX5_findPair) fX5_211 w5_11 dX5_findPair_92 rfl rfl ?_
              refine G_aload_n (K := mX5_findPair) (i := 0) dX5_findPair_95 rfl rfl ?_
              refine G_aload_n (K := mX5_findPair) (i := 0) dX5_findPair_96 rfl rfl ?_
              refine G_cv (K := mX5_findPair) (c_X5_leastThen (n := n) (by rw [ups_cell (by decide)]; exact h5n) hn8 ⟨rfl, rfl⟩) vX5_leastThen rfl lX5_215 dX5_findPair_97 ⟨_, _, _, rfl, rfl, rfl⟩ (by decide) rfl (Nat.le_of_ble_eq_true rfl) ?_
              rw [ups_cell (show (9 : Nat) ≠ 0 by decide), h5l]
              refine G_puti (K := mX5_findPair) fX5_218 w5_12 dX5_findPair_100 rfl rfl ?_
              refine G_iincN (K := mX5_findPair) dX5_findPair_103 (by decide) rfl ?_
              refine G_goto (K := mX5_findPair) (tgt := 45) dX5_findPair_106 (by decide) ?_
              first
              | exact jh (j + 1) (by omega) (by omega) (by omega) _ _ ⟨by rw [ups_cell (by decide), ups_cell (by decide)]; exact h51, by rw [ups_cell (by decide), ups_cell (by decide), h5c 3 (by decide) (by decide) (by decide)]; exact p3, by rw [pairZ_gt hij (by omega) hn8 c82, ups_ne (by omega), ups_same]; exact (pairV_ij (by omega)).symm, by rw [pairZ_gt hij (by omega) hn8 c82, ups_same], fun x h1 h2 => by rw [ups_ne (by omega), ups_ne (by omega), h50]; exact p0 x h1 h2, fun x a b e g m => by rw [ups_cell a, ups_cell a, h5c x b g m]; exact pc x a b e g m⟩
              | exact jh (j + 1) (by omega) (by omega) (by omega) M5 _ ⟨h51, by rw [h5c 3 (by decide) (by decide) (by decide)]; exact p3, by rw [pairZ_le hij (by omega) hn8 c82, h50]; exact p11, by rw [pairZ_le hij (by omega) hn8 c82, h50]; exact p12, fun x h1 h2 => by rw [h50]; exact p0 x h1 h2, fun x a b e g m => by rw [h5c x b g m]; exact pc x a b e g m⟩
      exact loop45 (i + 1) (by omega) (by omega) M3 _ (by unfold pairR at hp0 ⊢; rw [pairZ_in (by omega)]; exact hp0)
  exact loop31 0 (by omega) _ _ _ ⟨by rw [ups_cell (by decide), ups_cell (by decide)]; exact h21, by rw [ups_cell (by decide), ups_cell (by decide), h23 3 (by decide) (by decide) (by decide)]; exact toH_cpy, by rw [ups_ne (by omega), ups_same]; rfl, ups_same _ _ _ _, fun x h1 h2 => by rw [ups_ne (by omega), ups_ne (by omega), h23 0 (by decide) (by decide) (by decide), cpyM_c (by decide)], fun x h0 h1 h3 h7 h9 => by rw [ups_cell h0, ups_cell h0, h23 x h1 h7 h9, cpyM_c h3]⟩
