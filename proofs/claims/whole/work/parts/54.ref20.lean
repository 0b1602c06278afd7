set_option maxRecDepth 20000 in
theorem rf_spread {M σ : Mem} {r a : Int32} (hR : RR M σ) (hI : Inv σ) {Q : Option Value → Mem → Prop} (hQ : ∀ u' M', PostR (opSpread σ r a) u' M' → Q u' M') : CT mX5_spread shR 8 [.ref 0, .int r, .int a] M Q := by
  refine CT.mk [some (.ref 0), some (.int r), some (.int a), none, none, none] (by decide) (Nat.le_of_ble_eq_true rfl) rfl rfl ?_
  refine G_aload_n (K := mX5_spread) (i := 0) dX5_spread_0 rfl rfl ?_
  refine G_iload_n (K := mX5_spread) (i := 1) dX5_spread_1 rfl rfl ?_
  refine G_iload_n (K := mX5_spread) (i := 2) dX5_spread_2 rfl rfl ?_
  refine G_cv (K := mX5_spread) (rf_refuses (r := r) (a := a) hR hI ⟨rfl, rfl⟩) vX5_refuses rfl lX5_198 dX5_spread_3 ⟨_, _, _, rfl, rfl, rfl⟩ (by decide) rfl (Nat.le_of_ble_eq_true rfl) ?_
  refine G_istore_n (K := mX5_spread) (i := 3) dX5_spread_6 rfl (by decide) ?_
  refine G_iload_n (K := mX5_spread) (i := 3) dX5_spread_7 rfl rfl ?_
  refine G_if_eq (K := mX5_spread) (tgt := 17) dX5_spread_8 (by decide) (fun c8 => ?_) (fun c8 => ?_)
  · skip
    obtain ⟨q, k, hq, rfl, hk1, hk2, rfl, hH⟩ := refR_0 hI c8
    have hn8 := hI.n8
    have hk60 : k ≤ 60 := refH_60 (m := 60) hk2 (by omega) hH
    refine G_aload_n (K := mX5_spread) (i := 0) dX5_spread_17 rfl rfl ?_
    refine G_iload_n (K := mX5_spread) (i := 2) dX5_spread_18 rfl rfl ?_
    refine G_call0 (K := mX5_spread) (as := [.int (nI k)]) (r := 0) (Q' := fun u Mz => u = none ∧ toH (Mz 1) = toH (M 1) ∧ toH (Mz 3) = toH (M 1) ∧ (∀ r, r < nOf σ → Mz 10 r = aH σ k 2 r) ∧ ∀ c, c ≠ 1 → c ≠ 3 → c ≠ 7 → c ≠ 9 → c ≠ 10 → Mz c = M c) (c_X5_liveAnyhow (n := nOf σ) (k := k) (hR.n hI) hI.n8 (by omega) (hR.hj hI) (hR.ho hI) (fun Mz h1 h2 h3 h4 h5 => ⟨rfl, h1, h2, fun r hr => by rw [h4 r (by have := hI.n8; omega), h3 r hr]; exact (hoursH_congr hR.1 k).f 2 (by omega) (by omega) hr, h5⟩)) vX5_liveAnyhow rfl lX5_201 ⟨_, _, _, rfl, rfl, rfl⟩ (by decide) (Nat.le_of_ble_eq_true rfl) dX5_spread_19 rfl ?_
    rintro v M2 ⟨rfl, h21, h23, h2A, h2c⟩
    refine G_aload_n (K := mX5_spread) (i := 0) dX5_spread_22 rfl rfl ?_
    refine G_getr (K := mX5_spread) fX5_9 dX5_spread_23 rfl rfl ?_
    refine G_iload_n (K := mX5_spread) (i := 1) dX5_spread_26 rfl rfl ?_
    refine G_iconst (K := mX5_spread) (v := 0) dX5_spread_27 (by decide) ?_
    refine G_sv (K := mX5_spread) (c_X5_at (i := q) (f := 0) (by omega) (by omega) ⟨rfl, rfl⟩) sX5_at rfl lX5_101 dX5_spread_28 (by decide) rfl (Nat.le_of_ble_eq_true rfl) ?_
    refine G_iconst (K := mX5_spread) (v := 3) dX5_spread_31 (by decide) ?_
    refine G_sto (K := mX5_spread) (14 + 9 * q + 0) dX5_spread_32 rfl rfl (by omega) (by decide) ?_
    refine G_aload_n (K := mX5_spread) (i := 0) dX5_spread_33 rfl rfl ?_
    refine G_iload_n (K := mX5_spread) (i := 2) dX5_spread_34 rfl rfl ?_
    have hn8 := hI.n8
    have eT : toH ((ups M2 1 (14 + 9 * q + 0) 3) 1) = ups (toH (M 1)) (1 + 0) q 3 := by rw [toH_ups (by omega) (by omega), h21]
    have hnW : (ups M2 1 (14 + 9 * q + 0) 3) 1 2 = nI (nOf σ) := by rw [ups_ne (by omega), ← toH_n (M2 1), h21]; exact hR.n hI
    have hJW : HJ (toH ((ups M2 1 (14 + 9 * q + 0) 3) 1)) (nOf σ) := by rw [eT]; exact (hR.hj hI).up (by omega) (by omega) (by omega) (by omega) (by omega) (by omega)
    have hoW : 0 ≤ (toH ((ups M2 1 (14 + 9 * q + 0) 3) 1) 0 1).toInt := by rw [eT, ups_cell (by omega)]; exact hR.ho hI
    refine G_call0 (K := mX5_spread) (as := [.int (nI k)]) (r := 0) (Q' := fun u Mz => u = none ∧ toH (Mz 1) = toH ((ups M2 1 (14 + 9 * q + 0) 3) 3) ∧ (∀ r, r < nOf σ → Mz 9 r = hoursH (nOf σ) k (toH ((ups M2 1 (14 + 9 * q + 0) 3) 1)) 2 r) ∧ ∀ c, c ≠ 1 → c ≠ 7 → c ≠ 9 → Mz c = (ups M2 1 (14 + 9 * q + 0) 3) c) (c_X5_live (M := (ups M2 1 (14 + 9 * q + 0) 3)) (n := nOf σ) (k := k) hnW hI.n8 (by omega) hJW hoW (fun Mz h1 h2 h3 => ⟨rfl, h1, h2, h3⟩)) vX5_live rfl lX5_194 ⟨_, _, _, rfl, rfl, rfl⟩ (by decide) (Nat.le_of_ble_eq_true rfl) dX5_spread_35 rfl ?_
    rintro z M4 ⟨rfl, h41, h42, h43⟩
    rw [ups_cell (by decide), h23] at h41
    have f9 : ∀ r, r < nOf σ → M4 9 r = wH σ k 0 q 3 2 r := fun r hr => by rw [h42 r hr, eT]; exact hR.wH (by omega) hr
    have h44 : toH (M4 3) = toH (M 1) := by rw [h43 3 (by decide) (by decide) (by decide), ups_cell (by decide)]; exact h23
    have h4A : M4 10 = M2 10 := by rw [h43 10 (by decide) (by decide) (by decide), ups_cell (by decide)]
    have h4c : ∀ c, c ≠ 1 → c ≠ 3 → c ≠ 7 → c ≠ 9 → c ≠ 10 → M4 c = M c := fun c a b d e f => by rw [h43 c a d e, ups_cell a]; exact h2c c a b d e f
    have hn4 : M4 1 2 = nI (nOf σ) := by rw [← toH_n (M4 1), h41]; exact hR.n hI
    have hR4 : RR M4 σ := hR.scr4 h41 h4c
    refine G_iconst (K := mX5_spread) (v := 0) dX5_spread_38 (by decide) ?_
    refine G_istore (K := mX5_spread) dX5_spread_39 (by decide) ?_
    refine G_iconst (K := mX5_spread) (v := 0) dX5_spread_41 (by decide) ?_
    refine G_istore (K := mX5_spread) dX5_spread_42 (by decide) ?_
    have loop44 : ∀ i, i ≤ nOf σ → ∀ s, s = bits (fun i => decide (wH σ k 0 q 3 2 i < aH σ k 2 i)) i → G mX5_spread shR 8 Q 44 [some (.ref 0), some (.int (nI q)), some (.int (nI k)), some (.int (refR σ (nI q) (nI k))), some (.int s), some (.int (nI i))] [] M4 := by
      refine upto (nOf σ) (fun i hi ih => ?_)
      intro s hs2
      refine G_iload (K := mX5_spread) dX5_spread_44 rfl ?_
      refine G_aload_n (K := mX5_spread) (i := 0) dX5_spread_46 rfl rfl ?_
      refine G_getr (K := mX5_spread) fX5_9 dX5_spread_47 rfl rfl ?_
      refine G_iconst (K := mX5_spread) (v := 2) dX5_spread_50 (by decide) ?_
      refine G_ld (K := mX5_spread) 2 dX5_spread_51 rfl rfl (by omega) (by decide) ?_
      refine G_icmp_ge (K := mX5_spread) (tgt := 91) dX5_spread_52 (by decide) (fun c52 => ?_) (fun c52 => ?_)
      · skip
        rw [hn4, le_nn (by have := hI.n8; omega) (by have := hI.n8; omega)] at c52
        have hin : i = nOf σ := by omega
        refine G_iload (K := mX5_spread) dX5_spread_91 rfl ?_
        subst hin
        exact G_iret (st := []) (K := mX5_spread) dX5_spread_93 rfl (hQ _ _ (by rw [show opSpread σ (nI q) (nI k) = (bits (fun i => decide (wH σ (cut (nI k)) 0 (cut (nI q)) 3 2 i < aH σ (cut (nI k)) 2 i)) (nOf σ), σ) from if_pos c8, cut_nI hk2, cut_nI (by omega), ← hs2]; exact ⟨rfl, hR4⟩))
      · skip
        rw [hn4, le_nn (by have := hI.n8; omega) (by have := hI.n8; omega)] at c52
        have hn8 := hI.n8
        refine G_iload (K := mX5_spread) dX5_spread_55 rfl ?_
        refine G_aload_n (K := mX5_spread) (i := 0) dX5_spread_57 rfl rfl ?_
        refine G_getr (K := mX5_spread) fX5_34 dX5_spread_58 rfl rfl ?_
        refine G_iload (K := mX5_spread) dX5_spread_61 rfl ?_
        refine G_ld (K := mX5_spread) i dX5_spread_63 rfl rfl (by omega) (by decide) ?_
        refine G_aload_n (K := mX5_spread) (i := 0) dX5_spread_64 rfl rfl ?_
        refine G_getr (K := mX5_spread) fX5_37 dX5_spread_65 rfl rfl ?_
        refine G_iload (K := mX5_spread) dX5_spread_68 rfl ?_
        refine G_ld (K := mX5_spread) i dX5_spread_70 rfl rfl (by omega) (by decide) ?_
        rw [f9 i (by omega), h4A, h2A i (by omega)]
        refine G_icmp_ge (K := mX5_spread) (tgt := 81) dX5_spread_71 (by decide) (fun c71 => ?_) (fun c71 => ?_)
        · skip
          refine G_iconst (K := mX5_spread) (v := 0) dX5_spread_81 (by decide) ?_
          refine G_ior (K := mX5_spread) dX5_spread_82 ?_
          refine G_istore (K := mX5_spread) dX5_spread_83 (by decide) ?_
          refine G_iincN (K := mX5_spread) dX5_spread_85 (by decide) rfl ?_
          refine G_goto (K := mX5_spread) (tgt := 44) dX5_spread_88 (by decide) ?_
          exact ih (i + 1) (by omega) (by omega) _ (by rw [bits_f (by rw [decide_eq_true_iff]; exact (Int32.not_lt.mpr c71)), hs2]; exact Int32.or_zero)
        · skip
          refine G_iconst (K := mX5_spread) (v := 1) dX5_spread_74 (by decide) ?_
          refine G_iload (K := mX5_spread) dX5_spread_75 rfl ?_
          refine G_ishl (K := mX5_spread) dX5_spread_77 ?_
          refine G_goto (K := mX5_spread) (tgt := 82) dX5_spread_78 (by decide) ?_
          refine G_ior (K := mX5_spread) dX5_spread_82 ?_
          refine G_istore (K := mX5_spread) dX5_spread_83 (by decide) ?_
          refine G_iincN (K := mX5_spread) dX5_spread_85 (by decide) rfl ?_
          refine G_goto (K := mX5_spread) (tgt := 44) dX5_spread_88 (by decide) ?_
          exact ih (i + 1) (by omega) (by omega) _ (by rw [bits_t (decide_eq_true (Int32.not_le.mp c71)), hs2]; rfl)
    exact loop44 0 (by omega) _ rfl
  · skip
    refine G_aload_n (K := mX5_spread) (i := 0) dX5_spread_11 rfl rfl ?_
    refine G_iload_n (K := mX5_spread) (i := 3) dX5_spread_12 rfl rfl ?_
    obtain ⟨q, hq, eq⟩ := refR_fin c8
    rw [eq]
    refine G_call0 (K := mX5_spread) (Q' := PostR (tl σ q)) (rf_finding hR (k := q) (by omega) (fun _ _ h => h)) vX5_finding rfl lX5_109 ⟨_, _, _, rfl, rfl, rfl⟩ (by decide) (Nat.le_of_ble_eq_true rfl) dX5_spread_13 rfl ?_
    rintro v M1 ⟨rfl, hR1⟩
    exact G_iret (st := []) (K := mX5_spread) dX5_spread_16 rfl (hQ _ _ (by rw [show opSpread σ r a = _ from (by unfold opSpread; exact (if_neg c8).trans ((congrArg (tlI σ) eq).trans (tlI_fin hq)))]; exact ⟨rfl, hR1⟩))

set_option maxRecDepth 20000 in
theorem rf_tempted {M σ : Mem} {a : Int32} (hR : RR M σ) (hI : Inv σ) {Q : Option Value → Mem → Prop} (hQ : ∀ u' M', PostR (opTempted σ a) u' M' → Q u' M') : CT mX5_tempted shR 8 [.ref 0, .int a] M Q := by
  refine CT.mk [some (.ref 0), some (.int a), none, none, none] (by decide) (Nat.le_of_ble_eq_true rfl) rfl rfl ?_
  refine G_aload_n (K := mX5_tempted) (i := 0) dX5_tempted_0 rfl rfl ?_
  refine G_iload_n (K := mX5_tempted) (i := 1) dX5_tempted_1 rfl rfl ?_
  refine G_bipush (K := mX5_tempted) (v := 60) dX5_tempted_2 (by decide) ?_
  refine G_cv (K := mX5_tempted) (rf_refHours (a := a) (m := 60) hR hI ⟨rfl, rfl⟩) vX5_refusesHours rfl lX5_208 dX5_tempted_4 ⟨_, _, _, rfl, rfl, rfl⟩ (by decide) rfl (Nat.le_of_ble_eq_true rfl) ?_
  refine G_istore_n (K := mX5_tempted) (i := 2) dX5_tempted_7 rfl (by decide) ?_
  refine G_iload_n (K := mX5_tempted) (i := 2) dX5_tempted_8 rfl rfl ?_
  refine G_if_eq (K := mX5_tempted) (tgt := 18) dX5_tempted_9 (by decide) (fun c9 => ?_) (fun c9 => ?_)
  · skip
    obtain ⟨k, hk1, hk2, rfl⟩ := refH_nat c9
    have hn8 := hI.n8
    have hk60 : k ≤ 60 := refH_60 (m := 60) hk2 (by omega) c9
    refine G_aload_n (K := mX5_tempted) (i := 0) dX5_tempted_18 rfl rfl ?_
    refine G_iload_n (K := mX5_tempted) (i := 1) dX5_tempted_19 rfl rfl ?_
    refine G_call0 (K := mX5_tempted) (as := [.int (nI k)]) (r := 0) (Q' := fun u Mz => u = none ∧ toH (Mz 1) = toH (M 1) ∧ toH (Mz 3) = toH (M 1) ∧ (∀ r, r < nOf σ → Mz 10 r = aH σ k 2 r) ∧ ∀ c, c ≠ 1 → c ≠ 3 → c ≠ 7 → c ≠ 9 → c ≠ 10 → Mz c = M c) (c_X5_liveAnyhow (n := nOf σ) (k := k) (hR.n hI) hI.n8 (by omega) (hR.hj hI) (hR.ho hI) (fun Mz h1 h2 h3 h4 h5 => ⟨rfl, h1, h2, fun r hr => by rw [h4 r (by have := hI.n8; omega), h3 r hr]; exact (hoursH_congr hR.1 k).f 2 (by omega) (by omega) hr, h5⟩)) vX5_liveAnyhow rfl lX5_201 ⟨_, _, _, rfl, rfl, rfl⟩ (by decide) (Nat.le_of_ble_eq_true rfl) dX5_tempted_20 rfl ?_
    rintro v M2 ⟨rfl, h21, h23, h2A, h2c⟩
    refine G_iconst (K := mX5_tempted) (v := 0) dX5_tempted_23 (by decide) ?_
    refine G_istore_n (K := mX5_tempted) (i := 3) dX5_tempted_24 rfl (by decide) ?_
    refine G_iconst (K := mX5_tempted) (v := 0) dX5_tempted_25 (by decide) ?_
    refine G_istore (K := mX5_tempted) dX5_tempted_26 (by decide) ?_
    have loop28 : ∀ i, i ≤ nOf σ → ∀ (s : Int32) (M3 : Mem), toH (M3 1) = toH (M 1) → toH (M3 3) = toH (M 1) → (∀ r, r < nOf σ → M3 10 r = aH σ k 2 r) → (∀ c, c ≠ 1 → c ≠ 3 → c ≠ 7 → c ≠ 9 → c ≠ 10 → M3 c = M c) → s = bits (fun r => decide (aH σ k 2 r < wH σ k 0 r 0 2 r)) i → G mX5_tempted shR 8 Q 28 [some (.ref 0), some (.int (nI k)), some (.int (refH σ (nI k) 60)), some (.int s), some (.int (nI i))] [] M3 := by
      refine upto (nOf σ) (fun i hi ih => ?_)
      intro s M3 h31 h33 h3A h3c hs2
      have hn3 : M3 1 2 = nI (nOf σ) := by rw [← toH_n (M3 1), h31]; exact hR.n hI
      refine G_iload (K := mX5_tempted) dX5_tempted_28 rfl ?_
      refine G_aload_n (K := mX5_tempted) (i := 0) dX5_tempted_30 rfl rfl ?_
      refine G_getr (K := mX5_tempted) fX5_9 dX5_tempted_31 rfl rfl ?_
      refine G_iconst (K := mX5_tempted) (v := 2) dX5_tempted_34 (by decide) ?_
      refine G_ld (K := mX5_tempted) 2 dX5_tempted_35 rfl rfl (by omega) (by decide) ?_
      refine G_icmp_ge (K := mX5_tempted) (tgt := 90) dX5_tempted_36 (by decide) (fun c36 => ?_) (fun c36 => ?_)
      · skip
        rw [hn3, le_nn (by have := hI.n8; omega) (by have := hI.n8; omega)] at c36
        have hin : i = nOf σ := by omega
        refine G_iload_n (K := mX5_tempted) (i := 3) dX5_tempted_90 rfl rfl ?_
        subst hin
        exact G_iret (st := []) (K := mX5_tempted) dX5_tempted_91 rfl (hQ _ _ (by rw [show opTempted σ (nI k) = (bits (fun r => decide (aH σ (cut (nI k)) 2 r < wH σ (cut (nI k)) 0 r 0 2 r)) (nOf σ), σ) from if_pos c9, cut_nI hk2, ← hs2]; exact ⟨rfl, hR.scr4 h31 h3c⟩))
      · skip
        rw [hn3, le_nn (by have := hI.n8; omega) (by have := hI.n8; omega)] at c36
        have hn8 := hI.n8
        refine G_aload_n (K := mX5_tempted) (i := 0) dX5_tempted_39 rfl rfl ?_
        refine G_getr (K := mX5_tempted) fX5_9 dX5_tempted_40 rfl rfl ?_
        refine G_iload (K := mX5_tempted) dX5_tempted_43 rfl ?_
        refine G_iconst (K := mX5_tempted) (v := 0) dX5_tempted_45 (by decide) ?_
        refine G_sv (K := mX5_tempted) (c_X5_at (i := i) (f := 0) (by omega) (by omega) ⟨rfl, rfl⟩) sX5_at rfl lX5_101 dX5_tempted_46 (by decide) rfl (Nat.le_of_ble_eq_true rfl) ?_
        refine G_iconst (K := mX5_tempted) (v := 0) dX5_tempted_49 (by decide) ?_
        refine G_sto (K := mX5_tempted) (14 + 9 * i + 0) dX5_tempted_50 rfl rfl (by omega) (by decide) ?_
        refine G_aload_n (K := mX5_tempted) (i := 0) dX5_tempted_51 rfl rfl ?_
        refine G_iload_n (K := mX5_tempted) (i := 1) dX5_tempted_52 rfl rfl ?_
        have hn8 := hI.n8
        have eT : toH ((ups M3 1 (14 + 9 * i + 0) 0) 1) = ups (toH (M 1)) (1 + 0) i 0 := by rw [toH_ups (by omega) (by omega), h31]
        have hnW : (ups M3 1 (14 + 9 * i + 0) 0) 1 2 = nI (nOf σ) := by rw [ups_ne (by omega), ← toH_n (M3 1), h31]; exact hR.n hI
        have hJW : HJ (toH ((ups M3 1 (14 + 9 * i + 0) 0) 1)) (nOf σ) := by rw [eT]; exact (hR.hj hI).up (by omega) (by omega) (by omega) (by omega) (by omega) (by omega)
        have hoW : 0 ≤ (toH ((ups M3 1 (14 + 9 * i + 0) 0) 1) 0 1).toInt := by rw [eT, ups_cell (by omega)]; exact hR.ho hI
        refine G_call0 (K := mX5_tempted) (as := [.int (nI k)]) (r := 0) (Q' := fun u Mz => u = none ∧ toH (Mz 1) = toH ((ups M3 1 (14 + 9 * i + 0) 0) 3) ∧ (∀ r, r < nOf σ → Mz 9 r = hoursH (nOf σ) k (toH ((ups M3 1 (14 + 9 * i + 0) 0) 1)) 2 r) ∧ ∀ c, c ≠ 1 → c ≠ 7 → c ≠ 9 → Mz c = (ups M3 1 (14 + 9 * i + 0) 0) c) (c_X5_live (M := (ups M3 1 (14 + 9 * i + 0) 0)) (n := nOf σ) (k := k) hnW hI.n8 (by omega) hJW hoW (fun Mz h1 h2 h3 => ⟨rfl, h1, h2, h3⟩)) vX5_live rfl lX5_194 ⟨_, _, _, rfl, rfl, rfl⟩ (by decide) (Nat.le_of_ble_eq_true rfl) dX5_tempted_53 rfl ?_
        rintro z M4 ⟨rfl, h41, h42, h43⟩
        rw [ups_cell (by decide), h33] at h41
        have f9 : ∀ r, r < nOf σ → M4 9 r = wH σ k 0 i 0 2 r := fun r hr => by rw [h42 r hr, eT]; exact hR.wH (by omega) hr
        have h44 : toH (M4 3) = toH (M 1) := by rw [h43 3 (by decide) (by decide) (by decide), ups_cell (by decide)]; exact h33
        have h4A : M4 10 = M3 10 := by rw [h43 10 (by decide) (by decide) (by decide), ups_cell (by decide)]
        have h4c : ∀ c, c ≠ 1 → c ≠ 3 → c ≠ 7 → c ≠ 9 → c ≠ 10 → M4 c = M c := fun c a b d e f => by rw [h43 c a d e, ups_cell a]; exact h3c c a b d e f
        have hn4 : M4 1 2 = nI (nOf σ) := by rw [← toH_n (M4 1), h41]; exact hR.n hI
        have hR4 : RR M4 σ := hR.scr4 h41 h4c
        refine G_iload_n (K := mX5_tempted) (i := 3) dX5_tempted_56 rfl rfl ?_
        refine G_aload_n (K := mX5_tempted) (i := 0) dX5_tempted_57 rfl rfl ?_
        refine G_getr (K := mX5_tempted) fX5_34 dX5_tempted_58 rfl rfl ?_
        refine G_iload (K := mX5_tempted) dX5_tempted_61 rfl ?_
        refine G_ld (K := mX5_tempted) i dX5_tempted_63 rfl rfl (by omega) (by decide) ?_
        refine G_aload_n (K := mX5_tempted) (i := 0) dX5_tempted_64 rfl rfl ?_
        refine G_getr (K := mX5_tempted) fX5_37 dX5_tempted_65 rfl rfl ?_
        refine G_iload (K := mX5_tempted) dX5_tempted_68 rfl ?_
        refine G_ld (K := mX5_tempted) i dX5_tempted_70 rfl rfl (by omega) (by decide) ?_
        rw [f9 i (by omega), h4A, h3A i (by omega)]
        refine G_icmp_le (K := mX5_tempted) (tgt := 81) dX5_tempted_71 (by decide) (fun c71 => ?_) (fun c71 => ?_)
        · skip
          refine G_iconst (K := mX5_tempted) (v := 0) dX5_tempted_81 (by decide) ?_
          refine G_ior (K := mX5_tempted) dX5_tempted_82 ?_
          refine G_istore_n (K := mX5_tempted) (i := 3) dX5_tempted_83 rfl (by decide) ?_
          refine G_iincN (K := mX5_tempted) dX5_tempted_84 (by decide) rfl ?_
          refine G_goto (K := mX5_tempted) (tgt := 28) dX5_tempted_87 (by decide) ?_
          refine ih (i + 1) (by omega) (by omega) _ M4 h41 h44 (by rw [h4A]; exact h3A) h4c ?_
          rw [bits_f (by rw [decide_eq_true_iff]; exact (Int32.not_lt.mpr c71)), hs2]; exact Int32.or_zero
        · skip
          refine G_iconst (K := mX5_tempted) (v := 1) dX5_tempted_74 (by decide) ?_
          refine G_iload (K := mX5_tempted) dX5_tempted_75 rfl ?_
          refine G_ishl (K := mX5_tempted) dX5_tempted_77 ?_
          refine G_goto (K := mX5_tempted) (tgt := 82) dX5_tempted_78 (by decide) ?_
          refine G_ior (K := mX5_tempted) dX5_tempted_82 ?_
          refine G_istore_n (K := mX5_tempted) (i := 3) dX5_tempted_83 rfl (by decide) ?_
          refine G_iincN (K := mX5_tempted) dX5_tempted_84 (by decide) rfl ?_
          refine G_goto (K := mX5_tempted) (tgt := 28) dX5_tempted_87 (by decide) ?_
          refine ih (i + 1) (by omega) (by omega) _ M4 h41 h44 (by rw [h4A]; exact h3A) h4c ?_
          rw [bits_t (decide_eq_true (Int32.not_le.mp c71)), hs2]; rfl
    exact loop28 0 (by omega) _ M2 h21 h23 h2A h2c rfl
  · skip
    refine G_aload_n (K := mX5_tempted) (i := 0) dX5_tempted_12 rfl rfl ?_
    refine G_iload_n (K := mX5_tempted) (i := 2) dX5_tempted_13 rfl rfl ?_
    obtain ⟨q, hq, eq⟩ := refH_fin c9
    rw [eq]
    refine G_call0 (K := mX5_tempted) (Q' := PostR (tl σ q)) (rf_finding hR (k := q) (by omega) (fun _ _ h => h)) vX5_finding rfl lX5_109 ⟨_, _, _, rfl, rfl, rfl⟩ (by decide) (Nat.le_of_ble_eq_true rfl) dX5_tempted_14 rfl ?_
    rintro v M1 ⟨rfl, hR1⟩
    exact G_iret (st := []) (K := mX5_tempted) dX5_tempted_17 rfl (hQ _ _ (by rw [show opTempted σ a = _ from (by unfold opTempted; exact (if_neg c9).trans ((congrArg (tlI σ) eq).trans (tlI_fin hq)))]; exact ⟨rfl, hR1⟩))

theorem ownH_s {h : Mem} {i : Nat} : ups (ownH h i) 5 i (nI i) = ownH h (i + 1) := by
  funext c j
  unfold ups ownH
  by_cases h1 : c = 5 ∧ j = i
  · rw [if_pos h1, if_pos (by omega), h1.2]
  · rw [if_neg h1]
    by_cases h2 : c = 5 ∧ j < i
    · rw [if_pos h2, if_pos (by omega)]
    · rw [if_neg h2, if_neg (by omega)]
theorem ownH_0 {h : Mem} : ownH h 0 = h := by
  funext c j
  exact if_neg (by omega)
theorem ownH_c {h : Mem} {n c : Nat} (hc : c ≠ 5) : ownH h n c = h c := by
  funext j
  exact if_neg (fun z => hc z.1)
theorem ownH_HR {M h : Mem} {n : Nat} (H : HR M h n) : HR (ownH M n) (ownH h n) n :=
  ⟨fun i hi => by rw [ownH_c (by omega), ownH_c (by omega)]; exact H.1 i hi, fun k hk => by rw [ownH_c (by omega), ownH_c (by omega)]; exact H.2.1 k hk, fun c h1 h2 i hi => by
    by_cases hc : c = 5
    · subst hc
      exact (if_pos ⟨rfl, hi⟩).trans (if_pos ⟨rfl, hi⟩).symm
    · rw [ownH_c hc, ownH_c hc]; exact H.f c h1 h2 hi⟩
theorem HJ.own {h : Mem} {n m : Nat} (H : HJ h n) : HJ (ownH h m) n := fun i hi => by
  rw [ownH_c (by omega), ownH_c (by omega), ownH_c (by omega), ownH_c (by omega), ownH_c (by omega), ownH_c (by omega)]
  exact H i hi
set_option maxRecDepth 20000 in
theorem rf_own {M σ : Mem} {a : Int32} (hR : RR M σ) (hI : Inv σ) {Q : Option Value → Mem → Prop} (hQ : ∀ u' M', PostR (opOwn σ a) u' M' → Q u' M') : CT mX5_own shR 8 [.ref 0, .int a] M Q := by
  refine CT.mk [some (.ref 0), some (.int a), none, none, none] (by decide) (Nat.le_of_ble_eq_true rfl) rfl rfl ?_
  refine G_aload_n (K := mX5_own) (i := 0) dX5_own_0 rfl rfl ?_
  refine G_iload_n (K := mX5_own) (i := 1) dX5_own_1 rfl rfl ?_
  refine G_bipush (K := mX5_own) (v := 60) dX5_own_2 (by decide) ?_
  refine G_cv (K := mX5_own) (rf_refHours (a := a) (m := 60) hR hI ⟨rfl, rfl⟩) vX5_refusesHours rfl lX5_208 dX5_own_4 ⟨_, _, _, rfl, rfl, rfl⟩ (by decide) rfl (Nat.le_of_ble_eq_true rfl) ?_
  refine G_istore_n (K := mX5_own) (i := 2) dX5_own_7 rfl (by decide) ?_
  refine G_iload_n (K := mX5_own) (i := 2) dX5_own_8 rfl rfl ?_
  refine G_if_eq (K := mX5_own) (tgt := 18) dX5_own_9 (by decide) (fun c9 => ?_) (fun c9 => ?_)
  · skip
    obtain ⟨k, hk1, hk2, rfl⟩ := refH_nat c9
    have hn8 := hI.n8
    have hk60 : k ≤ 60 := refH_60 (m := 60) hk2 (by omega) c9
    refine G_aload_n (K := mX5_own) (i := 0) dX5_own_18 rfl rfl ?_
    refine G_iload_n (K := mX5_own) (i := 1) dX5_own_19 rfl rfl ?_
    refine G_call0 (K := mX5_own) (as := [.int (nI k)]) (r := 0) (Q' := fun u Mz => u = none ∧ toH (Mz 1) = toH (M 1) ∧ toH (Mz 3) = toH (M 1) ∧ (∀ r, r < nOf σ → Mz 10 r = aH σ k 2 r) ∧ ∀ c, c ≠ 1 → c ≠ 3 → c ≠ 7 → c ≠ 9 → c ≠ 10 → Mz c = M c) (c_X5_liveAnyhow (n := nOf σ) (k := k) (hR.n hI) hI.n8 (by omega) (hR.hj hI) (hR.ho hI) (fun Mz h1 h2 h3 h4 h5 => ⟨rfl, h1, h2, fun r hr => by rw [h4 r (by have := hI.n8; omega), h3 r hr]; exact (hoursH_congr hR.1 k).f 2 (by omega) (by omega) hr, h5⟩)) vX5_liveAnyhow rfl lX5_201 ⟨_, _, _, rfl, rfl, rfl⟩ (by decide) (Nat.le_of_ble_eq_true rfl) dX5_own_20 rfl ?_
    rintro v M2 ⟨rfl, h21, h23, h2A, h2c⟩
    refine G_iconst (K := mX5_own) (v := 0) dX5_own_23 (by decide) ?_
    refine G_istore_n (K := mX5_own) (i := 3) dX5_own_24 rfl (by decide) ?_
    have loop25 : ∀ i, i ≤ nOf σ → ∀ (M3 : Mem), toH (M3 1) = ownH (toH (M 1)) i → toH (M3 3) = toH (M 1) → (∀ r, r < nOf σ → M3 10 r = aH σ k 2 r) → (∀ c, c ≠ 1 → c ≠ 3 → c ≠ 7 → c ≠ 9 → c ≠ 10 → M3 c = M c) → G mX5_own shR 8 Q 25 [some (.ref 0), some (.int (nI k)), some (.int (refH σ (nI k) 60)), some (.int (nI i)), none] [] M3 := by
      refine upto (nOf σ) (fun i hi ih => ?_)
      intro M3 h31 h33 h3A h3c
      have hn3 : M3 1 2 = nI (nOf σ) := by rw [← toH_n (M3 1), h31, ownH_c (by omega)]; exact hR.n hI
      refine G_iload_n (K := mX5_own) (i := 3) dX5_own_25 rfl rfl ?_
      refine G_aload_n (K := mX5_own) (i := 0) dX5_own_26 rfl rfl ?_
      refine G_getr (K := mX5_own) fX5_9 dX5_own_27 rfl rfl ?_
      refine G_iconst (K := mX5_own) (v := 2) dX5_own_30 (by decide) ?_
      refine G_ld (K := mX5_own) 2 dX5_own_31 rfl rfl (by omega) (by decide) ?_
      refine G_icmp_ge (K := mX5_own) (tgt := 52) dX5_own_32 (by decide) (fun c32 => ?_) (fun c32 => ?_)
      · skip
        rw [hn3, le_nn (by have := hI.n8; omega) (by have := hI.n8; omega)] at c32
        have hin : i = nOf σ := by omega
        refine G_aload_n (K := mX5_own) (i := 0) dX5_own_52 rfl rfl ?_
        refine G_iload_n (K := mX5_own) (i := 1) dX5_own_53 rfl rfl ?_
        have hnW : M3 1 2 = nI (nOf σ) := hn3
        have hJW : HJ (toH (M3 1)) (nOf σ) := by rw [h31]; exact (hR.hj hI).own
        have hoW : 0 ≤ (toH (M3 1) 0 1).toInt := by rw [h31, ownH_c (by omega)]; exact hR.ho hI
        refine G_call0 (K := mX5_own) (as := [.int (nI k)]) (r := 0) (Q' := fun u Mz => u = none ∧ toH (Mz 1) = toH (M3 3) ∧ (∀ r, r < nOf σ → Mz 9 r = hoursH (nOf σ) k (toH (M3 1)) 2 r) ∧ ∀ c, c ≠ 1 → c ≠ 7 → c ≠ 9 → Mz c = M3 c) (c_X5_live (M := M3) (n := nOf σ) (k := k) hnW hI.n8 (by omega) hJW hoW (fun Mz h1 h2 h3 => ⟨rfl, h1, h2, h3⟩)) vX5_live rfl lX5_194 ⟨_, _, _, rfl, rfl, rfl⟩ (by decide) (Nat.le_of_ble_eq_true rfl) dX5_own_54 rfl ?_
        rintro z M4 ⟨rfl, h41, h42, h43⟩
        rw [h33] at h41
        have f9 : ∀ r, r < nOf σ → M4 9 r = hoursH (nOf σ) k (ownH σ (nOf σ)) 2 r := fun r hr => by rw [h42 r hr, h31, hin]; exact (hoursH_congr (ownH_HR hR.1) k).f 2 (by omega) (by omega) hr
        have h4A : M4 10 = M3 10 := by rw [h43 10 (by decide) (by decide) (by decide)]
        have h4c : ∀ c, c ≠ 1 → c ≠ 3 → c ≠ 7 → c ≠ 9 → c ≠ 10 → M4 c = M c := fun c a b d e f => by rw [h43 c a d e]; exact h3c c a b d e f
        have hn4 : M4 1 2 = nI (nOf σ) := by rw [← toH_n (M4 1), h41]; exact hR.n hI
        have hR4 : RR M4 σ := hR.scr4 h41 h4c
        refine G_iconst (K := mX5_own) (v := 0) dX5_own_57 (by decide) ?_
        refine G_istore_n (K := mX5_own) (i := 3) dX5_own_58 rfl (by decide) ?_
        refine G_iconst (K := mX5_own) (v := 0) dX5_own_59 (by decide) ?_
        refine G_istore (K := mX5_own) dX5_own_60 (by decide) ?_
        have loop62 : ∀ y, y ≤ nOf σ → ∀ s, s = bits (fun i => decide (aH σ k 2 i < hoursH (nOf σ) k (ownH σ (nOf σ)) 2 i)) y → G mX5_own shR 8 Q 62 [some (.ref 0), some (.int (nI k)), some (.int (refH σ (nI k) 60)), some (.int s), some (.int (nI y))] [] M4 := by
          refine upto (nOf σ) (fun y hy yh => ?_)
          intro s hs2
          refine G_iload (K := mX5_own) dX5_own_62 rfl ?_
          refine G_aload_n (K := mX5_own) (i := 0) dX5_own_64 rfl rfl ?_
          refine G_getr (K := mX5_own) fX5_9 dX5_own_65 rfl rfl ?_
          refine G_iconst (K := mX5_own) (v := 2) dX5_own_68 (by decide) ?_
          refine G_ld (K := mX5_own) 2 dX5_own_69 rfl rfl (by omega) (by decide) ?_
          refine G_icmp_ge (K := mX5_own) (tgt := 107) dX5_own_70 (by decide) (fun c70 => ?_) (fun c70 => ?_)
          · skip
            rw [hn4, le_nn (by have := hI.n8; omega) (by have := hI.n8; omega)] at c70
            have hyn : y = nOf σ := by omega
            rw [hyn] at hs2
            refine G_iload_n (K := mX5_own) (i := 3) dX5_own_107 rfl rfl ?_
            exact G_iret (st := []) (K := mX5_own) dX5_own_108 rfl (hQ _ _ (by rw [show opOwn σ (nI k) = (bits (fun i => decide (aH σ (cut (nI k)) 2 i < hoursH (nOf σ) (cut (nI k)) (ownH σ (nOf σ)) 2 i)) (nOf σ), σ) from if_pos c9, cut_nI hk2, ← hs2]; exact ⟨rfl, hR4⟩))
          · skip
            rw [hn4, le_nn (by have := hI.n8; omega) (by have := hI.n8; omega)] at c70
            have hn8 := hI.n8
            refine G_iload_n (K := mX5_own) (i := 3) dX5_own_73 rfl rfl ?_
            refine G_aload_n (K := mX5_own) (i := 0) dX5_own_74 rfl rfl ?_
            refine G_getr (K := mX5_own) fX5_34 dX5_own_75 rfl rfl ?_
            refine G_iload (K := mX5_own) dX5_own_78 rfl ?_
            refine G_ld (K := mX5_own) y dX5_own_80 rfl rfl (by omega) (by decide) ?_
            refine G_aload_n (K := mX5_own) (i := 0) dX5_own_81 rfl rfl ?_
            refine G_getr (K := mX5_own) fX5_37 dX5_own_82 rfl rfl ?_
            refine G_iload (K := mX5_own) dX5_own_85 rfl ?_
            refine G_ld (K := mX5_own) y dX5_own_87 rfl rfl (by omega) (by decide) ?_
            rw [f9 y (by omega), h4A, h3A y (by omega)]
            refine G_icmp_le (K := mX5_own) (tgt := 98) dX5_own_88 (by decide) (fun c88 => ?_) (fun c88 => ?_)
            · skip
              refine G_iconst (K := mX5_own) (v := 0) dX5_own_98 (by decide) ?_
              refine G_ior (K := mX5_own) dX5_own_99 ?_
              refine G_istore_n (K := mX5_own) (i := 3) dX5_own_100 rfl (by decide) ?_
              refine G_iincN (K := mX5_own) dX5_own_101 (by decide) rfl ?_
              refine G_goto (K := mX5_own) (tgt := 62) dX5_own_104 (by decide) ?_
              exact yh (y + 1) (by omega) (by omega) _ (by rw [bits_f (by rw [decide_eq_true_iff]; exact Int32.not_lt.mpr c88), hs2]; exact Int32.or_zero)
            · skip
              refine G_iconst (K := mX5_own) (v := 1) dX5_own_91 (by decide) ?_
              refine G_iload (K := mX5_own) dX5_own_92 rfl ?_
              refine G_ishl (K := mX5_own) dX5_own_94 ?_
              refine G_goto (K := mX5_own) (tgt := 99) dX5_own_95 (by decide) ?_
              refine G_ior (K := mX5_own) dX5_own_99 ?_
              refine G_istore_n (K := mX5_own) (i := 3) dX5_own_100 rfl (by decide) ?_
              refine G_iincN (K := mX5_own) dX5_own_101 (by decide) rfl ?_
              refine G_goto (K := mX5_own) (tgt := 62) dX5_own_104 (by decide) ?_
              exact yh (y + 1) (by omega) (by omega) _ (by rw [bits_t (decide_eq_true (Int32.not_le.mp c88)), hs2]; rfl)
        exact loop62 0 (by omega) _ rfl
      · skip
        rw [hn3, le_nn (by have := hI.n8; omega) (by have := hI.n8; omega)] at c32
        have hn8 := hI.n8
        refine G_aload_n (K := mX5_own) (i := 0) dX5_own_35 rfl rfl ?_
        refine G_getr (K := mX5_own) fX5_9 dX5_own_36 rfl rfl ?_
        refine G_iload_n (K := mX5_own) (i := 3) dX5_own_39 rfl rfl ?_
        refine G_iconst (K := mX5_own) (v := 4) dX5_own_40 (by decide) ?_
        refine G_sv (K := mX5_own) (c_X5_at (i := i) (f := 4) (by omega) (by omega) ⟨rfl, rfl⟩) sX5_at rfl lX5_101 dX5_own_41 (by decide) rfl (Nat.le_of_ble_eq_true rfl) ?_
        refine G_iload_n (K := mX5_own) (i := 3) dX5_own_44 rfl rfl ?_
        refine G_sto (K := mX5_own) (14 + 9 * i + 4) dX5_own_45 rfl rfl (by omega) (by decide) ?_
        refine G_iincN (K := mX5_own) dX5_own_46 (by decide) rfl ?_
        refine G_goto (K := mX5_own) (tgt := 25) dX5_own_49 (by decide) ?_
        exact ih (i + 1) (by omega) (by omega) _ (by rw [toH_ups (f := 4) (by omega) (by omega), h31]; exact ownH_s) (by rw [ups_cell (by decide)]; exact h33) (fun r hr => by rw [ups_cell (by decide)]; exact h3A r hr) (fun c a b d e f => by rw [ups_cell a]; exact h3c c a b d e f)
    exact loop25 0 (by omega) M2 (by rw [ownH_0]; exact h21) h23 h2A h2c
  · skip
    refine G_aload_n (K := mX5_own) (i := 0) dX5_own_12 rfl rfl ?_
    refine G_iload_n (K := mX5_own) (i := 2) dX5_own_13 rfl rfl ?_
    obtain ⟨q, hq, eq⟩ := refH_fin c9
    rw [eq]
    refine G_call0 (K := mX5_own) (Q' := PostR (tl σ q)) (rf_finding hR (k := q) (by omega) (fun _ _ h => h)) vX5_finding rfl lX5_109 ⟨_, _, _, rfl, rfl, rfl⟩ (by decide) (Nat.le_of_ble_eq_true rfl) dX5_own_14 rfl ?_
    rintro v M1 ⟨rfl, hR1⟩
    exact G_iret (st := []) (K := mX5_own) dX5_own_17 rfl (hQ _ _ (by rw [show opOwn σ a = _ from (by unfold opOwn; exact (if_neg c9).trans ((congrArg (tlI σ) eq).trans (tlI_fin hq)))]; exact ⟨rfl, hR1⟩))
