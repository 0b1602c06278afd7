theorem hoursH_wall (h : Mem) (n : Nat) : ∀ k, hoursH n k h 4 = h 4
  | 0 => rfl
  | k + 1 => hoursH_wall h n k
set_option maxRecDepth 20000 in
theorem c_X0_leastWarmth {M : Mem} {n : Nat} (hn : M 0 0 = nI n) (hn8 : n ≤ 8) {Q : Option Value → Mem → Prop} (hQ : Q (some (.int (leastN (M 2) n))) M) : CT mX0_leastWarmth shH 1 [.ref 0] M Q := by
  refine CT.mk [some (.ref 0), none] (by decide) (Nat.le_of_ble_eq_true rfl) rfl rfl ?_
  refine G_aload_n (K := mX0_leastWarmth) (i := 0) dX0_leastWarmth_0 rfl rfl ?_
  refine G_cv (K := mX0_leastWarmth) (c_X0_coldestRoom hn hn8 ⟨rfl, rfl⟩) vX0_coldestRoom rfl lX0_113 dX0_leastWarmth_1 ⟨_, _, _, rfl, rfl, rfl⟩ (by decide) rfl (Nat.le_of_ble_eq_true rfl) ?_
  refine G_istore_n (K := mX0_leastWarmth) (i := 1) dX0_leastWarmth_4 rfl (by decide) ?_
  refine G_iload_n (K := mX0_leastWarmth) (i := 1) dX0_leastWarmth_5 rfl rfl ?_
  refine G_if_ge (K := mX0_leastWarmth) (tgt := 15) dX0_leastWarmth_6 (by decide) (fun c6 => ?_) (fun c6 => ?_)
  · skip
    obtain ⟨j, hj, ej⟩ : ∃ j, j < n ∧ coldN (M 2) n = nI j := by
      rcases coldN_pos (M 2) n (by omega) with ⟨rfl, e⟩ | h
      · rw [e] at c6; exact absurd c6 (by decide)
      · exact h
    have e : leastN (M 2) n = M 2 j := by
      unfold leastN
      rw [if_neg (Int32.not_lt.mpr c6), ej, nI_clamp (by omega)]
    refine G_aload_n (K := mX0_leastWarmth) (i := 0) dX0_leastWarmth_15 rfl rfl ?_
    refine G_getr (K := mX0_leastWarmth) fX0_22 dX0_leastWarmth_16 rfl rfl ?_
    refine G_iload_n (K := mX0_leastWarmth) (i := 1) dX0_leastWarmth_19 rfl rfl ?_
    refine G_ld (K := mX0_leastWarmth) j dX0_leastWarmth_20 rfl ej (by omega) (by decide) ?_
    exact G_irm (K := mX0_leastWarmth) dX0_leastWarmth_21 rfl e.symm rfl hQ
  · skip
    have e : leastN (M 2) n = 300 := by
      unfold leastN
      rw [if_pos (Int32.not_le.mp c6)]
    refine G_sipush (K := mX0_leastWarmth) (v := 300) dX0_leastWarmth_9 (by decide) ?_
    refine G_goto (K := mX0_leastWarmth) (tgt := 21) dX0_leastWarmth_12 (by decide) ?_
    exact G_irm (K := mX0_leastWarmth) dX0_leastWarmth_21 rfl e.symm rfl hQ

/-- behind the first loop, i rooms done -/
def stoked (M M' : Mem) (i : Nat) : Prop := (∀ c, c ≠ 3 → c ≠ 9 → M' c = M c) ∧ (∀ r, M' 9 r = if r < i then stokeH M r else M 9 r) ∧ ∀ r, M' 3 r = if r < i then M 3 r - stokeH M r else M 3 r
theorem stoked.at {M M' : Mem} {i : Nat} (h : stoked M M' i) : stokeH M' i = stokeH M i := by
  unfold stokeH wantsH
  rw [h.1 0 (by decide) (by decide), h.1 1 (by decide) (by decide), h.1 2 (by decide) (by decide), h.1 8 (by decide) (by decide), h.1 6 (by decide) (by decide), h.2.1 i, h.2.2 i, if_neg (Nat.lt_irrefl i), if_neg (Nat.lt_irrefl i)]
theorem stoked.next {M M' : Mem} {i : Nat} (h : stoked M M' i) : stoked M (ups (ups M' 9 i (stokeH M i)) 3 i (M' 3 i - stokeH M i)) (i + 1) := by
  refine ⟨fun c h1 h2 => by rw [ups_cell h1, ups_cell h2]; exact h.1 c h1 h2, fun r => ?_, fun r => ?_⟩
  · rw [ups_cell (by decide : (9 : Nat) ≠ 3)]
    by_cases hr : r = i
    · subst hr; rw [ups_same, if_pos (by omega)]
    · rw [ups_ne (fun z => hr z.2), h.2.1 r]
      by_cases h2 : r < i
      · rw [if_pos h2, if_pos (by omega)]
      · rw [if_neg h2, if_neg (by omega)]
  · by_cases hr : r = i
    · subst hr; rw [ups_same, if_pos (by omega), h.2.2 r, if_neg (by omega)]
    · rw [ups_ne (fun z => hr z.2), ups_cell (by decide : (3 : Nat) ≠ 9), h.2.2 r]
      by_cases h2 : r < i
      · rw [if_pos h2, if_pos (by omega)]
      · rw [if_neg h2, if_neg (by omega)]
theorem stoked.got {M M' : Mem} {n : Nat} (h : stoked M M' n) (j : Nat) : sumN (giveH M' j) n = gotH M n j := by
  refine sumN_congr n (fun r hr => ?_)
  show (if M' 5 r = nI j then maxI 0 (M' 9 r - M' 7 r) else 0) = _
  rw [h.1 5 (by decide) (by decide), h.1 7 (by decide) (by decide), h.2.1 r, if_pos hr]
/-- behind the second loop -/
def warmed (M M4 M5 : Mem) (n i : Nat) : Prop := (∀ c, c ≠ 2 → M5 c = M4 c) ∧ ∀ r, M5 2 r = if r < i then warmH M n r else M 2 r
set_option maxRecDepth 20000 in
theorem c_X0_passHour {M : Mem} {n : Nat} (hn : M 0 0 = nI n) (hn8 : n ≤ 8) (hw : ∀ i, i < n → 0 < M 4 i) {Q : Option Value → Mem → Prop} (hQ : ∀ M2 : Mem, HR M2 (hourH M n) n → Q (some (.int (stSum M n))) M2) : CT mX0_passHour shH 3 [.ref 0] M Q := by
  refine CT.mk [some (.ref 0), none, none] (by decide) (Nat.le_of_ble_eq_true rfl) rfl rfl ?_
  refine G_iconst (K := mX0_passHour) (v := 0) dX0_passHour_0 (by decide) ?_
  refine G_istore_n (K := mX0_passHour) (i := 1) dX0_passHour_1 rfl (by decide) ?_
  refine G_iconst (K := mX0_passHour) (v := 0) dX0_passHour_2 (by decide) ?_
  refine G_istore_n (K := mX0_passHour) (i := 2) dX0_passHour_3 rfl (by decide) ?_
  have loop4 : ∀ i, i ≤ n → ∀ s, s = sumN (stokeH M) i → ∀ M1, stoked M M1 i → G mX0_passHour shH 3 Q 4 [some (.ref 0), some (.int s), some (.int (nI i))] [] M1 := by
    refine upto n (fun i hi ih => ?_)
    intro s hs2 M1 h1
    have hn1 : M1 0 0 = nI n := by rw [h1.1 0 (by decide) (by decide)]; exact hn
    refine G_iload_n (K := mX0_passHour) (i := 2) dX0_passHour_4 rfl rfl ?_
    refine G_aload_n (K := mX0_passHour) (i := 0) dX0_passHour_5 rfl rfl ?_
    refine G_geti (K := mX0_passHour) fX0_55 dX0_passHour_6 rfl rfl ?_
    refine G_icmp_ge (K := mX0_passHour) (tgt := 53) dX0_passHour_9 (by decide) (fun c9 => ?_) (fun c9 => ?_)
    · skip
      rw [hn1, le_nn (by omega) (by omega)] at c9
      have hin : i = n := by omega
      subst hin
      refine G_aload_n (K := mX0_passHour) (i := 0) dX0_passHour_53 rfl rfl ?_
      refine G_call0 (K := mX0_passHour) (Q' := fun v M2 => v = none ∧ (∀ c, c ≠ 8 → M2 c = M1 c) ∧ ∀ j, j < i → M2 8 j = sumN (giveH M1 j) i) (c_X0_heat hn1 hn8 (fun M2 h1 h2 => ⟨rfl, h1, h2⟩)) vX0_heat rfl lX0_94 ⟨_, _, _, rfl, rfl, rfl⟩ (by decide) (Nat.le_of_ble_eq_true rfl) dX0_passHour_54 rfl ?_
      rintro v M4 ⟨rfl, h41, h42⟩
      have hn4 : M4 0 0 = nI i := by rw [h41 0 (by decide)]; exact hn1
      refine G_iconst (K := mX0_passHour) (v := 0) dX0_passHour_57 (by decide) ?_
      refine G_istore_n (K := mX0_passHour) (i := 2) dX0_passHour_58 rfl (by decide) ?_
      have loop59 : ∀ k, k ≤ i → ∀ M5, warmed M M4 M5 i k → G mX0_passHour shH 3 Q 59 [some (.ref 0), some (.int s), some (.int (nI k))] [] M5 := by
        refine upto i (fun k hk ih2 => ?_)
        intro M5 h5
        have hn5 : M5 0 0 = nI i := by rw [h5.1 0 (by decide)]; exact hn4
        refine G_iload_n (K := mX0_passHour) (i := 2) dX0_passHour_59 rfl rfl ?_
        refine G_aload_n (K := mX0_passHour) (i := 0) dX0_passHour_60 rfl rfl ?_
        refine G_geti (K := mX0_passHour) fX0_55 dX0_passHour_61 rfl rfl ?_
        refine G_icmp_ge (K := mX0_passHour) (tgt := 115) dX0_passHour_64 (by decide) (fun c64 => ?_) (fun c64 => ?_)
        · skip
          rw [hn5, le_nn (by omega) (by omega)] at c64
          have hki : k = i := by omega
          subst hki
          refine G_aload_n (K := mX0_passHour) (i := 0) dX0_passHour_115 rfl rfl ?_
          refine G_dup (K := mX0_passHour) dX0_passHour_116 rfl ?_
          refine G_geti (K := mX0_passHour) fX0_68 dX0_passHour_117 rfl rfl ?_
          refine G_iconst (K := mX0_passHour) (v := 1) dX0_passHour_120 (by decide) ?_
          refine G_iadd (K := mX0_passHour) dX0_passHour_121 ?_
          refine G_puti (K := mX0_passHour) fX0_68 w0_2 dX0_passHour_122 rfl rfl ?_
          refine G_iload_n (K := mX0_passHour) (i := 1) dX0_passHour_125 rfl rfl ?_
          refine G_irm (K := mX0_passHour) dX0_passHour_126 rfl hs2 rfl (hQ _ ⟨fun q hq => ?_, fun q hq => ?_, fun c hc1 hc2 q hq => ?_⟩)
          · show _ = if q = 2 then M 0 2 + 1 else M 0 q
            by_cases hq2 : q = 2
            · subst hq2; rw [ups_same, if_pos rfl, h5.1 0 (by decide), h41 0 (by decide), h1.1 0 (by decide) (by decide)]
            · rw [ups_ne (fun z => hq2 z.2), if_neg hq2, h5.1 0 (by decide), h41 0 (by decide), h1.1 0 (by decide) (by decide)]
          · rw [ups_cell (by decide : (10 : Nat) ≠ 0), h5.1 10 (by decide), h41 10 (by decide), h1.1 10 (by decide) (by decide)]; rfl
          · rw [ups_cell (by omega : c ≠ 0)]
            have h3 : c = 1 ∨ c = 2 ∨ c = 3 ∨ c = 4 ∨ c = 5 ∨ c = 6 ∨ c = 7 ∨ c = 8 ∨ c = 9 := by omega
            rcases h3 with rfl | rfl | rfl | rfl | rfl | rfl | rfl | rfl | rfl
            · rw [h5.1 1 (by decide), h41 1 (by decide), h1.1 1 (by decide) (by decide)]; rfl
            · rw [h5.2 q]; rfl
            · rw [h5.1 3 (by decide), h41 3 (by decide), h1.2.2 q]; rfl
            · rw [h5.1 4 (by decide), h41 4 (by decide), h1.1 4 (by decide) (by decide)]; rfl
            · rw [h5.1 5 (by decide), h41 5 (by decide), h1.1 5 (by decide) (by decide)]; rfl
            · rw [h5.1 6 (by decide), h41 6 (by decide), h1.1 6 (by decide) (by decide)]; rfl
            · rw [h5.1 7 (by decide), h41 7 (by decide), h1.1 7 (by decide) (by decide)]; rfl
            · rw [h5.1 8 (by decide), h42 q hq, h1.got]; exact (if_pos hq).symm
            · rw [h5.1 9 (by decide), h41 9 (by decide), h1.2.1 q]; rfl
        · skip
          rw [hn5, le_nn (by omega) (by omega)] at c64
          refine G_aload_n (K := mX0_passHour) (i := 0) dX0_passHour_67 rfl rfl ?_
          refine G_getr (K := mX0_passHour) fX0_22 dX0_passHour_68 rfl rfl ?_
          refine G_iload_n (K := mX0_passHour) (i := 2) dX0_passHour_71 rfl rfl ?_
          refine G_aload_n (K := mX0_passHour) (i := 0) dX0_passHour_72 rfl rfl ?_
          refine G_getr (K := mX0_passHour) fX0_22 dX0_passHour_73 rfl rfl ?_
          refine G_iload_n (K := mX0_passHour) (i := 2) dX0_passHour_76 rfl rfl ?_
          refine G_ld (K := mX0_passHour) _ dX0_passHour_77 rfl rfl (by omega) (by decide) ?_
          refine G_bipush (K := mX0_passHour) (v := 15) dX0_passHour_78 (by decide) ?_
          refine G_aload_n (K := mX0_passHour) (i := 0) dX0_passHour_80 rfl rfl ?_
          refine G_getr (K := mX0_passHour) fX0_40 dX0_passHour_81 rfl rfl ?_
          refine G_iload_n (K := mX0_passHour) (i := 2) dX0_passHour_84 rfl rfl ?_
          refine G_ld (K := mX0_passHour) _ dX0_passHour_85 rfl rfl (by omega) (by decide) ?_
          refine G_imul (K := mX0_passHour) dX0_passHour_86 ?_
          refine G_iadd (K := mX0_passHour) dX0_passHour_87 ?_
          refine G_sipush (K := mX0_passHour) (v := 300) dX0_passHour_88 (by decide) ?_
          refine G_min (K := mX0_passHour) qX0_77 dX0_passHour_91 (by decide) (Nat.le_of_ble_eq_true rfl) ?_
          refine G_sto (K := mX0_passHour) _ dX0_passHour_94 rfl rfl (by omega) (by decide) ?_
          refine G_aload_n (K := mX0_passHour) (i := 0) dX0_passHour_95 rfl rfl ?_
          refine G_getr (K := mX0_passHour) fX0_22 dX0_passHour_96 rfl rfl ?_
          refine G_iload_n (K := mX0_passHour) (i := 2) dX0_passHour_99 rfl rfl ?_
          refine G_dup2 (K := mX0_passHour) dX0_passHour_100 rfl rfl ?_
          refine G_ld (K := mX0_passHour) _ dX0_passHour_101 rfl rfl (by omega) (by decide) ?_
          refine G_aload_n (K := mX0_passHour) (i := 0) dX0_passHour_102 rfl rfl ?_
          refine G_iload_n (K := mX0_passHour) (i := 2) dX0_passHour_103 rfl rfl ?_
          refine G_cv (K := mX0_passHour) (c_X0_lostBy (i := k) (by omega) (by rw [ups_cell (by decide : (4 : Nat) ≠ 2), h5.1 4 (by decide), h41 4 (by decide), h1.1 4 (by decide) (by decide)]; exact hw k (by omega)) ⟨rfl, rfl⟩) vX0_lostBy rfl lX0_97 dX0_passHour_104 ⟨_, _, _, rfl, rfl, rfl⟩ (by decide) rfl (Nat.le_of_ble_eq_true rfl) ?_
          refine G_isub (K := mX0_passHour) dX0_passHour_107 ?_
          refine G_sto (K := mX0_passHour) _ dX0_passHour_108 rfl rfl (by omega) (by decide) ?_
          refine G_iincN (K := mX0_passHour) dX0_passHour_109 (by decide) rfl ?_
          refine G_goto (K := mX0_passHour) (tgt := 59) dX0_passHour_112 (by decide) ?_
          refine ih2 (k + 1) (by omega) (by omega) _ ⟨fun c hc => by rw [ups_cell hc, ups_cell hc]; exact h5.1 c hc, fun r => ?_⟩
          by_cases hr : r = k
          · subst hr
            rw [ups_same, if_pos (Nat.lt_succ_self r), ups_same, ups_cell (by decide : (0 : Nat) ≠ 2), ups_cell (by decide : (4 : Nat) ≠ 2), h5.2 r, if_neg (Nat.lt_irrefl r), h5.1 8 (by decide), h42 r (by omega), h1.got, h5.1 0 (by decide), h41 0 (by decide), h1.1 0 (by decide) (by decide), h5.1 4 (by decide), h41 4 (by decide), h1.1 4 (by decide) (by decide)]
            have e : (if 300 < M 2 r + 15 * gotH M i r then 300 else M 2 r + 15 * gotH M i r) = minI 300 (M 2 r + 15 * gotH M i r) := minI_comm _ _
            rw [e]
            rfl
          · rw [ups_ne (fun z => hr z.2), ups_ne (fun z => hr z.2), h5.2 r]
            by_cases h2 : r < k
            · rw [if_pos h2, if_pos (by omega)]
            · rw [if_neg h2, if_neg (by omega)]
      exact loop59 0 (by omega) M4 ⟨fun _ _ => rfl, fun r => by rw [if_neg (by omega), h41 2 (by decide), h1.1 2 (by decide) (by decide)]⟩
    · skip
      rw [hn1, le_nn (by omega) (by omega)] at c9
      refine G_aload_n (K := mX0_passHour) (i := 0) dX0_passHour_12 rfl rfl ?_
      refine G_getr (K := mX0_passHour) fX0_43 dX0_passHour_13 rfl rfl ?_
      refine G_iload_n (K := mX0_passHour) (i := 2) dX0_passHour_16 rfl rfl ?_
      refine G_aload_n (K := mX0_passHour) (i := 0) dX0_passHour_17 rfl rfl ?_
      refine G_iload_n (K := mX0_passHour) (i := 2) dX0_passHour_18 rfl rfl ?_
      refine G_cv (K := mX0_passHour) (c_X0_stokes (M := M1) (i := i) (by omega) ⟨rfl, rfl⟩) vX0_stokes rfl lX0_91 dX0_passHour_19 ⟨_, _, _, rfl, rfl, rfl⟩ (by decide) rfl (Nat.le_of_ble_eq_true rfl) ?_
      refine G_sto (K := mX0_passHour) _ dX0_passHour_22 rfl rfl (by omega) (by decide) ?_
      refine G_aload_n (K := mX0_passHour) (i := 0) dX0_passHour_23 rfl rfl ?_
      refine G_getr (K := mX0_passHour) fX0_25 dX0_passHour_24 rfl rfl ?_
      refine G_iload_n (K := mX0_passHour) (i := 2) dX0_passHour_27 rfl rfl ?_
      refine G_dup2 (K := mX0_passHour) dX0_passHour_28 rfl rfl ?_
      refine G_ld (K := mX0_passHour) _ dX0_passHour_29 rfl rfl (by omega) (by decide) ?_
      refine G_aload_n (K := mX0_passHour) (i := 0) dX0_passHour_30 rfl rfl ?_
      refine G_getr (K := mX0_passHour) fX0_43 dX0_passHour_31 rfl rfl ?_
      refine G_iload_n (K := mX0_passHour) (i := 2) dX0_passHour_34 rfl rfl ?_
      refine G_ld (K := mX0_passHour) _ dX0_passHour_35 rfl rfl (by omega) (by decide) ?_
      refine G_isub (K := mX0_passHour) dX0_passHour_36 ?_
      refine G_sto (K := mX0_passHour) _ dX0_passHour_37 rfl rfl (by omega) (by decide) ?_
      refine G_iload_n (K := mX0_passHour) (i := 1) dX0_passHour_38 rfl rfl ?_
      refine G_aload_n (K := mX0_passHour) (i := 0) dX0_passHour_39 rfl rfl ?_
      refine G_getr (K := mX0_passHour) fX0_43 dX0_passHour_40 rfl rfl ?_
      refine G_iload_n (K := mX0_passHour) (i := 2) dX0_passHour_43 rfl rfl ?_
      refine G_ld (K := mX0_passHour) _ dX0_passHour_44 rfl rfl (by omega) (by decide) ?_
      refine G_iadd (K := mX0_passHour) dX0_passHour_45 ?_
      refine G_istore_n (K := mX0_passHour) (i := 1) dX0_passHour_46 rfl (by decide) ?_
      refine G_iincN (K := mX0_passHour) dX0_passHour_47 (by decide) rfl ?_
      refine G_goto (K := mX0_passHour) (tgt := 4) dX0_passHour_50 (by decide) ?_
      refine ih (i + 1) (by omega) (by omega) _ ?_ _ ?_
      · rw [ups_cell (by decide : (9 : Nat) ≠ 3), ups_same, h1.at, hs2]; rfl
      · have e := h1.next
        rw [← h1.at] at e
        have e2 : ups M1 9 i (stokeH M1 i) 3 i - ups M1 9 i (stokeH M1 i) 9 i = M1 3 i - stokeH M1 i := by rw [ups_cell (by decide : (3 : Nat) ≠ 9), ups_same]
        rw [e2]
        exact e
  exact loop4 0 (by omega) _ rfl M ⟨fun _ _ _ => rfl, fun r => by rw [if_neg (by omega)], fun r => by rw [if_neg (by omega)]⟩

set_option maxRecDepth 20000 in
theorem c_X0_passHours {M : Mem} {k : Nat} {n : Nat} (hn : M 0 0 = nI n) (hn8 : n ≤ 8) (hk : k < 2147483648) (hw : ∀ i, i < n → 0 < M 4 i) {Q : Option Value → Mem → Prop} (hQ : ∀ M2 : Mem, HR M2 (hoursH n k M) n → Q (some (.int (hoursSum n k M))) M2) : CT mX0_passHours shH 4 [.ref 0, .int (nI k)] M Q := by
  refine CT.mk [some (.ref 0), some (.int (nI k)), none, none] (by decide) (Nat.le_of_ble_eq_true rfl) rfl rfl ?_
  refine G_iconst (K := mX0_passHours) (v := 0) dX0_passHours_0 (by decide) ?_
  refine G_istore_n (K := mX0_passHours) (i := 2) dX0_passHours_1 rfl (by decide) ?_
  refine G_iconst (K := mX0_passHours) (v := 0) dX0_passHours_2 (by decide) ?_
  refine G_istore_n (K := mX0_passHours) (i := 3) dX0_passHours_3 rfl (by decide) ?_
  have loop4 : ∀ i, i ≤ k → ∀ s, s = hoursSum n i M → ∀ M1, HR M1 (hoursH n i M) n → G mX0_passHours shH 4 Q 4 [some (.ref 0), some (.int (nI k)), some (.int s), some (.int (nI i))] [] M1 := by
    refine upto k (fun i hi ih => ?_)
    intro s hs2 M1 h1
    have hn1 : M1 0 0 = nI n := by rw [h1.1 0 (by omega), hoursH_0]; exact hn
    refine G_iload_n (K := mX0_passHours) (i := 3) dX0_passHours_4 rfl rfl ?_
    refine G_iload_n (K := mX0_passHours) (i := 1) dX0_passHours_5 rfl rfl ?_
    refine G_icmp_ge (K := mX0_passHours) (tgt := 22) dX0_passHours_6 (by decide) (fun c6 => ?_) (fun c6 => ?_)
    · skip
      rw [le_nn (by omega) (by omega)] at c6
      have hin : i = k := by omega
      subst hin
      refine G_iload_n (K := mX0_passHours) (i := 2) dX0_passHours_22 rfl rfl ?_
      exact G_irm (K := mX0_passHours) dX0_passHours_23 rfl hs2 rfl (hQ _ h1)
    · skip
      rw [le_nn (by omega) (by omega)] at c6
      refine G_iload_n (K := mX0_passHours) (i := 2) dX0_passHours_9 rfl rfl ?_
      refine G_aload_n (K := mX0_passHours) (i := 0) dX0_passHours_10 rfl rfl ?_
      refine G_call0 (K := mX0_passHours) (Q' := fun v M2 => v = some (.int (stSum M1 n)) ∧ HR M2 (hourH M1 n) n) (c_X0_passHour hn1 hn8 (fun r hr => by rw [h1.f 4 (by omega) (by omega) hr, hoursH_wall]; exact hw r hr) (fun M2 h => ⟨rfl, h⟩)) vX0_passHour rfl lX0_87 ⟨_, _, _, rfl, rfl, rfl⟩ (by decide) (Nat.le_of_ble_eq_true rfl) dX0_passHours_11 rfl ?_
      rintro v M2 ⟨rfl, h2⟩
      refine G_iadd (K := mX0_passHours) dX0_passHours_14 ?_
      refine G_istore_n (K := mX0_passHours) (i := 2) dX0_passHours_15 rfl (by decide) ?_
      refine G_iincN (K := mX0_passHours) dX0_passHours_16 (by decide) rfl ?_
      refine G_goto (K := mX0_passHours) (tgt := 4) dX0_passHours_19 (by decide) ?_
      refine ih (i + 1) (by omega) (by omega) _ ?_ _ (h2.tr (hourH_congr h1))
      rw [hs2, stSum_congr h1]; rfl
  exact loop4 0 (by omega) _ rfl M (HR.rf _ _)
