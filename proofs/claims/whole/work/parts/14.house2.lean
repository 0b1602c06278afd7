set_option maxRecDepth 20000 in
theorem c_J7_fill_53178 {M : Mem} {n : Nat} {x : Int32} (hn : n < 2147483648) {Q : Option Value → Mem → Prop} (hQ : ∀ M2, (∀ i, i < n → M2 0 i = x) → Q none M2) : CT mJ7_fill_53178 (shI n) 0 [.ref 0, .int x] M Q := by
  refine CT.mk [some (.ref 0), some (.int x), none, none] (by decide) (Nat.le_of_ble_eq_true rfl) rfl rfl ?_
  refine G_iconst (K := mJ7_fill_53178) (v := 0) dJ7_fill_53178_0 (by decide) ?_
  refine G_istore_n (K := mJ7_fill_53178) (i := 2) dJ7_fill_53178_1 rfl (by decide) ?_
  refine G_aload_n (K := mJ7_fill_53178) (i := 0) dJ7_fill_53178_2 rfl rfl ?_
  refine G_alen (K := mJ7_fill_53178) dJ7_fill_53178_3 rfl ?_
  refine G_istore_n (K := mJ7_fill_53178) (i := 3) dJ7_fill_53178_4 rfl (by decide) ?_
  have loop5 : ∀ i, i ≤ n → ∀ M2 : Mem, (∀ k, k < i → M2 0 k = x) → G mJ7_fill_53178 (shI n) 0 Q 5 [some (.ref 0), some (.int x), some (.int (nI i)), some (.int (nI n))] [] M2 := by
    refine upto n (fun i hi ih => ?_)
    intro M2 hM2
    refine G_iload_n (K := mJ7_fill_53178) (i := 2) dJ7_fill_53178_5 rfl rfl ?_
    refine G_iload_n (K := mJ7_fill_53178) (i := 3) dJ7_fill_53178_6 rfl rfl ?_
    refine G_icmp_ge (K := mJ7_fill_53178) (tgt := 20) dJ7_fill_53178_7 (by decide) (fun c7 => ?_) (fun c7 => ?_)
    · skip
      rw [le_nn (by omega) (by omega)] at c7
      have hin : i = n := by omega
      subst hin
      exact G_vrm (K := mJ7_fill_53178) dJ7_fill_53178_20 rfl rfl (hQ M2 hM2)
    · skip
      rw [le_nn (by omega) (by omega)] at c7
      refine G_aload_n (K := mJ7_fill_53178) (i := 0) dJ7_fill_53178_10 rfl rfl ?_
      refine G_iload_n (K := mJ7_fill_53178) (i := 2) dJ7_fill_53178_11 rfl rfl ?_
      refine G_iload_n (K := mJ7_fill_53178) (i := 1) dJ7_fill_53178_12 rfl rfl ?_
      refine G_sto (K := mJ7_fill_53178) i dJ7_fill_53178_13 rfl rfl (by omega) hn ?_
      refine G_iincN (K := mJ7_fill_53178) dJ7_fill_53178_14 (by decide) rfl ?_
      refine G_goto (K := mJ7_fill_53178) (tgt := 5) dJ7_fill_53178_17 (by decide) ?_
      exact ih (i + 1) (by omega) (by omega) _ (fun k hk => by
        by_cases hki : k = i
        · subst hki; exact ups_same _ _ _ _
        · rw [ups_ne (fun z => hki z.2)]; exact hM2 k (by omega))
  exact loop5 0 (by omega) _ (fun k hk => absurd hk (by omega))

set_option maxRecDepth 20000 in
theorem c_X0_wants {M : Mem} {i : Nat} (hi : i < 8) {Q : Option Value → Mem → Prop} (hQ : Q (some (.int (wantsH M i))) M) : CT mX0_wants shH 1 [.ref 0, .int (nI i)] M Q := by
  refine CT.mk [some (.ref 0), some (.int (nI i)), none, none] (by decide) (Nat.le_of_ble_eq_true rfl) rfl rfl ?_
  refine G_aload_n (K := mX0_wants) (i := 0) dX0_wants_0 rfl rfl ?_
  refine G_getr (K := mX0_wants) fX0_22 dX0_wants_1 rfl rfl ?_
  refine G_iload_n (K := mX0_wants) (i := 1) dX0_wants_4 rfl rfl ?_
  refine G_ld (K := mX0_wants) _ dX0_wants_5 rfl rfl (by omega) (by decide) ?_
  refine G_bipush (K := mX0_wants) (v := 120) dX0_wants_6 (by decide) ?_
  refine G_icmp_lt (K := mX0_wants) (tgt := 15) dX0_wants_8 (by decide) (fun c8 => ?_) (fun c8 => ?_)
  · skip
    refine G_iconst (K := mX0_wants) (v := 1) dX0_wants_15 (by decide) ?_
    refine G_istore_n (K := mX0_wants) (i := 2) dX0_wants_16 rfl (by decide) ?_
    refine G_aload_n (K := mX0_wants) (i := 0) dX0_wants_17 rfl rfl ?_
    refine G_getr (K := mX0_wants) fX0_40 dX0_wants_18 rfl rfl ?_
    refine G_iload_n (K := mX0_wants) (i := 1) dX0_wants_21 rfl rfl ?_
    refine G_ld (K := mX0_wants) _ dX0_wants_22 rfl rfl (by omega) (by decide) ?_
    refine G_iconst (K := mX0_wants) (v := 3) dX0_wants_23 (by decide) ?_
    refine G_min (K := mX0_wants) qX0_77 dX0_wants_24 (by decide) (Nat.le_of_ble_eq_true rfl) ?_
    have eJ : (if 3 < M 8 i then 3 else M 8 i) = justF (M 8 i) := minI_comm (M 8 i) 3
    rw [eJ]
    refine G_istore_n (K := mX0_wants) (i := 3) dX0_wants_27 rfl (by decide) ?_
    refine G_aload_n (K := mX0_wants) (i := 0) dX0_wants_28 rfl rfl ?_
    refine G_getr (K := mX0_wants) fX0_18 dX0_wants_29 rfl rfl ?_
    refine G_iload_n (K := mX0_wants) (i := 1) dX0_wants_32 rfl rfl ?_
    refine G_ld (K := mX0_wants) _ dX0_wants_33 rfl rfl (by omega) (by decide) ?_
    by_cases e34_0 : M 1 i = 1
    · refine G_tableIn (K := mX0_wants) (tgt := 72) dX0_wants_34 (by rw [e34_0]; decide) (by rw [e34_0]; decide) (by rw [e34_0]; rfl) (by decide) ?_
      refine G_iload_n (K := mX0_wants) (i := 2) dX0_wants_72 rfl rfl ?_
      exact G_irm (K := mX0_wants) dX0_wants_73 rfl (by unfold wantsH; rw [wF1 e34_0]; first | exact (if_pos c8).symm | exact (if_neg c8).symm) rfl hQ
    by_cases e34_1 : M 1 i = 2
    · refine G_tableIn (K := mX0_wants) (tgt := 78) dX0_wants_34 (by rw [e34_1]; decide) (by rw [e34_1]; decide) (by rw [e34_1]; rfl) (by decide) ?_
      refine G_iload_n (K := mX0_wants) (i := 3) dX0_wants_78 rfl rfl ?_
      exact G_irm (K := mX0_wants) dX0_wants_79 rfl (by unfold wantsH; rw [wF2 e34_1]) rfl hQ
    by_cases e34_2 : M 1 i = 3
    · refine G_tableIn (K := mX0_wants) (tgt := 80) dX0_wants_34 (by rw [e34_2]; decide) (by rw [e34_2]; decide) (by rw [e34_2]; rfl) (by decide) ?_
      refine G_iload_n (K := mX0_wants) (i := 3) dX0_wants_80 rfl rfl ?_
      refine G_iconst (K := mX0_wants) (v := 2) dX0_wants_81 (by decide) ?_
      refine G_idiv (K := mX0_wants) dX0_wants_82 (by decide) ?_
      exact G_irm (K := mX0_wants) dX0_wants_83 rfl (by unfold wantsH; rw [wF3 e34_2]) rfl hQ
    by_cases e34_3 : M 1 i = 4
    · refine G_tableIn (K := mX0_wants) (tgt := 74) dX0_wants_34 (by rw [e34_3]; decide) (by rw [e34_3]; decide) (by rw [e34_3]; rfl) (by decide) ?_
      refine G_iload_n (K := mX0_wants) (i := 2) dX0_wants_74 rfl rfl ?_
      refine G_iconst (K := mX0_wants) (v := 1) dX0_wants_75 (by decide) ?_
      refine G_iadd (K := mX0_wants) dX0_wants_76 ?_
      exact G_irm (K := mX0_wants) dX0_wants_77 rfl (by unfold wantsH; rw [wF4 e34_3]; first | exact congrArg (· + 1) (if_pos c8).symm | exact congrArg (· + 1) (if_neg c8).symm) rfl hQ
    by_cases e34_4 : M 1 i = 5
    · refine G_tableIn (K := mX0_wants) (tgt := 100) dX0_wants_34 (by rw [e34_4]; decide) (by rw [e34_4]; decide) (by rw [e34_4]; rfl) (by decide) ?_
      refine G_aload_n (K := mX0_wants) (i := 0) dX0_wants_100 rfl rfl ?_
      refine G_geti (K := mX0_wants) fX0_68 dX0_wants_101 rfl rfl ?_
      refine G_iconst (K := mX0_wants) (v := 2) dX0_wants_104 (by decide) ?_
      refine G_irem (K := mX0_wants) dX0_wants_105 (by decide) ?_
      refine G_iconst (K := mX0_wants) (v := 1) dX0_wants_106 (by decide) ?_
      refine G_icmp_ne (K := mX0_wants) (tgt := 119) dX0_wants_107 (by decide) (fun c107 => ?_) (fun c107 => ?_)
      · skip
        refine G_iconst (K := mX0_wants) (v := 1) dX0_wants_119 (by decide) ?_
        exact G_irm (K := mX0_wants) dX0_wants_120 rfl (by unfold wantsH; rw [wF5 e34_4]; first | exact (if_pos c107).symm | exact (if_neg c107).symm) rfl hQ
      · skip
        refine G_aload_n (K := mX0_wants) (i := 0) dX0_wants_110 rfl rfl ?_
        refine G_getr (K := mX0_wants) fX0_43 dX0_wants_111 rfl rfl ?_
        refine G_iload_n (K := mX0_wants) (i := 1) dX0_wants_114 rfl rfl ?_
        refine G_ld (K := mX0_wants) _ dX0_wants_115 rfl rfl (by omega) (by decide) ?_
        refine G_goto (K := mX0_wants) (tgt := 120) dX0_wants_116 (by decide) ?_
        exact G_irm (K := mX0_wants) dX0_wants_120 rfl (by unfold wantsH; rw [wF5 e34_4]; first | exact (if_pos c107).symm | exact (if_neg c107).symm) rfl hQ
    by_cases e34_5 : M 1 i = 6
    · refine G_tableIn (K := mX0_wants) (tgt := 84) dX0_wants_34 (by rw [e34_5]; decide) (by rw [e34_5]; decide) (by rw [e34_5]; rfl) (by decide) ?_
      refine G_aload_n (K := mX0_wants) (i := 0) dX0_wants_84 rfl rfl ?_
      refine G_getr (K := mX0_wants) fX0_40 dX0_wants_85 rfl rfl ?_
      refine G_iload_n (K := mX0_wants) (i := 1) dX0_wants_88 rfl rfl ?_
      refine G_ld (K := mX0_wants) _ dX0_wants_89 rfl rfl (by omega) (by decide) ?_
      refine G_iconst (K := mX0_wants) (v := 2) dX0_wants_90 (by decide) ?_
      refine G_icmp_ge (K := mX0_wants) (tgt := 98) dX0_wants_91 (by decide) (fun c91 => ?_) (fun c91 => ?_)
      · skip
        refine G_iload_n (K := mX0_wants) (i := 3) dX0_wants_98 rfl rfl ?_
        exact G_irm (K := mX0_wants) dX0_wants_99 rfl (by unfold wantsH; rw [wF6 e34_5]; first | exact (if_pos (Int32.not_le.mp c91)).symm | exact (if_neg (Int32.not_lt.mpr c91)).symm) rfl hQ
      · skip
        refine G_iconst (K := mX0_wants) (v := 0) dX0_wants_94 (by decide) ?_
        refine G_goto (K := mX0_wants) (tgt := 99) dX0_wants_95 (by decide) ?_
        exact G_irm (K := mX0_wants) dX0_wants_99 rfl (by unfold wantsH; rw [wF6 e34_5]; first | exact (if_pos (Int32.not_le.mp c91)).symm | exact (if_neg (Int32.not_lt.mpr c91)).symm) rfl hQ
    have fe34_0 : (M 1 i).toInt ≠ 1 := fun h => e34_0 (Int32.toInt_inj.mp (h.trans (by decide)))
    have fe34_1 : (M 1 i).toInt ≠ 2 := fun h => e34_1 (Int32.toInt_inj.mp (h.trans (by decide)))
    have fe34_2 : (M 1 i).toInt ≠ 3 := fun h => e34_2 (Int32.toInt_inj.mp (h.trans (by decide)))
    have fe34_3 : (M 1 i).toInt ≠ 4 := fun h => e34_3 (Int32.toInt_inj.mp (h.trans (by decide)))
    have fe34_4 : (M 1 i).toInt ≠ 5 := fun h => e34_4 (Int32.toInt_inj.mp (h.trans (by decide)))
    have fe34_5 : (M 1 i).toInt ≠ 6 := fun h => e34_5 (Int32.toInt_inj.mp (h.trans (by decide)))
    refine G_tableOut (K := mX0_wants) (tgt := 121) dX0_wants_34 (by omega) (by decide) ?_
    refine G_iconst (K := mX0_wants) (v := 1) dX0_wants_121 (by decide) ?_
    exact G_irm (K := mX0_wants) dX0_wants_122 rfl (by unfold wantsH; rw [wFd e34_0 e34_1 e34_2 e34_3 e34_4 e34_5]) rfl hQ
  · skip
    refine G_iconst (K := mX0_wants) (v := 2) dX0_wants_11 (by decide) ?_
    refine G_goto (K := mX0_wants) (tgt := 16) dX0_wants_12 (by decide) ?_
    refine G_istore_n (K := mX0_wants) (i := 2) dX0_wants_16 rfl (by decide) ?_
    refine G_aload_n (K := mX0_wants) (i := 0) dX0_wants_17 rfl rfl ?_
    refine G_getr (K := mX0_wants) fX0_40 dX0_wants_18 rfl rfl ?_
    refine G_iload_n (K := mX0_wants) (i := 1) dX0_wants_21 rfl rfl ?_
    refine G_ld (K := mX0_wants) _ dX0_wants_22 rfl rfl (by omega) (by decide) ?_
    refine G_iconst (K := mX0_wants) (v := 3) dX0_wants_23 (by decide) ?_
    refine G_min (K := mX0_wants) qX0_77 dX0_wants_24 (by decide) (Nat.le_of_ble_eq_true rfl) ?_
    have eJ : (if 3 < M 8 i then 3 else M 8 i) = justF (M 8 i) := minI_comm (M 8 i) 3
    rw [eJ]
    refine G_istore_n (K := mX0_wants) (i := 3) dX0_wants_27 rfl (by decide) ?_
    refine G_aload_n (K := mX0_wants) (i := 0) dX0_wants_28 rfl rfl ?_
    refine G_getr (K := mX0_wants) fX0_18 dX0_wants_29 rfl rfl ?_
    refine G_iload_n (K := mX0_wants) (i := 1) dX0_wants_32 rfl rfl ?_
    refine G_ld (K := mX0_wants) _ dX0_wants_33 rfl rfl (by omega) (by decide) ?_
    by_cases e34_0 : M 1 i = 1
    · refine G_tableIn (K := mX0_wants) (tgt := 72) dX0_wants_34 (by rw [e34_0]; decide) (by rw [e34_0]; decide) (by rw [e34_0]; rfl) (by decide) ?_
      refine G_iload_n (K := mX0_wants) (i := 2) dX0_wants_72 rfl rfl ?_
      exact G_irm (K := mX0_wants) dX0_wants_73 rfl (by unfold wantsH; rw [wF1 e34_0]; first | exact (if_pos c8).symm | exact (if_neg c8).symm) rfl hQ
    by_cases e34_1 : M 1 i = 2
    · refine G_tableIn (K := mX0_wants) (tgt := 78) dX0_wants_34 (by rw [e34_1]; decide) (by rw [e34_1]; decide) (by rw [e34_1]; rfl) (by decide) ?_
      refine G_iload_n (K := mX0_wants) (i := 3) dX0_wants_78 rfl rfl ?_
      exact G_irm (K := mX0_wants) dX0_wants_79 rfl (by unfold wantsH; rw [wF2 e34_1]) rfl hQ
    by_cases e34_2 : M 1 i = 3
    · refine G_tableIn (K := mX0_wants) (tgt := 80) dX0_wants_34 (by rw [e34_2]; decide) (by rw [e34_2]; decide) (by rw [e34_2]; rfl) (by decide) ?_
      refine G_iload_n (K := mX0_wants) (i := 3) dX0_wants_80 rfl rfl ?_
      refine G_iconst (K := mX0_wants) (v := 2) dX0_wants_81 (by decide) ?_
      refine G_idiv (K := mX0_wants) dX0_wants_82 (by decide) ?_
      exact G_irm (K := mX0_wants) dX0_wants_83 rfl (by unfold wantsH; rw [wF3 e34_2]) rfl hQ
    by_cases e34_3 : M 1 i = 4
    · refine G_tableIn (K := mX0_wants) (tgt := 74) dX0_wants_34 (by rw [e34_3]; decide) (by rw [e34_3]; decide) (by rw [e34_3]; rfl) (by decide) ?_
      refine G_iload_n (K := mX0_wants) (i := 2) dX0_wants_74 rfl rfl ?_
      refine G_iconst (K := mX0_wants) (v := 1) dX0_wants_75 (by decide) ?_
      refine G_iadd (K := mX0_wants) dX0_wants_76 ?_
      exact G_irm (K := mX0_wants) dX0_wants_77 rfl (by unfold wantsH; rw [wF4 e34_3]; first | exact congrArg (· + 1) (if_pos c8).symm | exact congrArg (· + 1) (if_neg c8).symm) rfl hQ
    by_cases e34_4 : M 1 i = 5
    · refine G_tableIn (K := mX0_wants) (tgt := 100) dX0_wants_34 (by rw [e34_4]; decide) (by rw [e34_4]; decide) (by rw [e34_4]; rfl) (by decide) ?_
      refine G_aload_n (K := mX0_wants) (i := 0) dX0_wants_100 rfl rfl ?_
      refine G_geti (K := mX0_wants) fX0_68 dX0_wants_101 rfl rfl ?_
      refine G_iconst (K := mX0_wants) (v := 2) dX0_wants_104 (by decide) ?_
      refine G_irem (K := mX0_wants) dX0_wants_105 (by decide) ?_
      refine G_iconst (K := mX0_wants) (v := 1) dX0_wants_106 (by decide) ?_
      refine G_icmp_ne (K := mX0_wants) (tgt := 119) dX0_wants_107 (by decide) (fun c107 => ?_) (fun c107 => ?_)
      · skip
        refine G_iconst (K := mX0_wants) (v := 1) dX0_wants_119 (by decide) ?_
        exact G_irm (K := mX0_wants) dX0_wants_120 rfl (by unfold wantsH; rw [wF5 e34_4]; first | exact (if_pos c107).symm | exact (if_neg c107).symm) rfl hQ
      · skip
        refine G_aload_n (K := mX0_wants) (i := 0) dX0_wants_110 rfl rfl ?_
        refine G_getr (K := mX0_wants) fX0_43 dX0_wants_111 rfl rfl ?_
        refine G_iload_n (K := mX0_wants) (i := 1) dX0_wants_114 rfl rfl ?_
        refine G_ld (K := mX0_wants) _ dX0_wants_115 rfl rfl (by omega) (by decide) ?_
        refine G_goto (K := mX0_wants) (tgt := 120) dX0_wants_116 (by decide) ?_
        exact G_irm (K := mX0_wants) dX0_wants_120 rfl (by unfold wantsH; rw [wF5 e34_4]; first | exact (if_pos c107).symm | exact (if_neg c107).symm) rfl hQ
    by_cases e34_5 : M 1 i = 6
    · refine G_tableIn (K := mX0_wants) (tgt := 84) dX0_wants_34 (by rw [e34_5]; decide) (by rw [e34_5]; decide) (by rw [e34_5]; rfl) (by decide) ?_
      refine G_aload_n (K := mX0_wants) (i := 0) dX0_wants_84 rfl rfl ?_
      refine G_getr (K := mX0_wants) fX0_40 dX0_wants_85 rfl rfl ?_
      refine G_iload_n (K := mX0_wants) (i := 1) dX0_wants_88 rfl rfl ?_
      refine G_ld (K := mX0_wants) _ dX0_wants_89 rfl rfl (by omega) (by decide) ?_
      refine G_iconst (K := mX0_wants) (v := 2) dX0_wants_90 (by decide) ?_
      refine G_icmp_ge (K := mX0_wants) (tgt := 98) dX0_wants_91 (by decide) (fun c91 => ?_) (fun c91 => ?_)
      · skip
        refine G_iload_n (K := mX0_wants) (i := 3) dX0_wants_98 rfl rfl ?_
        exact G_irm (K := mX0_wants) dX0_wants_99 rfl (by unfold wantsH; rw [wF6 e34_5]; first | exact (if_pos (Int32.not_le.mp c91)).symm | exact (if_neg (Int32.not_lt.mpr c91)).symm) rfl hQ
      · skip
        refine G_iconst (K := mX0_wants) (v := 0) dX0_wants_94 (by decide) ?_
        refine G_goto (K := mX0_wants) (tgt := 99) dX0_wants_95 (by decide) ?_
        exact G_irm (K := mX0_wants) dX0_wants_99 rfl (by unfold wantsH; rw [wF6 e34_5]; first | exact (if_pos (Int32.not_le.mp c91)).symm | exact (if_neg (Int32.not_lt.mpr c91)).symm) rfl hQ
    have fe34_0 : (M 1 i).toInt ≠ 1 := fun h => e34_0 (Int32.toInt_inj.mp (h.trans (by decide)))
    have fe34_1 : (M 1 i).toInt ≠ 2 := fun h => e34_1 (Int32.toInt_inj.mp (h.trans (by decide)))
    have fe34_2 : (M 1 i).toInt ≠ 3 := fun h => e34_2 (Int32.toInt_inj.mp (h.trans (by decide)))
    have fe34_3 : (M 1 i).toInt ≠ 4 := fun h => e34_3 (Int32.toInt_inj.mp (h.trans (by decide)))
    have fe34_4 : (M 1 i).toInt ≠ 5 := fun h => e34_4 (Int32.toInt_inj.mp (h.trans (by decide)))
    have fe34_5 : (M 1 i).toInt ≠ 6 := fun h => e34_5 (Int32.toInt_inj.mp (h.trans (by decide)))
    refine G_tableOut (K := mX0_wants) (tgt := 121) dX0_wants_34 (by omega) (by decide) ?_
    refine G_iconst (K := mX0_wants) (v := 1) dX0_wants_121 (by decide) ?_
    exact G_irm (K := mX0_wants) dX0_wants_122 rfl (by unfold wantsH; rw [wFd e34_0 e34_1 e34_2 e34_3 e34_4 e34_5]) rfl hQ

set_option maxRecDepth 20000 in
theorem c_X0_stokes {M : Mem} {i : Nat} (hi : i < 8) {Q : Option Value → Mem → Prop} (hQ : Q (some (.int (stokeH M i))) M) : CT mX0_stokes shH 2 [.ref 0, .int (nI i)] M Q := by
  refine CT.mk [some (.ref 0), some (.int (nI i))] (by decide) (Nat.le_of_ble_eq_true rfl) rfl rfl ?_
  refine G_aload_n (K := mX0_stokes) (i := 0) dX0_stokes_0 rfl rfl ?_
  refine G_getr (K := mX0_stokes) fX0_34 dX0_stokes_1 rfl rfl ?_
  refine G_iload_n (K := mX0_stokes) (i := 1) dX0_stokes_4 rfl rfl ?_
  refine G_ld (K := mX0_stokes) _ dX0_stokes_5 rfl rfl (by omega) (by decide) ?_
  refine G_iconst (K := mX0_stokes) (v := 1) dX0_stokes_6 (by decide) ?_
  refine G_icmp_ne (K := mX0_stokes) (tgt := 14) dX0_stokes_7 (by decide) (fun c7 => ?_) (fun c7 => ?_)
  · skip
    refine G_aload_n (K := mX0_stokes) (i := 0) dX0_stokes_14 rfl rfl ?_
    refine G_iload_n (K := mX0_stokes) (i := 1) dX0_stokes_15 rfl rfl ?_
    refine G_cv (K := mX0_stokes) (c_X0_wants hi ⟨rfl, rfl⟩) vX0_wants rfl lX0_83 dX0_stokes_16 ⟨_, _, _, rfl, rfl, rfl⟩ (by decide) rfl (Nat.le_of_ble_eq_true rfl) ?_
    refine G_aload_n (K := mX0_stokes) (i := 0) dX0_stokes_19 rfl rfl ?_
    refine G_getr (K := mX0_stokes) fX0_25 dX0_stokes_20 rfl rfl ?_
    refine G_iload_n (K := mX0_stokes) (i := 1) dX0_stokes_23 rfl rfl ?_
    refine G_ld (K := mX0_stokes) _ dX0_stokes_24 rfl rfl (by omega) (by decide) ?_
    refine G_min (K := mX0_stokes) qX0_77 dX0_stokes_25 (by decide) (Nat.le_of_ble_eq_true rfl) ?_
    exact G_irm (K := mX0_stokes) dX0_stokes_28 rfl (by first | exact (if_pos c7).symm | exact (if_neg c7).symm) rfl hQ
  · skip
    refine G_iconst (K := mX0_stokes) (v := 0) dX0_stokes_10 (by decide) ?_
    refine G_goto (K := mX0_stokes) (tgt := 28) dX0_stokes_11 (by decide) ?_
    exact G_irm (K := mX0_stokes) dX0_stokes_28 rfl (by first | exact (if_pos c7).symm | exact (if_neg c7).symm) rfl hQ

set_option maxRecDepth 20000 in
theorem c_X0_lostBy {M : Mem} {i : Nat} (hi : i < 8) (hw : 0 < M 4 i) {Q : Option Value → Mem → Prop} (hQ : Q (some (.int (lossF (M 0 1) (M 2 i) (M 4 i)))) M) : CT mX0_lostBy shH 0 [.ref 0, .int (nI i)] M Q := by
  refine CT.mk [some (.ref 0), some (.int (nI i))] (by decide) (Nat.le_of_ble_eq_true rfl) rfl rfl ?_
  refine G_aload_n (K := mX0_lostBy) (i := 0) dX0_lostBy_0 rfl rfl ?_
  refine G_geti (K := mX0_lostBy) fX0_9 dX0_lostBy_1 rfl rfl ?_
  refine G_aload_n (K := mX0_lostBy) (i := 0) dX0_lostBy_4 rfl rfl ?_
  refine G_getr (K := mX0_lostBy) fX0_22 dX0_lostBy_5 rfl rfl ?_
  refine G_iload_n (K := mX0_lostBy) (i := 1) dX0_lostBy_8 rfl rfl ?_
  refine G_ld (K := mX0_lostBy) _ dX0_lostBy_9 rfl rfl (by omega) (by decide) ?_
  refine G_icmp_ge (K := mX0_lostBy) (tgt := 22) dX0_lostBy_10 (by decide) (fun c10 => ?_) (fun c10 => ?_)
  · skip
    refine G_iconst (K := mX0_lostBy) (v := 0) dX0_lostBy_22 (by decide) ?_
    exact G_irm (K := mX0_lostBy) dX0_lostBy_23 rfl (by exact (if_neg (Int32.not_lt.mpr c10)).symm) rfl hQ
  · skip
    refine G_aload_n (K := mX0_lostBy) (i := 0) dX0_lostBy_13 rfl rfl ?_
    refine G_getr (K := mX0_lostBy) fX0_28 dX0_lostBy_14 rfl rfl ?_
    refine G_iload_n (K := mX0_lostBy) (i := 1) dX0_lostBy_17 rfl rfl ?_
    refine G_ld (K := mX0_lostBy) _ dX0_lostBy_18 rfl rfl (by omega) (by decide) ?_
    refine G_if_gt (K := mX0_lostBy) (tgt := 24) dX0_lostBy_19 (by decide) (fun c19 => ?_) (fun c19 => ?_)
    · skip
      refine G_aload_n (K := mX0_lostBy) (i := 0) dX0_lostBy_24 rfl rfl ?_
      refine G_getr (K := mX0_lostBy) fX0_22 dX0_lostBy_25 rfl rfl ?_
      refine G_iload_n (K := mX0_lostBy) (i := 1) dX0_lostBy_28 rfl rfl ?_
      refine G_ld (K := mX0_lostBy) _ dX0_lostBy_29 rfl rfl (by omega) (by decide) ?_
      refine G_aload_n (K := mX0_lostBy) (i := 0) dX0_lostBy_30 rfl rfl ?_
      refine G_geti (K := mX0_lostBy) fX0_9 dX0_lostBy_31 rfl rfl ?_
      refine G_isub (K := mX0_lostBy) dX0_lostBy_34 ?_
      refine G_aload_n (K := mX0_lostBy) (i := 0) dX0_lostBy_35 rfl rfl ?_
      refine G_getr (K := mX0_lostBy) fX0_28 dX0_lostBy_36 rfl rfl ?_
      refine G_iload_n (K := mX0_lostBy) (i := 1) dX0_lostBy_39 rfl rfl ?_
      refine G_ld (K := mX0_lostBy) _ dX0_lostBy_40 rfl rfl (by omega) (by decide) ?_
      refine G_idiv (K := mX0_lostBy) dX0_lostBy_41 (fun e => absurd hw (by rw [e]; decide)) ?_
      exact G_irm (K := mX0_lostBy) dX0_lostBy_42 rfl (by exact (if_pos (Int32.not_le.mp c10)).symm) rfl hQ
    · skip
      exact absurd hw c19

set_option maxRecDepth 20000 in
theorem c_X0_swap {M : Mem} {i j : Nat} (hi : i < 8) (hj : j < 8) {Q : Option Value → Mem → Prop} (hQ : Q none (ups (ups M 0 i (M 0 j)) 0 j (M 0 i))) : CT mX0_swap (shI 8) 0 [.ref 0, .int (nI i), .int (nI j)] M Q := by
  refine CT.mk [some (.ref 0), some (.int (nI i)), some (.int (nI j)), none] (by decide) (Nat.le_of_ble_eq_true rfl) rfl rfl ?_
  refine G_aload_n (K := mX0_swap) (i := 0) dX0_swap_0 rfl rfl ?_
  refine G_iload_n (K := mX0_swap) (i := 1) dX0_swap_1 rfl rfl ?_
  refine G_ld (K := mX0_swap) _ dX0_swap_2 rfl rfl (by omega) (by decide) ?_
  refine G_istore_n (K := mX0_swap) (i := 3) dX0_swap_3 rfl (by decide) ?_
  refine G_aload_n (K := mX0_swap) (i := 0) dX0_swap_4 rfl rfl ?_
  refine G_iload_n (K := mX0_swap) (i := 1) dX0_swap_5 rfl rfl ?_
  refine G_aload_n (K := mX0_swap) (i := 0) dX0_swap_6 rfl rfl ?_
  refine G_iload_n (K := mX0_swap) (i := 2) dX0_swap_7 rfl rfl ?_
  refine G_ld (K := mX0_swap) _ dX0_swap_8 rfl rfl (by omega) (by decide) ?_
  refine G_sto (K := mX0_swap) _ dX0_swap_9 rfl rfl (by omega) (by decide) ?_
  refine G_aload_n (K := mX0_swap) (i := 0) dX0_swap_10 rfl rfl ?_
  refine G_iload_n (K := mX0_swap) (i := 2) dX0_swap_11 rfl rfl ?_
  refine G_iload_n (K := mX0_swap) (i := 3) dX0_swap_12 rfl rfl ?_
  refine G_sto (K := mX0_swap) _ dX0_swap_13 rfl rfl (by omega) (by decide) ?_
  exact G_vrm (K := mX0_swap) dX0_swap_14 rfl (by rfl) hQ

/-- a row of a house -/
def rsub (b : Nat) : Nat → Nat := fun j => if j = 0 then b else j
def rput (M : Mem) (b : Nat) (h : Mem) : Mem := fun c => if c = b then h 0 else M c
theorem subR {sh : Shp} {b n : Nat} (hb : sh[b]? = some (.inr (.inl n))) : Sub (shI n) (rsub b) sh := by
  refine ⟨fun k hk => ?_, fun i j hi hj _ => ?_, fun j hj => if_neg (by omega)⟩
  · have h1 : k < 1 := hk
    have h2 : k = 0 := by omega
    subst h2
    exact hb
  · have h1 : i < 1 := hi
    have h2 : j < 1 := hj
    omega
theorem mrgR {sh : Shp} {b n : Nat} (M M' : Mem) : Mrg (shI n).length (rsub b) sh.length M M' (rput M b M') := by
  refine ⟨fun j hj => ?_, fun c _ h => ?_⟩
  · have h1 : j < 1 := hj
    have h2 : j = 0 := by omega
    subst h2
    exact if_pos rfl
  · exact if_neg (fun e => h 0 (show 0 < 1 by omega) e.symm)
theorem rofM {M : Mem} {b n : Nat} : ∀ j, j < (shI n).length → (fun _ => M b : Mem) j = M (rsub b j) := by
  intro j hj
  have h1 : j < 1 := hj
  have h2 : j = 0 := by omega
  subst h2
  rfl
theorem rput_b {M h : Mem} {b : Nat} : rput M b h b = h 0 := if_pos rfl
theorem rput_ne {M h : Mem} {b c : Nat} (hc : c ≠ b) : rput M b h c = M c := if_neg hc
section CallR
variable {K : MI} {sh : Shp} {d : Nat} {Q : Option Value → Mem → Prop} {pc : Nat} {ls : List (Option Value)} {st rest : List Value} {M : Mem} {idx : Nat}
theorem G_fill {n b : Nat} {x : Int32} (hb : sh[b]? = some (.inr (.inl n))) (hb1 : b < 1000) (hn : n < 2147483648) (hlink : Cond.methodLink K.1.cls idx yJ7_fill_53178 ∈ gtbl) (hd : decode K.2.1 pc = .ok (.invokestatic idx, 3)) (hd1 : 1 ≤ d) (hrest : (st.map fun v => v.category).sum ≤ 8)
    (kk : ∀ M2 : Mem, (∀ i, i < n → M2 b i = x) → (∀ c, c ≠ b → M2 c = M c) → G K sh d Q (pc + 3) ls st M2) : G K sh d Q pc ls (.int x :: .ref b :: st) M :=
  G_callS mJ7_fill_53178 (shI n) (rsub b) (rput M b) 0 [.ref 0, .int x] st (c_J7_fill_53178 (M := fun _ => M b) hn (Q := fun v M' => v = none ∧ ∀ i, i < n → M' 0 i = x) (fun M2 h => ⟨rfl, h⟩)) (subR hb) rofM (fun M' => mrgR M M') sJ7_fill_53178 rfl hlink hd1 hrest hd rfl
    (by rintro v M' ⟨rfl, h⟩; exact kk _ (fun i hi => by rw [rput_b]; exact h i hi) (fun c hc => rput_ne hc))
theorem G_swap {b i j : Nat} (hi : i < 8) (hj : j < 8) (hb : sh[b]? = some (.inr (.inl 8))) (hlink : Cond.methodLink K.1.cls idx yX0_swap ∈ gtbl) (hd : decode K.2.1 pc = .ok (.invokestatic idx, 3)) (hd1 : 1 ≤ d) (hrest : (st.map fun v => v.category).sum ≤ 8)
    (kk : G K sh d Q (pc + 3) ls st (ups (ups M b i (M b j)) b j (M b i))) : G K sh d Q pc ls (.int (nI j) :: .int (nI i) :: .ref b :: st) M := by
  refine G_callS mX0_swap (shI 8) (rsub b) (rput M b) 0 [.ref 0, .int (nI i), .int (nI j)] st (c_X0_swap (M := fun _ => M b) hi hj (Q := fun v M' => v = none ∧ M' = ups (ups (fun _ => M b) 0 i (M b j)) 0 j (M b i)) ⟨rfl, rfl⟩) (subR hb) rofM (fun M' => mrgR M M') sX0_swap rfl hlink hd1 hrest hd rfl ?_
  rintro v M' ⟨rfl, rfl⟩
  have e : rput M b (ups (ups (fun _ => M b) 0 i (M b j)) 0 j (M b i)) = ups (ups M b i (M b j)) b j (M b i) := by
    funext c k
    by_cases hc : c = b
    · subst hc
      rw [rput_b]
      unfold ups
      simp
    · rw [rput_ne hc, ups_cell hc, ups_cell hc]
  rw [e]
  exact kk
end CallR
def giveH (h : Mem) (j : Nat) (r : Nat) : Int32 := if h 5 r = nI j then maxI 0 (h 9 r - h 7 r) else 0
set_option maxRecDepth 20000 in
theorem c_X0_heat {M : Mem} {n : Nat} (hn : M 0 0 = nI n) (hn8 : n ≤ 8) {Q : Option Value → Mem → Prop} (hQ : ∀ M2 : Mem, (∀ c, c ≠ 8 → M2 c = M c) → (∀ j, j < n → M2 8 j = sumN (giveH M j) n) → Q none M2) : CT mX0_heat shH 1 [.ref 0] M Q := by
  refine CT.mk [some (.ref 0), none] (by decide) (Nat.le_of_ble_eq_true rfl) rfl rfl ?_
  refine G_aload_n (K := mX0_heat) (i := 0) dX0_heat_0 rfl rfl ?_
  refine G_getr (K := mX0_heat) fX0_40 dX0_heat_1 rfl rfl ?_
  refine G_iconst (K := mX0_heat) (v := 0) dX0_heat_4 (by decide) ?_
  refine G_fill (K := mX0_heat) rfl (by decide) (by decide) lX0_49 dX0_heat_5 (by decide) (Nat.le_of_ble_eq_true rfl) (fun M2 hM2 hM2c => ?_)
  refine G_iconst (K := mX0_heat) (v := 0) dX0_heat_8 (by decide) ?_
  refine G_istore_n (K := mX0_heat) (i := 1) dX0_heat_9 rfl (by decide) ?_
  have loop10 : ∀ i, i ≤ n → ∀ M3 : Mem, (∀ c, c ≠ 8 → M3 c = M c) → (∀ j, j < n → M3 8 j = sumN (giveH M j) i) → G mX0_heat shH 1 Q 10 [some (.ref 0), some (.int (nI i))] [] M3 := by
    refine upto n (fun i hi ih => ?_)
    intro M3 h3 h4
    have hn3 : M3 0 0 = nI n := by rw [h3 0 (by decide)]; exact hn
    refine G_iload_n (K := mX0_heat) (i := 1) dX0_heat_10 rfl rfl ?_
    refine G_aload_n (K := mX0_heat) (i := 0) dX0_heat_11 rfl rfl ?_
    refine G_geti (K := mX0_heat) fX0_55 dX0_heat_12 rfl rfl ?_
    refine G_icmp_ge (K := mX0_heat) (tgt := 68) dX0_heat_15 (by decide) (fun c15 => ?_) (fun c15 => ?_)
    · skip
      rw [hn3, le_nn (by omega) (by omega)] at c15
      have hin : i = n := by omega
      subst hin
      exact G_vrm (K := mX0_heat) dX0_heat_68 rfl rfl (hQ M3 h3 h4)
    · skip
      rw [hn3, le_nn (by omega) (by omega)] at c15
      refine G_aload_n (K := mX0_heat) (i := 0) dX0_heat_18 rfl rfl ?_
      refine G_aload_n (K := mX0_heat) (i := 0) dX0_heat_19 rfl rfl ?_
      refine G_getr (K := mX0_heat) fX0_31 dX0_heat_20 rfl rfl ?_
      refine G_iload_n (K := mX0_heat) (i := 1) dX0_heat_23 rfl rfl ?_
      refine G_ld (K := mX0_heat) _ dX0_heat_24 rfl rfl (by omega) (by decide) ?_
      refine G_cv (K := mX0_heat) (c_X0_has ⟨rfl, rfl⟩) vX0_has rfl lX0_58 dX0_heat_25 ⟨_, _, _, rfl, rfl, rfl⟩ (by decide) rfl (Nat.le_of_ble_eq_true rfl) ?_
      refine G_if_eq (K := mX0_heat) (tgt := 62) dX0_heat_28 (by decide) (fun c28 => ?_) (fun c28 => ?_)
      · skip
        refine G_iincN (K := mX0_heat) dX0_heat_62 (by decide) rfl ?_
        refine G_goto (K := mX0_heat) (tgt := 10) dX0_heat_65 (by decide) ?_
        refine ih (i + 1) (by omega) (by omega) _ h3 (fun j hj => ?_)
        show _ = sumN (giveH M j) i + giveH M j i
        unfold giveH
        rw [h3 5 (by decide)] at c28
        rw [h4 j hj, if_neg (fun e => hasI_n hn3 hn8 c28 j hj e)]
        exact (Int32.add_zero _).symm
      · skip
        obtain ⟨k, hk, ek⟩ := hasI_0 hn3 hn8 c28
        refine G_aload_n (K := mX0_heat) (i := 0) dX0_heat_31 rfl rfl ?_
        refine G_getr (K := mX0_heat) fX0_40 dX0_heat_32 rfl rfl ?_
        refine G_aload_n (K := mX0_heat) (i := 0) dX0_heat_35 rfl rfl ?_
        refine G_getr (K := mX0_heat) fX0_31 dX0_heat_36 rfl rfl ?_
        refine G_iload_n (K := mX0_heat) (i := 1) dX0_heat_39 rfl rfl ?_
        refine G_ld (K := mX0_heat) _ dX0_heat_40 rfl rfl (by omega) (by decide) ?_
        refine G_dup2 (K := mX0_heat) dX0_heat_41 rfl rfl ?_
        refine G_ld (K := mX0_heat) k dX0_heat_42 rfl ek (by omega) (by decide) ?_
        refine G_aload_n (K := mX0_heat) (i := 0) dX0_heat_43 rfl rfl ?_
        refine G_getr (K := mX0_heat) fX0_43 dX0_heat_44 rfl rfl ?_
        refine G_iload_n (K := mX0_heat) (i := 1) dX0_heat_47 rfl rfl ?_
        refine G_ld (K := mX0_heat) _ dX0_heat_48 rfl rfl (by omega) (by decide) ?_
        refine G_aload_n (K := mX0_heat) (i := 0) dX0_heat_49 rfl rfl ?_
        refine G_getr (K := mX0_heat) fX0_37 dX0_heat_50 rfl rfl ?_
        refine G_iload_n (K := mX0_heat) (i := 1) dX0_heat_53 rfl rfl ?_
        refine G_ld (K := mX0_heat) _ dX0_heat_54 rfl rfl (by omega) (by decide) ?_
        refine G_isub (K := mX0_heat) dX0_heat_55 ?_
        refine G_iconst (K := mX0_heat) (v := 0) dX0_heat_56 (by decide) ?_
        refine G_max (K := mX0_heat) qX0_100 dX0_heat_57 (by decide) (Nat.le_of_ble_eq_true rfl) ?_
        refine G_iadd (K := mX0_heat) dX0_heat_60 ?_
        refine G_sto (K := mX0_heat) k dX0_heat_61 rfl ek (by omega) (by decide) ?_
        refine G_iincN (K := mX0_heat) dX0_heat_62 (by decide) rfl ?_
        refine G_goto (K := mX0_heat) (tgt := 10) dX0_heat_65 (by decide) ?_
        refine ih (i + 1) (by omega) (by omega) _ (fun c hc => by rw [ups_cell hc]; exact h3 c hc) (fun j hj => ?_)
        show _ = sumN (giveH M j) i + giveH M j i
        unfold giveH
        rw [h3 5 (by decide)] at ek
        rw [h3 9 (by decide), h3 7 (by decide)]
        by_cases hjk : j = k
        · subst hjk
          rw [ups_same, if_pos ek, h4 j hj]
          exact congrArg (_ + ·) (maxI_comm _ _)
        · rw [ups_ne (fun z => hjk z.2), h4 j hj, if_neg (fun e => hjk ((nI_eq (by omega) (by omega)).mp (e.symm.trans ek)))]
          exact (Int32.add_zero _).symm
  exact loop10 0 (by omega) M2 hM2c (fun j hj => hM2 j (by omega))
