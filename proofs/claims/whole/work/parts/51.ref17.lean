theorem late_B {σ : Mem} (hI : Inv σ) : decide ((9899 : Int32) < σ 0 2) = late σ := by
  unfold late
  have h := hI.2.1
  unfold rg at h
  have e1 : (9899 : Int32).toInt = 9899 := rfl
  have e2 : (9999 : Int32).toInt = 9999 := rfl
  have e3 : (100 : Int32).toInt = 100 := rfl
  congr 1
  rw [i32_lt, i32_lt, add_I (by rw [e3]; omega) (by rw [e3]; omega), e1, e2, e3]
  exact propext ⟨fun z => by omega, fun z => by omega⟩
theorem RR.back {M M2 σ : Mem} (hR : RR M σ) (h3 : toH (M2 3) = toH (M 1)) (h2 : ∀ c, c ≠ 1 → c ≠ 3 → c ≠ 7 → c ≠ 9 → c ≠ 10 → M2 c = M c) : RR (cpyM M2 3 1 86) σ :=
  hR.scr4 (toH_cpy.trans h3) (fun c a b d e f => by rw [cpyM_c a]; exact h2 c a b d e f)
set_option maxRecDepth 20000 in
theorem rf_now {M σ : Mem} {w : Int32} (hR : RR M σ) (hI : Inv σ) {Q : Option Value → Mem → Prop} (hQ : ∀ u' M', PostR (opNow σ w) u' M' → Q u' M') : CT mX5_now shR 8 [.ref 0, .int w] M Q := by
  refine CT.mk [some (.ref 0), some (.int w)] (by decide) (Nat.le_of_ble_eq_true rfl) rfl rfl ?_
  refine G_iload_n (K := mX5_now) (i := 1) dX5_now_0 rfl rfl ?_
  by_cases e1_0 : w = 0
  · refine G_tableIn (K := mX5_now) (tgt := 40) dX5_now_1 (by rw [e1_0]; decide) (by rw [e1_0]; decide) (by rw [e1_0]; rfl) (by decide) ?_
    refine G_aload_n (K := mX5_now) (i := 0) dX5_now_40 rfl rfl ?_
    refine G_getr (K := mX5_now) fX5_9 dX5_now_41 rfl rfl ?_
    refine G_iconst (K := mX5_now) (v := 0) dX5_now_44 (by decide) ?_
    refine G_ld (K := mX5_now) 0 dX5_now_45 rfl rfl (by omega) (by decide) ?_
    exact G_iret (st := []) (K := mX5_now) dX5_now_46 rfl (hQ _ _ (by rw [show opNow σ w = _ from if_pos e1_0]; exact ⟨congrArg (fun z => some (Value.int z)) (hR.hour), hR⟩))
  by_cases e1_1 : w = 1
  · refine G_tableIn (K := mX5_now) (tgt := 47) dX5_now_1 (by rw [e1_1]; decide) (by rw [e1_1]; decide) (by rw [e1_1]; rfl) (by decide) ?_
    refine G_aload_n (K := mX5_now) (i := 0) dX5_now_47 rfl rfl ?_
    refine G_cv (K := mX5_now) (c_X5_colds (M := M) (n := nOf σ) (hR.n hI) hI.n8 ⟨rfl, rfl⟩) vX5_colds rfl lX5_170 dX5_now_48 ⟨_, _, _, rfl, rfl, rfl⟩ (by decide) rfl (Nat.le_of_ble_eq_true rfl) ?_
    exact G_iret (st := []) (K := mX5_now) dX5_now_51 rfl (hQ _ _ (by rw [show opNow σ w = _ from (if_neg e1_0).trans (if_pos e1_1)]; exact ⟨congrArg (fun z => some (Value.int z)) (bits_congr _ (fun i hi => by rw [hR.1.f 2 (by omega) (by omega) hi])), hR⟩))
  by_cases e1_2 : w = 2
  · refine G_tableIn (K := mX5_now) (tgt := 52) dX5_now_1 (by rw [e1_2]; decide) (by rw [e1_2]; decide) (by rw [e1_2]; rfl) (by decide) ?_
    refine G_aload_n (K := mX5_now) (i := 0) dX5_now_52 rfl rfl ?_
    refine G_iconst (K := mX5_now) (v := 2) dX5_now_53 (by decide) ?_
    refine G_cv (K := mX5_now) (c_X5_sum (M := M) (n := nOf σ) (f := 2) (by omega) (hR.n hI) hI.n8 ⟨rfl, rfl⟩) vX5_sum rfl lX5_173 dX5_now_54 ⟨_, _, _, rfl, rfl, rfl⟩ (by decide) rfl (Nat.le_of_ble_eq_true rfl) ?_
    exact G_iret (st := []) (K := mX5_now) dX5_now_57 rfl (hQ _ _ (by rw [show opNow σ w = _ from (if_neg e1_0).trans ((if_neg e1_1).trans (if_pos e1_2))]; exact ⟨congrArg (fun z => some (Value.int z)) (sumN_congr _ (fun i hi => hR.1.f 3 (by omega) (by omega) hi)), hR⟩))
  by_cases e1_3 : w = 3
  · refine G_tableIn (K := mX5_now) (tgt := 58) dX5_now_1 (by rw [e1_3]; decide) (by rw [e1_3]; decide) (by rw [e1_3]; rfl) (by decide) ?_
    refine G_aload_n (K := mX5_now) (i := 0) dX5_now_58 rfl rfl ?_
    refine G_iconst (K := mX5_now) (v := 1) dX5_now_59 (by decide) ?_
    refine G_cv (K := mX5_now) (c_X5_sum (M := M) (n := nOf σ) (f := 1) (by omega) (hR.n hI) hI.n8 ⟨rfl, rfl⟩) vX5_sum rfl lX5_173 dX5_now_60 ⟨_, _, _, rfl, rfl, rfl⟩ (by decide) rfl (Nat.le_of_ble_eq_true rfl) ?_
    exact G_iret (st := []) (K := mX5_now) dX5_now_63 rfl (hQ _ _ (by rw [show opNow σ w = _ from (if_neg e1_0).trans ((if_neg e1_1).trans ((if_neg e1_2).trans (if_pos e1_3)))]; exact ⟨congrArg (fun z => some (Value.int z)) (sumN_congr _ (fun i hi => hR.1.f 2 (by omega) (by omega) hi)), hR⟩))
  by_cases e1_4 : w = 4
  · refine G_tableIn (K := mX5_now) (tgt := 64) dX5_now_1 (by rw [e1_4]; decide) (by rw [e1_4]; decide) (by rw [e1_4]; rfl) (by decide) ?_
    refine G_aload_n (K := mX5_now) (i := 0) dX5_now_64 rfl rfl ?_
    refine G_getr (K := mX5_now) fX5_9 dX5_now_65 rfl rfl ?_
    refine G_iconst (K := mX5_now) (v := 1) dX5_now_68 (by decide) ?_
    refine G_ld (K := mX5_now) 1 dX5_now_69 rfl rfl (by omega) (by decide) ?_
    exact G_iret (st := []) (K := mX5_now) dX5_now_70 rfl (hQ _ _ (by rw [show opNow σ w = _ from (if_neg e1_0).trans ((if_neg e1_1).trans ((if_neg e1_2).trans ((if_neg e1_3).trans (if_pos e1_4))))]; exact ⟨congrArg (fun z => some (Value.int z)) (hR.out), hR⟩))
  by_cases e1_5 : w = 5
  · refine G_tableIn (K := mX5_now) (tgt := 71) dX5_now_1 (by rw [e1_5]; decide) (by rw [e1_5]; decide) (by rw [e1_5]; rfl) (by decide) ?_
    refine G_aload_n (K := mX5_now) (i := 0) dX5_now_71 rfl rfl ?_
    refine G_cv (K := mX5_now) (c_X5_coldest (M := M) (n := nOf σ) (hR.n hI) hI.n8 ⟨rfl, rfl⟩) vX5_coldest rfl lX5_167 dX5_now_72 ⟨_, _, _, rfl, rfl, rfl⟩ (by decide) rfl (Nat.le_of_ble_eq_true rfl) ?_
    exact G_iret (st := []) (K := mX5_now) dX5_now_75 rfl (hQ _ _ (by rw [show opNow σ w = _ from (if_neg e1_0).trans ((if_neg e1_1).trans ((if_neg e1_2).trans ((if_neg e1_3).trans ((if_neg e1_4).trans (if_pos e1_5)))))]; exact ⟨congrArg (fun z => some (Value.int z)) (coldN_congr _ (by have := hI.n8; omega) (fun i hi => hR.1.f 2 (by omega) (by omega) hi)), hR⟩))
  have fe1_0 : (w).toInt ≠ 0 := fun h => e1_0 (Int32.toInt_inj.mp (h.trans (by decide)))
  have fe1_1 : (w).toInt ≠ 1 := fun h => e1_1 (Int32.toInt_inj.mp (h.trans (by decide)))
  have fe1_2 : (w).toInt ≠ 2 := fun h => e1_2 (Int32.toInt_inj.mp (h.trans (by decide)))
  have fe1_3 : (w).toInt ≠ 3 := fun h => e1_3 (Int32.toInt_inj.mp (h.trans (by decide)))
  have fe1_4 : (w).toInt ≠ 4 := fun h => e1_4 (Int32.toInt_inj.mp (h.trans (by decide)))
  have fe1_5 : (w).toInt ≠ 5 := fun h => e1_5 (Int32.toInt_inj.mp (h.trans (by decide)))
  refine G_tableOut (K := mX5_now) (tgt := 76) dX5_now_1 (by omega) (by decide) ?_
  refine G_aload_n (K := mX5_now) (i := 0) dX5_now_76 rfl rfl ?_
  refine G_ldc (K := mX5_now) dX5_now_77 kX5_92 ?_
  refine G_call0 (K := mX5_now) (Q' := PostR (tl σ 0)) (rf_finding hR (k := 0) (by omega) (fun _ _ h => h)) vX5_finding rfl lX5_109 ⟨_, _, _, rfl, rfl, rfl⟩ (by decide) (Nat.le_of_ble_eq_true rfl) dX5_now_79 rfl ?_
  rintro v M1 ⟨rfl, hR1⟩
  exact G_iret (st := []) (K := mX5_now) dX5_now_82 rfl (hQ _ _ (by rw [show opNow σ w = _ from (by unfold opNow; exact (if_neg e1_0).trans ((if_neg e1_1).trans ((if_neg e1_2).trans ((if_neg e1_3).trans ((if_neg e1_4).trans (if_neg e1_5))))))]; exact ⟨rfl, hR1⟩))

set_option maxRecDepth 20000 in
theorem rf_ahead {M σ : Mem} {a w : Int32} (hR : RR M σ) (hI : Inv σ) {Q : Option Value → Mem → Prop} (hQ : ∀ u' M', PostR (opAhead σ a w) u' M' → Q u' M') : CT mX5_ahead shR 8 [.ref 0, .int a, .int w] M Q := by
  refine CT.mk [some (.ref 0), some (.int a), some (.int w), none] (by decide) (Nat.le_of_ble_eq_true rfl) rfl rfl ?_
  refine G_iload_n (K := mX5_ahead) (i := 1) dX5_ahead_0 rfl rfl ?_
  refine G_iconst (K := mX5_ahead) (v := 0) dX5_ahead_1 (by decide) ?_
  refine G_bipush (K := mX5_ahead) (v := 100) dX5_ahead_2 (by decide) ?_
  refine G_sv (K := mX5_ahead) (c_X5_within (v := a) (a := 0) (b := nI 100) ⟨rfl, rfl⟩) sX5_within rfl lX5_97 dX5_ahead_4 (by decide) rfl (Nat.le_of_ble_eq_true rfl) ?_
  refine G_if_eq (K := mX5_ahead) (tgt := 29) dX5_ahead_7 (by decide) (fun c7 => ?_) (fun c7 => ?_)
  · skip
    refine G_aload_n (K := mX5_ahead) (i := 0) dX5_ahead_29 rfl rfl ?_
    refine G_ldc (K := mX5_ahead) dX5_ahead_30 kX5_92 ?_
    refine G_call0 (K := mX5_ahead) (Q' := PostR (tl σ 0)) (rf_finding hR (k := 0) (by omega) (fun _ _ h => h)) vX5_finding rfl lX5_109 ⟨_, _, _, rfl, rfl, rfl⟩ (by decide) (Nat.le_of_ble_eq_true rfl) dX5_ahead_32 rfl ?_
    rintro v M1 ⟨rfl, hR1⟩
    exact G_iret (st := []) (K := mX5_ahead) dX5_ahead_35 rfl (hQ _ _ (by rw [show opAhead σ a w = _ from (by unfold opAhead; exact ((within_3 c7).elim (fun h => if_pos h) (fun h => (if_neg h.1).trans (if_pos h.2))))]; exact ⟨rfl, hR1⟩))
  · skip
    obtain ⟨ha1, ha2⟩ := within_2 c7
    obtain ⟨k, hk, rfl⟩ := within_i (m := 100) (by decide) c7
    refine G_iload_n (K := mX5_ahead) (i := 2) dX5_ahead_10 rfl rfl ?_
    refine G_iconst (K := mX5_ahead) (v := 0) dX5_ahead_11 (by decide) ?_
    refine G_iconst (K := mX5_ahead) (v := 3) dX5_ahead_12 (by decide) ?_
    refine G_sv (K := mX5_ahead) (c_X5_within (v := w) (a := 0) (b := nI 3) ⟨rfl, rfl⟩) sX5_within rfl lX5_97 dX5_ahead_13 (by decide) rfl (Nat.le_of_ble_eq_true rfl) ?_
    refine G_if_ne (K := mX5_ahead) (tgt := 36) dX5_ahead_16 (by decide) (fun c16 => ?_) (fun c16 => ?_)
    · skip
      obtain ⟨hw1, hw2⟩ := within_2 c16
      have hw3 : ¬ (3 < w ∧ roomB (nOf σ) (w - 4) = false) := fun z => hw2 z.1
      refine G_aload_n (K := mX5_ahead) (i := 0) dX5_ahead_36 rfl rfl ?_
      refine G_iload_n (K := mX5_ahead) (i := 1) dX5_ahead_37 rfl rfl ?_
      refine G_cv (K := mX5_ahead) (c_X5_isTooLate (a := (nI k)) ⟨rfl, rfl⟩) vX5_isTooLate rfl lX5_160 dX5_ahead_38 ⟨_, _, _, rfl, rfl, rfl⟩ (by decide) rfl (Nat.le_of_ble_eq_true rfl) ?_
      rw [hR.hour]
      refine G_if_eq (K := mX5_ahead) (tgt := 51) dX5_ahead_41 (by decide) (fun c41 => ?_) (fun c41 => ?_)
      · skip
        have hT := of_decide_eq_false (bI_0 c41)
        refine G_aload_n (K := mX5_ahead) (i := 0) dX5_ahead_51 rfl rfl ?_
        refine G_getr (K := mX5_ahead) fX5_9 dX5_ahead_52 rfl rfl ?_
        refine G_aload_n (K := mX5_ahead) (i := 0) dX5_ahead_55 rfl rfl ?_
        refine G_getr (K := mX5_ahead) fX5_16 dX5_ahead_56 rfl rfl ?_
        refine G_sn (K := mX5_ahead) (c_X5_copyRow (a := 1) (b := 3) rfl rfl (by decide) ⟨rfl, rfl⟩) sX5_copyRow rfl lX5_93 dX5_ahead_59 (by decide) rfl (Nat.le_of_ble_eq_true rfl) ?_
        refine G_aload_n (K := mX5_ahead) (i := 0) dX5_ahead_62 rfl rfl ?_
        refine G_iload_n (K := mX5_ahead) (i := 1) dX5_ahead_63 rfl rfl ?_
        refine G_call0 (K := mX5_ahead) (as := [.int (nI k)]) (r := 0) (Q' := fun v Mz => v = some (.int (hoursSum (nOf σ) k (toH (cpyM M 1 3 86 1)))) ∧ toH (Mz 1) = hoursH (nOf σ) k (toH (cpyM M 1 3 86 1)) ∧ ∀ c, c ≠ 1 → c ≠ 7 → Mz c = cpyM M 1 3 86 c) (c_X5_hoursGo (n := nOf σ) (k := k) (by rw [cpyM_c (by decide)]; exact hR.n hI) hI.n8 (by omega) (by rw [cpyM_c (by decide)]; exact hR.wall hI) (fun Mz h1 h2 => ⟨rfl, h1, h2⟩)) vX5_hoursGo rfl lX5_164 ⟨_, _, _, rfl, rfl, rfl⟩ (by decide) (Nat.le_of_ble_eq_true rfl) dX5_ahead_64 rfl ?_
        rintro v M2 ⟨rfl, h21, h22⟩
        rw [cpyM_c (by decide)] at h21
        rw [cpyM_c (by decide)]
        have hA2 : HR (toH (M2 1)) (aH σ k) (nOf σ) := by rw [h21]; exact hoursH_congr hR.1 k
        have hn2 : M2 1 2 = nI (nOf σ) := by rw [← toH_n (M2 1), h21, hoursH_0]; exact hR.n hI
        have h23 : toH (M2 3) = toH (M 1) := by rw [h22 3 (by decide) (by decide)]; exact toH_cpy
        have h2c : ∀ c, c ≠ 1 → c ≠ 3 → c ≠ 7 → M2 c = M c := fun c a b d => by rw [h22 c a d, cpyM_c b]
        have hRb : RR (cpyM M2 3 1 86) σ := hR.back h23 (fun c a b d _ _ => h2c c a b d)
        refine G_istore_n (K := mX5_ahead) (i := 3) dX5_ahead_67 rfl (by decide) ?_
        refine G_aload_n (K := mX5_ahead) (i := 0) dX5_ahead_68 rfl rfl ?_
        refine G_iload_n (K := mX5_ahead) (i := 2) dX5_ahead_69 rfl rfl ?_
        refine G_if_ne (K := mX5_ahead) (tgt := 77) dX5_ahead_70 (by decide) (fun c70 => ?_) (fun c70 => ?_)
        · skip
          refine G_iload_n (K := mX5_ahead) (i := 2) dX5_ahead_77 rfl rfl ?_
          refine G_iconst (K := mX5_ahead) (v := 1) dX5_ahead_78 (by decide) ?_
          refine G_icmp_ne (K := mX5_ahead) (tgt := 89) dX5_ahead_79 (by decide) (fun c79 => ?_) (fun c79 => ?_)
          · skip
            refine G_iload_n (K := mX5_ahead) (i := 2) dX5_ahead_89 rfl rfl ?_
            refine G_iconst (K := mX5_ahead) (v := 2) dX5_ahead_90 (by decide) ?_
            refine G_icmp_ne (K := mX5_ahead) (tgt := 102) dX5_ahead_91 (by decide) (fun c91 => ?_) (fun c91 => ?_)
            · skip
              refine G_iload_n (K := mX5_ahead) (i := 2) dX5_ahead_102 rfl rfl ?_
              refine G_iconst (K := mX5_ahead) (v := 3) dX5_ahead_103 (by decide) ?_
              refine G_icmp_ne (K := mX5_ahead) (tgt := 114) dX5_ahead_104 (by decide) (fun c104 => ?_) (fun c104 => ?_)
              · skip
                exact absurd (by
                    obtain ⟨q, hq, rfl⟩ := within_i (m := 3) (by decide) c16
                    have h4 : q = 0 ∨ q = 1 ∨ q = 2 ∨ q = 3 := by omega
                    rcases h4 with rfl | rfl | rfl | rfl
                    · exact absurd rfl c70
                    · exact absurd rfl c79
                    · exact absurd rfl c91
                    · exact absurd rfl c104 : False) id
              · skip
                refine G_aload_n (K := mX5_ahead) (i := 0) dX5_ahead_107 rfl rfl ?_
                refine G_cv (K := mX5_ahead) (c_X5_leastWarmth (M := M2) (n := nOf σ) hn2 hI.n8 ⟨rfl, rfl⟩) vX5_leastWarmth rfl lX5_176 dX5_ahead_108 ⟨_, _, _, rfl, rfl, rfl⟩ (by decide) rfl (Nat.le_of_ble_eq_true rfl) ?_
                refine G_goto (K := mX5_ahead) (tgt := 122) dX5_ahead_111 (by decide) ?_
                refine G_cv (K := mX5_ahead) (c_X5_putBack (M := M2) (v := _) ⟨rfl, rfl⟩) vX5_putBack rfl lX5_179 dX5_ahead_122 ⟨_, _, _, rfl, rfl, rfl⟩ (by decide) rfl (Nat.le_of_ble_eq_true rfl) ?_
                exact G_iret (st := []) (K := mX5_ahead) dX5_ahead_125 rfl (hQ _ _ (by rw [show opAhead σ (nI k) w = (aheadV σ (nI k) w, σ) from (if_neg ha1).trans ((if_neg ha2).trans ((if_neg hw1).trans ((if_neg hw3).trans (if_neg hT)))), show aheadV σ (nI k) w = _ from (if_neg c70).trans ((if_neg c79).trans ((if_neg c91).trans (if_pos c104)))]; exact ⟨congrArg (fun z => some (Value.int z)) (by rw [cut_nI (by omega)]; exact leastN_congr (by have := hI.n8; omega) (fun i hi => hA2.f 2 (by omega) (by omega) hi)), hRb⟩))
            · skip
              refine G_aload_n (K := mX5_ahead) (i := 0) dX5_ahead_94 rfl rfl ?_
              refine G_iconst (K := mX5_ahead) (v := 1) dX5_ahead_95 (by decide) ?_
              refine G_cv (K := mX5_ahead) (c_X5_sum (M := M2) (n := nOf σ) (f := 1) (by omega) hn2 hI.n8 ⟨rfl, rfl⟩) vX5_sum rfl lX5_173 dX5_ahead_96 ⟨_, _, _, rfl, rfl, rfl⟩ (by decide) rfl (Nat.le_of_ble_eq_true rfl) ?_
              refine G_goto (K := mX5_ahead) (tgt := 122) dX5_ahead_99 (by decide) ?_
              refine G_cv (K := mX5_ahead) (c_X5_putBack (M := M2) (v := _) ⟨rfl, rfl⟩) vX5_putBack rfl lX5_179 dX5_ahead_122 ⟨_, _, _, rfl, rfl, rfl⟩ (by decide) rfl (Nat.le_of_ble_eq_true rfl) ?_
              exact G_iret (st := []) (K := mX5_ahead) dX5_ahead_125 rfl (hQ _ _ (by rw [show opAhead σ (nI k) w = (aheadV σ (nI k) w, σ) from (if_neg ha1).trans ((if_neg ha2).trans ((if_neg hw1).trans ((if_neg hw3).trans (if_neg hT)))), show aheadV σ (nI k) w = _ from (if_neg c70).trans ((if_neg c79).trans (if_pos c91))]; exact ⟨congrArg (fun z => some (Value.int z)) (by rw [cut_nI (by omega)]; exact sumN_congr _ (fun i hi => hA2.f 2 (by omega) (by omega) hi)), hRb⟩))
          · skip
            refine G_aload_n (K := mX5_ahead) (i := 0) dX5_ahead_82 rfl rfl ?_
            refine G_cv (K := mX5_ahead) (c_X5_colds (M := M2) (n := nOf σ) hn2 hI.n8 ⟨rfl, rfl⟩) vX5_colds rfl lX5_170 dX5_ahead_83 ⟨_, _, _, rfl, rfl, rfl⟩ (by decide) rfl (Nat.le_of_ble_eq_true rfl) ?_
            refine G_goto (K := mX5_ahead) (tgt := 122) dX5_ahead_86 (by decide) ?_
            refine G_cv (K := mX5_ahead) (c_X5_putBack (M := M2) (v := _) ⟨rfl, rfl⟩) vX5_putBack rfl lX5_179 dX5_ahead_122 ⟨_, _, _, rfl, rfl, rfl⟩ (by decide) rfl (Nat.le_of_ble_eq_true rfl) ?_
            exact G_iret (st := []) (K := mX5_ahead) dX5_ahead_125 rfl (hQ _ _ (by rw [show opAhead σ (nI k) w = (aheadV σ (nI k) w, σ) from (if_neg ha1).trans ((if_neg ha2).trans ((if_neg hw1).trans ((if_neg hw3).trans (if_neg hT)))), show aheadV σ (nI k) w = _ from (if_neg c70).trans (if_pos c79)]; exact ⟨congrArg (fun z => some (Value.int z)) (by rw [cut_nI (by omega)]; exact bits_congr _ (fun i hi => by rw [hA2.f 2 (by omega) (by omega) hi]; rfl)), hRb⟩))
        · skip
          refine G_iload_n (K := mX5_ahead) (i := 3) dX5_ahead_73 rfl rfl ?_
          refine G_goto (K := mX5_ahead) (tgt := 122) dX5_ahead_74 (by decide) ?_
          refine G_cv (K := mX5_ahead) (c_X5_putBack (M := M2) (v := _) ⟨rfl, rfl⟩) vX5_putBack rfl lX5_179 dX5_ahead_122 ⟨_, _, _, rfl, rfl, rfl⟩ (by decide) rfl (Nat.le_of_ble_eq_true rfl) ?_
          exact G_iret (st := []) (K := mX5_ahead) dX5_ahead_125 rfl (hQ _ _ (by rw [show opAhead σ (nI k) w = (aheadV σ (nI k) w, σ) from (if_neg ha1).trans ((if_neg ha2).trans ((if_neg hw1).trans ((if_neg hw3).trans (if_neg hT)))), show aheadV σ (nI k) w = _ from if_pos c70]; exact ⟨congrArg (fun z => some (Value.int z)) (by rw [cut_nI (by omega)]; exact hoursSum_congr hR.1 k), hRb⟩))
      · skip
        have hT := of_decide_eq_true (bI_1 c41)
        refine G_aload_n (K := mX5_ahead) (i := 0) dX5_ahead_44 rfl rfl ?_
        refine G_ldc (K := mX5_ahead) dX5_ahead_45 kX5_163 ?_
        refine G_call0 (K := mX5_ahead) (Q' := PostR (tl σ 4)) (rf_finding hR (k := 4) (by omega) (fun _ _ h => h)) vX5_finding rfl lX5_109 ⟨_, _, _, rfl, rfl, rfl⟩ (by decide) (Nat.le_of_ble_eq_true rfl) dX5_ahead_47 rfl ?_
        rintro v M1 ⟨rfl, hR1⟩
        exact G_iret (st := []) (K := mX5_ahead) dX5_ahead_50 rfl (hQ _ _ (by rw [show opAhead σ (nI k) w = _ from (by unfold opAhead; exact (if_neg ha1).trans ((if_neg ha2).trans ((if_neg hw1).trans ((if_neg hw3).trans (if_pos hT)))))]; exact ⟨rfl, hR1⟩))
    · skip
      refine G_aload_n (K := mX5_ahead) (i := 0) dX5_ahead_19 rfl rfl ?_
      refine G_iload_n (K := mX5_ahead) (i := 2) dX5_ahead_20 rfl rfl ?_
      refine G_iconst (K := mX5_ahead) (v := 4) dX5_ahead_21 (by decide) ?_
      refine G_isub (K := mX5_ahead) dX5_ahead_22 ?_
      refine G_cv (K := mX5_ahead) (c_X5_isRoom (r := (w - 4)) (n := nOf σ) (hR.n hI) hI.n8 ⟨rfl, rfl⟩) vX5_isRoom rfl lX5_128 dX5_ahead_23 ⟨_, _, _, rfl, rfl, rfl⟩ (by decide) rfl (Nat.le_of_ble_eq_true rfl) ?_
      refine G_if_ne (K := mX5_ahead) (tgt := 36) dX5_ahead_26 (by decide) (fun c26 => ?_) (fun c26 => ?_)
      · skip
        have hB := bI_1 c26
        obtain ⟨j, hj, ej⟩ := roomB_t (by have := hI.n8; omega) hB
        have ew : w = nI (j + 4) := by
          rw [← nI_add, ← ej]
          show w = w - 4 + 4
          grind
        have hw1 : ¬ w < 0 := by rw [ew]; exact nI_pos (by have := hI.n8; omega)
        have hw3 : ¬ (3 < w ∧ roomB (nOf σ) (w - 4) = false) := fun z => by rw [hB] at z; exact absurd z.2 (by decide)
        refine G_aload_n (K := mX5_ahead) (i := 0) dX5_ahead_36 rfl rfl ?_
        refine G_iload_n (K := mX5_ahead) (i := 1) dX5_ahead_37 rfl rfl ?_
        refine G_cv (K := mX5_ahead) (c_X5_isTooLate (a := (nI k)) ⟨rfl, rfl⟩) vX5_isTooLate rfl lX5_160 dX5_ahead_38 ⟨_, _, _, rfl, rfl, rfl⟩ (by decide) rfl (Nat.le_of_ble_eq_true rfl) ?_
        rw [hR.hour]
        refine G_if_eq (K := mX5_ahead) (tgt := 51) dX5_ahead_41 (by decide) (fun c41 => ?_) (fun c41 => ?_)
        · skip
          have hT := of_decide_eq_false (bI_0 c41)
          refine G_aload_n (K := mX5_ahead) (i := 0) dX5_ahead_51 rfl rfl ?_
          refine G_getr (K := mX5_ahead) fX5_9 dX5_ahead_52 rfl rfl ?_
          refine G_aload_n (K := mX5_ahead) (i := 0) dX5_ahead_55 rfl rfl ?_
          refine G_getr (K := mX5_ahead) fX5_16 dX5_ahead_56 rfl rfl ?_
          refine G_sn (K := mX5_ahead) (c_X5_copyRow (a := 1) (b := 3) rfl rfl (by decide) ⟨rfl, rfl⟩) sX5_copyRow rfl lX5_93 dX5_ahead_59 (by decide) rfl (Nat.le_of_ble_eq_true rfl) ?_
          refine G_aload_n (K := mX5_ahead) (i := 0) dX5_ahead_62 rfl rfl ?_
          refine G_iload_n (K := mX5_ahead) (i := 1) dX5_ahead_63 rfl rfl ?_
          refine G_call0 (K := mX5_ahead) (as := [.int (nI k)]) (r := 0) (Q' := fun v Mz => v = some (.int (hoursSum (nOf σ) k (toH (cpyM M 1 3 86 1)))) ∧ toH (Mz 1) = hoursH (nOf σ) k (toH (cpyM M 1 3 86 1)) ∧ ∀ c, c ≠ 1 → c ≠ 7 → Mz c = cpyM M 1 3 86 c) (c_X5_hoursGo (n := nOf σ) (k := k) (by rw [cpyM_c (by decide)]; exact hR.n hI) hI.n8 (by omega) (by rw [cpyM_c (by decide)]; exact hR.wall hI) (fun Mz h1 h2 => ⟨rfl, h1, h2⟩)) vX5_hoursGo rfl lX5_164 ⟨_, _, _, rfl, rfl, rfl⟩ (by decide) (Nat.le_of_ble_eq_true rfl) dX5_ahead_64 rfl ?_
          rintro v M2 ⟨rfl, h21, h22⟩
          rw [cpyM_c (by decide)] at h21
          rw [cpyM_c (by decide)]
          have hA2 : HR (toH (M2 1)) (aH σ k) (nOf σ) := by rw [h21]; exact hoursH_congr hR.1 k
          have hn2 : M2 1 2 = nI (nOf σ) := by rw [← toH_n (M2 1), h21, hoursH_0]; exact hR.n hI
          have h23 : toH (M2 3) = toH (M 1) := by rw [h22 3 (by decide) (by decide)]; exact toH_cpy
          have h2c : ∀ c, c ≠ 1 → c ≠ 3 → c ≠ 7 → M2 c = M c := fun c a b d => by rw [h22 c a d, cpyM_c b]
          have hRb : RR (cpyM M2 3 1 86) σ := hR.back h23 (fun c a b d _ _ => h2c c a b d)
          refine G_istore_n (K := mX5_ahead) (i := 3) dX5_ahead_67 rfl (by decide) ?_
          refine G_aload_n (K := mX5_ahead) (i := 0) dX5_ahead_68 rfl rfl ?_
          refine G_iload_n (K := mX5_ahead) (i := 2) dX5_ahead_69 rfl rfl ?_
          refine G_if_ne (K := mX5_ahead) (tgt := 77) dX5_ahead_70 (by decide) (fun c70 => ?_) (fun c70 => ?_)
          · skip
            refine G_iload_n (K := mX5_ahead) (i := 2) dX5_ahead_77 rfl rfl ?_
            refine G_iconst (K := mX5_ahead) (v := 1) dX5_ahead_78 (by decide) ?_
            refine G_icmp_ne (K := mX5_ahead) (tgt := 89) dX5_ahead_79 (by decide) (fun c79 => ?_) (fun c79 => ?_)
            · skip
              refine G_iload_n (K := mX5_ahead) (i := 2) dX5_ahead_89 rfl rfl ?_
              refine G_iconst (K := mX5_ahead) (v := 2) dX5_ahead_90 (by decide) ?_
              refine G_icmp_ne (K := mX5_ahead) (tgt := 102) dX5_ahead_91 (by decide) (fun c91 => ?_) (fun c91 => ?_)
              · skip
                refine G_iload_n (K := mX5_ahead) (i := 2) dX5_ahead_102 rfl rfl ?_
                refine G_iconst (K := mX5_ahead) (v := 3) dX5_ahead_103 (by decide) ?_
                refine G_icmp_ne (K := mX5_ahead) (tgt := 114) dX5_ahead_104 (by decide) (fun c104 => ?_) (fun c104 => ?_)
                · skip
                  refine G_aload_n (K := mX5_ahead) (i := 0) dX5_ahead_114 rfl rfl ?_
                  refine G_iload_n (K := mX5_ahead) (i := 2) dX5_ahead_115 rfl rfl ?_
                  refine G_iconst (K := mX5_ahead) (v := 4) dX5_ahead_116 (by decide) ?_
                  refine G_isub (K := mX5_ahead) dX5_ahead_117 ?_
                  rw [ej]
                  refine G_iconst (K := mX5_ahead) (v := 1) dX5_ahead_118 (by decide) ?_
                  refine G_cv (K := mX5_ahead) (c_X5_roomIs (M := M2) (i := j) (f := 1) (by have := hI.n8; omega) (by omega) ⟨rfl, rfl⟩) vX5_roomIs rfl lX5_120 dX5_ahead_119 ⟨_, _, _, rfl, rfl, rfl⟩ (by decide) rfl (Nat.le_of_ble_eq_true rfl) ?_
                  refine G_cv (K := mX5_ahead) (c_X5_putBack (M := M2) (v := _) ⟨rfl, rfl⟩) vX5_putBack rfl lX5_179 dX5_ahead_122 ⟨_, _, _, rfl, rfl, rfl⟩ (by decide) rfl (Nat.le_of_ble_eq_true rfl) ?_
                  exact G_iret (st := []) (K := mX5_ahead) dX5_ahead_125 rfl (hQ _ _ (by rw [show opAhead σ (nI k) w = (aheadV σ (nI k) w, σ) from (if_neg ha1).trans ((if_neg ha2).trans ((if_neg hw1).trans ((if_neg hw3).trans (if_neg hT)))), show aheadV σ (nI k) w = _ from (if_neg c70).trans ((if_neg c79).trans ((if_neg c91).trans (if_neg c104)))]; exact ⟨congrArg (fun z => some (Value.int z)) (by rw [cut_nI (by omega), ej, cut_nI (by have := hI.n8; omega)]; exact hA2.f 2 (by omega) (by omega) hj), hRb⟩))
                · skip
                  refine G_aload_n (K := mX5_ahead) (i := 0) dX5_ahead_107 rfl rfl ?_
                  refine G_cv (K := mX5_ahead) (c_X5_leastWarmth (M := M2) (n := nOf σ) hn2 hI.n8 ⟨rfl, rfl⟩) vX5_leastWarmth rfl lX5_176 dX5_ahead_108 ⟨_, _, _, rfl, rfl, rfl⟩ (by decide) rfl (Nat.le_of_ble_eq_true rfl) ?_
                  refine G_goto (K := mX5_ahead) (tgt := 122) dX5_ahead_111 (by decide) ?_
                  refine G_cv (K := mX5_ahead) (c_X5_putBack (M := M2) (v := _) ⟨rfl, rfl⟩) vX5_putBack rfl lX5_179 dX5_ahead_122 ⟨_, _, _, rfl, rfl, rfl⟩ (by decide) rfl (Nat.le_of_ble_eq_true rfl) ?_
                  exact G_iret (st := []) (K := mX5_ahead) dX5_ahead_125 rfl (hQ _ _ (by rw [show opAhead σ (nI k) w = (aheadV σ (nI k) w, σ) from (if_neg ha1).trans ((if_neg ha2).trans ((if_neg hw1).trans ((if_neg hw3).trans (if_neg hT)))), show aheadV σ (nI k) w = _ from (if_neg c70).trans ((if_neg c79).trans ((if_neg c91).trans (if_pos c104)))]; exact ⟨congrArg (fun z => some (Value.int z)) (by rw [cut_nI (by omega)]; exact leastN_congr (by have := hI.n8; omega) (fun i hi => hA2.f 2 (by omega) (by omega) hi)), hRb⟩))
              · skip
                refine G_aload_n (K := mX5_ahead) (i := 0) dX5_ahead_94 rfl rfl ?_
                refine G_iconst (K := mX5_ahead) (v := 1) dX5_ahead_95 (by decide) ?_
                refine G_cv (K := mX5_ahead) (c_X5_sum (M := M2) (n := nOf σ) (f := 1) (by omega) hn2 hI.n8 ⟨rfl, rfl⟩) vX5_sum rfl lX5_173 dX5_ahead_96 ⟨_, _, _, rfl, rfl, rfl⟩ (by decide) rfl (Nat.le_of_ble_eq_true rfl) ?_
                refine G_goto (K := mX5_ahead) (tgt := 122) dX5_ahead_99 (by decide) ?_
                refine G_cv (K := mX5_ahead) (c_X5_putBack (M := M2) (v := _) ⟨rfl, rfl⟩) vX5_putBack rfl lX5_179 dX5_ahead_122 ⟨_, _, _, rfl, rfl, rfl⟩ (by decide) rfl (Nat.le_of_ble_eq_true rfl) ?_
                exact G_iret (st := []) (K := mX5_ahead) dX5_ahead_125 rfl (hQ _ _ (by rw [show opAhead σ (nI k) w = (aheadV σ (nI k) w, σ) from (if_neg ha1).trans ((if_neg ha2).trans ((if_neg hw1).trans ((if_neg hw3).trans (if_neg hT)))), show aheadV σ (nI k) w = _ from (if_neg c70).trans ((if_neg c79).trans (if_pos c91))]; exact ⟨congrArg (fun z => some (Value.int z)) (by rw [cut_nI (by omega)]; exact sumN_congr _ (fun i hi => hA2.f 2 (by omega) (by omega) hi)), hRb⟩))
            · skip
              refine G_aload_n (K := mX5_ahead) (i := 0) dX5_ahead_82 rfl rfl ?_
              refine G_cv (K := mX5_ahead) (c_X5_colds (M := M2) (n := nOf σ) hn2 hI.n8 ⟨rfl, rfl⟩) vX5_colds rfl lX5_170 dX5_ahead_83 ⟨_, _, _, rfl, rfl, rfl⟩ (by decide) rfl (Nat.le_of_ble_eq_true rfl) ?_
              refine G_goto (K := mX5_ahead) (tgt := 122) dX5_ahead_86 (by decide) ?_
              refine G_cv (K := mX5_ahead) (c_X5_putBack (M := M2) (v := _) ⟨rfl, rfl⟩) vX5_putBack rfl lX5_179 dX5_ahead_122 ⟨_, _, _, rfl, rfl, rfl⟩ (by decide) rfl (Nat.le_of_ble_eq_true rfl) ?_
              exact G_iret (st := []) (K := mX5_ahead) dX5_ahead_125 rfl (hQ _ _ (by rw [show opAhead σ (nI k) w = (aheadV σ (nI k) w, σ) from (if_neg ha1).trans ((if_neg ha2).trans ((if_neg hw1).trans ((if_neg hw3).trans (if_neg hT)))), show aheadV σ (nI k) w = _ from (if_neg c70).trans (if_pos c79)]; exact ⟨congrArg (fun z => some (Value.int z)) (by rw [cut_nI (by omega)]; exact bits_congr _ (fun i hi => by rw [hA2.f 2 (by omega) (by omega) hi]; rfl)), hRb⟩))
          · skip
            refine G_iload_n (K := mX5_ahead) (i := 3) dX5_ahead_73 rfl rfl ?_
            refine G_goto (K := mX5_ahead) (tgt := 122) dX5_ahead_74 (by decide) ?_
            refine G_cv (K := mX5_ahead) (c_X5_putBack (M := M2) (v := _) ⟨rfl, rfl⟩) vX5_putBack rfl lX5_179 dX5_ahead_122 ⟨_, _, _, rfl, rfl, rfl⟩ (by decide) rfl (Nat.le_of_ble_eq_true rfl) ?_
            exact G_iret (st := []) (K := mX5_ahead) dX5_ahead_125 rfl (hQ _ _ (by rw [show opAhead σ (nI k) w = (aheadV σ (nI k) w, σ) from (if_neg ha1).trans ((if_neg ha2).trans ((if_neg hw1).trans ((if_neg hw3).trans (if_neg hT)))), show aheadV σ (nI k) w = _ from if_pos c70]; exact ⟨congrArg (fun z => some (Value.int z)) (by rw [cut_nI (by omega)]; exact hoursSum_congr hR.1 k), hRb⟩))
        · skip
          have hT := of_decide_eq_true (bI_1 c41)
          refine G_aload_n (K := mX5_ahead) (i := 0) dX5_ahead_44 rfl rfl ?_
          refine G_ldc (K := mX5_ahead) dX5_ahead_45 kX5_163 ?_
          refine G_call0 (K := mX5_ahead) (Q' := PostR (tl σ 4)) (rf_finding hR (k := 4) (by omega) (fun _ _ h => h)) vX5_finding rfl lX5_109 ⟨_, _, _, rfl, rfl, rfl⟩ (by decide) (Nat.le_of_ble_eq_true rfl) dX5_ahead_47 rfl ?_
          rintro v M1 ⟨rfl, hR1⟩
          exact G_iret (st := []) (K := mX5_ahead) dX5_ahead_50 rfl (hQ _ _ (by rw [show opAhead σ (nI k) w = _ from (by unfold opAhead; exact (if_neg ha1).trans ((if_neg ha2).trans ((if_neg hw1).trans ((if_neg hw3).trans (if_pos hT)))))]; exact ⟨rfl, hR1⟩))
      · skip
        have hB := bI_0 c26
        refine G_aload_n (K := mX5_ahead) (i := 0) dX5_ahead_29 rfl rfl ?_
        refine G_ldc (K := mX5_ahead) dX5_ahead_30 kX5_92 ?_
        refine G_call0 (K := mX5_ahead) (Q' := PostR (tl σ 0)) (rf_finding hR (k := 0) (by omega) (fun _ _ h => h)) vX5_finding rfl lX5_109 ⟨_, _, _, rfl, rfl, rfl⟩ (by decide) (Nat.le_of_ble_eq_true rfl) dX5_ahead_32 rfl ?_
        rintro v M1 ⟨rfl, hR1⟩
        exact G_iret (st := []) (K := mX5_ahead) dX5_ahead_35 rfl (hQ _ _ (by rw [show opAhead σ (nI k) w = _ from (by unfold opAhead; exact (if_neg ha1).trans ((if_neg ha2).trans ((within_3 c16).elim (fun h => if_pos h) (fun h => (if_neg h.1).trans (if_pos ⟨h.2, hB⟩)))))]; exact ⟨rfl, hR1⟩))

theorem wall_hours {σ : Mem} (hI : Inv σ) (k : Nat) {i : Nat} (hi : i < nOf σ) : 0 < hoursH (nOf σ) k σ 4 i := by
  have h := ((hI.1.j.hours hI.n8 hI.1.2.2.1.1 k) i hi).2.2.1
  unfold rg at h
  rw [i32_lt]
  show (0 : Int) < _
  omega
set_option maxRecDepth 20000 in
theorem rf_firstBelow {M σ : Mem} {r bound : Int32} {f : Nat} (hf : f < 9) (hR : RR M σ) (hI : Inv σ) {Q : Option Value → Mem → Prop} (hQ : ∀ u' M', PostR (opFirst σ r (1 + f) bound) u' M' → Q u' M') : CT mX5_firstBelow shR 7 [.ref 0, .int r, .int (nI f), .int bound] M Q := by
  refine CT.mk [some (.ref 0), some (.int r), some (.int (nI f)), some (.int bound), none] (by decide) (Nat.le_of_ble_eq_true rfl) rfl rfl ?_
  refine G_aload_n (K := mX5_firstBelow) (i := 0) dX5_firstBelow_0 rfl rfl ?_
  refine G_iload_n (K := mX5_firstBelow) (i := 1) dX5_firstBelow_1 rfl rfl ?_
  refine G_cv (K := mX5_firstBelow) (c_X5_isRoom (r := r) (n := nOf σ) (hR.n hI) hI.n8 ⟨rfl, rfl⟩) vX5_isRoom rfl lX5_128 dX5_firstBelow_2 ⟨_, _, _, rfl, rfl, rfl⟩ (by decide) rfl (Nat.le_of_ble_eq_true rfl) ?_
  refine G_if_ne (K := mX5_firstBelow) (tgt := 15) dX5_firstBelow_5 (by decide) (fun c5 => ?_) (fun c5 => ?_)
  · skip
    obtain ⟨q, hq, rfl⟩ := roomB_t (by have := hI.n8; omega) (bI_1 c5)
    have hB := roomB_nI (n := nOf σ) (by have := hI.n8; omega) hq
    refine G_aload_n (K := mX5_firstBelow) (i := 0) dX5_firstBelow_15 rfl rfl ?_
    refine G_cv (K := mX5_firstBelow) (c_X5_isLate ⟨rfl, rfl⟩) vX5_isLate rfl lX5_182 dX5_firstBelow_16 ⟨_, _, _, rfl, rfl, rfl⟩ (by decide) rfl (Nat.le_of_ble_eq_true rfl) ?_
    rw [hR.hour, late_B hI]
    refine G_if_eq (K := mX5_firstBelow) (tgt := 29) dX5_firstBelow_19 (by decide) (fun c19 => ?_) (fun c19 => ?_)
    · skip
      refine G_aload_n (K := mX5_firstBelow) (i := 0) dX5_firstBelow_29 rfl rfl ?_
      refine G_getr (K := mX5_firstBelow) fX5_9 dX5_firstBelow_30 rfl rfl ?_
      refine G_aload_n (K := mX5_firstBelow) (i := 0) dX5_firstBelow_33 rfl rfl ?_
      refine G_getr (K := mX5_firstBelow) fX5_16 dX5_firstBelow_34 rfl rfl ?_
      refine G_sn (K := mX5_firstBelow) (c_X5_copyRow (a := 1) (b := 3) rfl rfl (by decide) ⟨rfl, rfl⟩) sX5_copyRow rfl lX5_93 dX5_firstBelow_37 (by decide) rfl (Nat.le_of_ble_eq_true rfl) ?_
      refine G_iconst (K := mX5_firstBelow) (v := 0) dX5_firstBelow_40 (by decide) ?_
      refine G_istore (K := mX5_firstBelow) dX5_firstBelow_41 (by decide) ?_
      have loop43 : ∀ i, i ≤ 101 → ∀ M3 : Mem, toH (M3 1) = hoursH (nOf σ) i (toH (M 1)) → toH (M3 3) = toH (M 1) → (∀ z, z ≠ 1 → z ≠ 3 → z ≠ 7 → M3 z = M z) → (∀ j, j < i → decide (hoursH (nOf σ) j σ (1 + f) q < bound) = false) → G mX5_firstBelow shR 7 Q 43 [some (.ref 0), some (.int (nI q)), some (.int (nI f)), some (.int bound), some (.int (nI i))] [] M3 := by
        refine upto 101 (fun i hi ih => ?_)
        intro M3 h31 h33 h3c hno
        refine G_iload (K := mX5_firstBelow) dX5_firstBelow_43 rfl ?_
        refine G_bipush (K := mX5_firstBelow) (v := 100) dX5_firstBelow_45 (by decide) ?_
        refine G_icmp_gt (K := mX5_firstBelow) (tgt := 72) dX5_firstBelow_47 (by decide) (fun c47 => ?_) (fun c47 => ?_)
        · skip
          rw [show (100 : Int32) = nI 100 from rfl, lt_nn (by omega) (by omega)] at c47
          have hi1 : i = 101 := by omega
          subst hi1
          have hRb : RR (cpyM M3 3 1 86) σ := hR.back h33 (fun c a b d _ _ => h3c c a b d)
          refine G_aload_n (K := mX5_firstBelow) (i := 0) dX5_firstBelow_72 rfl rfl ?_
          refine G_iload (K := mX5_firstBelow) dX5_firstBelow_73 rfl ?_
          refine G_cv (K := mX5_firstBelow) (c_X5_putBack (M := M3) (v := _) ⟨rfl, rfl⟩) vX5_putBack rfl lX5_179 dX5_firstBelow_75 ⟨_, _, _, rfl, rfl, rfl⟩ (by decide) rfl (Nat.le_of_ble_eq_true rfl) ?_
          refine G_bipush (K := mX5_firstBelow) (v := 100) dX5_firstBelow_78 (by decide) ?_
          refine G_icmp_le (K := mX5_firstBelow) (tgt := 92) dX5_firstBelow_80 (by decide) (fun c80 => ?_) (fun c80 => ?_)
          · skip
            exact absurd c80 (by decide)
          · skip
            refine G_aload_n (K := mX5_firstBelow) (i := 0) dX5_firstBelow_83 rfl rfl ?_
            refine G_ldc (K := mX5_firstBelow) dX5_firstBelow_84 kX5_186 ?_
            refine G_call0 (K := mX5_firstBelow) (Q' := PostR (tl σ 3)) (rf_finding hRb (k := 3) (by omega) (fun _ _ h => h)) vX5_finding rfl lX5_109 ⟨_, _, _, rfl, rfl, rfl⟩ (by decide) (Nat.le_of_ble_eq_true rfl) dX5_firstBelow_86 rfl ?_
            rintro v M1 ⟨rfl, hR1⟩
            refine G_goto (K := mX5_firstBelow) (tgt := 94) dX5_firstBelow_89 (by decide) ?_
            exact G_iret (st := []) (K := mX5_firstBelow) dX5_firstBelow_94 rfl (hQ _ _ (by rw [show opFirst σ (nI q) (1 + f) bound = orNone σ (findF (fun k => decide (hoursH (nOf σ) k σ (1 + f) (cut (nI q)) < bound)) 0 101) nI from (if_pos hB).trans (if_neg (by rw [bI_0 c19]; decide)), cut_nI (by have := hI.n8; omega), findF_n0 hno]; exact ⟨rfl, hR1⟩))
        · skip
          rw [show (100 : Int32) = nI 100 from rfl, lt_nn (by omega) (by omega)] at c47
          refine G_aload_n (K := mX5_firstBelow) (i := 0) dX5_firstBelow_50 rfl rfl ?_
          refine G_iload_n (K := mX5_firstBelow) (i := 1) dX5_firstBelow_51 rfl rfl ?_
          refine G_iload_n (K := mX5_firstBelow) (i := 2) dX5_firstBelow_52 rfl rfl ?_
          refine G_cv (K := mX5_firstBelow) (c_X5_roomIs (M := M3) (i := q) (f := f) (by have := hI.n8; omega) hf ⟨rfl, rfl⟩) vX5_roomIs rfl lX5_120 dX5_firstBelow_53 ⟨_, _, _, rfl, rfl, rfl⟩ (by decide) rfl (Nat.le_of_ble_eq_true rfl) ?_
          rw [show toH (M3 1) (1 + f) q = hoursH (nOf σ) i σ (1 + f) q from by rw [h31]; exact (hoursH_congr hR.1 i).f (1 + f) (by omega) (by omega) hq]
          refine G_iload_n (K := mX5_firstBelow) (i := 3) dX5_firstBelow_56 rfl rfl ?_
          refine G_icmp_lt (K := mX5_firstBelow) (tgt := 72) dX5_firstBelow_57 (by decide) (fun c57 => ?_) (fun c57 => ?_)
          · skip
            have hRb : RR (cpyM M3 3 1 86) σ := hR.back h33 (fun c a b d _ _ => h3c c a b d)
            refine G_aload_n (K := mX5_firstBelow) (i := 0) dX5_firstBelow_72 rfl rfl ?_
            refine G_iload (K := mX5_firstBelow) dX5_firstBelow_73 rfl ?_
            refine G_cv (K := mX5_firstBelow) (c_X5_putBack (M := M3) (v := _) ⟨rfl, rfl⟩) vX5_putBack rfl lX5_179 dX5_firstBelow_75 ⟨_, _, _, rfl, rfl, rfl⟩ (by decide) rfl (Nat.le_of_ble_eq_true rfl) ?_
            refine G_bipush (K := mX5_firstBelow) (v := 100) dX5_firstBelow_78 (by decide) ?_
            refine G_icmp_le (K := mX5_firstBelow) (tgt := 92) dX5_firstBelow_80 (by decide) (fun c80 => ?_) (fun c80 => ?_)
            · skip
              refine G_iload (K := mX5_firstBelow) dX5_firstBelow_92 rfl ?_
              exact G_iret (st := []) (K := mX5_firstBelow) dX5_firstBelow_94 rfl (hQ _ _ (by rw [show opFirst σ (nI q) (1 + f) bound = orNone σ (findF (fun k => decide (hoursH (nOf σ) k σ (1 + f) (cut (nI q)) < bound)) 0 101) nI from (if_pos hB).trans (if_neg (by rw [bI_0 c19]; decide)), cut_nI (by have := hI.n8; omega), findF_0 (j := i) (by omega) hno (decide_eq_true c57)]; exact ⟨rfl, hRb⟩))
            · skip
              exact absurd ((le_nn (i := 100) (n := i) (by omega) (by omega)).mpr (by omega)) c80
          · skip
            refine G_aload_n (K := mX5_firstBelow) (i := 0) dX5_firstBelow_60 rfl rfl ?_
            refine G_iconst (K := mX5_firstBelow) (v := 1) dX5_firstBelow_61 (by decide) ?_
            refine G_call0 (K := mX5_firstBelow) (as := [.int (nI 1)]) (r := 0) (Q' := fun v Mz => v = some (.int (hoursSum (nOf σ) 1 (toH (M3 1)))) ∧ toH (Mz 1) = hoursH (nOf σ) 1 (toH (M3 1)) ∧ ∀ c, c ≠ 1 → c ≠ 7 → Mz c = M3 c) (c_X5_hoursGo (n := nOf σ) (k := 1) (by rw [← toH_n (M3 1), h31, hoursH_0]; exact hR.n hI) hI.n8 (by omega) (fun x hx => by rw [h31, (hoursH_congr hR.1 i).f 4 (by omega) (by omega) hx]; exact wall_hours hI i hx) (fun Mz h1 h2 => ⟨rfl, h1, h2⟩)) vX5_hoursGo rfl lX5_164 ⟨_, _, _, rfl, rfl, rfl⟩ (by decide) (Nat.le_of_ble_eq_true rfl) dX5_firstBelow_62 rfl ?_
            rintro v M4 ⟨rfl, h41, h42⟩
            rw [h31] at h41
            refine G_pop (K := mX5_firstBelow) dX5_firstBelow_65 rfl ?_
            refine G_iincN (K := mX5_firstBelow) dX5_firstBelow_66 (by decide) rfl ?_
            refine G_goto (K := mX5_firstBelow) (tgt := 43) dX5_firstBelow_69 (by decide) ?_
            exact ih (i + 1) (by omega) (by omega) M4 h41 (by rw [h42 3 (by decide) (by decide)]; exact h33) (fun z a b d => by rw [h42 z a d]; exact h3c z a b d) (fun j hj => by
                by_cases h : j = i
                · subst h; exact decide_eq_false c57
                · exact hno j (by omega))
      exact loop43 0 (by omega) _ (by rw [cpyM_c (by decide)]; rfl) toH_cpy (fun z h1 h3 _ => cpyM_c h3) (fun j hj => absurd hj (by omega))
    · skip
      refine G_aload_n (K := mX5_firstBelow) (i := 0) dX5_firstBelow_22 rfl rfl ?_
      refine G_ldc (K := mX5_firstBelow) dX5_firstBelow_23 kX5_163 ?_
      refine G_call0 (K := mX5_firstBelow) (Q' := PostR (tl σ 4)) (rf_finding hR (k := 4) (by omega) (fun _ _ h => h)) vX5_finding rfl lX5_109 ⟨_, _, _, rfl, rfl, rfl⟩ (by decide) (Nat.le_of_ble_eq_true rfl) dX5_firstBelow_25 rfl ?_
      rintro v M1 ⟨rfl, hR1⟩
      exact G_iret (st := []) (K := mX5_firstBelow) dX5_firstBelow_28 rfl (hQ _ _ (by rw [show opFirst σ (nI q) (1 + f) bound = _ from (by unfold opFirst; exact (if_pos hB).trans (if_pos (bI_1 c19)))]; exact ⟨rfl, hR1⟩))
  · skip
    refine G_aload_n (K := mX5_firstBelow) (i := 0) dX5_firstBelow_8 rfl rfl ?_
    refine G_ldc (K := mX5_firstBelow) dX5_firstBelow_9 kX5_92 ?_
    refine G_call0 (K := mX5_firstBelow) (Q' := PostR (tl σ 0)) (rf_finding hR (k := 0) (by omega) (fun _ _ h => h)) vX5_finding rfl lX5_109 ⟨_, _, _, rfl, rfl, rfl⟩ (by decide) (Nat.le_of_ble_eq_true rfl) dX5_firstBelow_11 rfl ?_
    rintro v M1 ⟨rfl, hR1⟩
    exact G_iret (st := []) (K := mX5_firstBelow) dX5_firstBelow_14 rfl (hQ _ _ (by rw [show opFirst σ r (1 + f) bound = _ from (by unfold opFirst; exact if_neg (by rw [bI_0 c5]; decide))]; exact ⟨rfl, hR1⟩))

set_option maxRecDepth 20000 in
theorem rf_cold {M σ : Mem} {r : Int32} (hR : RR M σ) (hI : Inv σ) {Q : Option Value → Mem → Prop} (hQ : ∀ u' M', PostR (opFirst σ r 2 60) u' M' → Q u' M') : CT mX5_cold shR 8 [.ref 0, .int r] M Q := by
  refine CT.mk [some (.ref 0), some (.int r)] (by decide) (Nat.le_of_ble_eq_true rfl) rfl rfl ?_
  refine G_aload_n (K := mX5_cold) (i := 0) dX5_cold_0 rfl rfl ?_
  refine G_iload_n (K := mX5_cold) (i := 1) dX5_cold_1 rfl rfl ?_
  refine G_iconst (K := mX5_cold) (v := 1) dX5_cold_2 (by decide) ?_
  refine G_bipush (K := mX5_cold) (v := 60) dX5_cold_3 (by decide) ?_
  refine G_call0 (K := mX5_cold) (as := [.int r, .int (nI 1), .int 60]) (r := 0) (Q' := PostR (opFirst σ r 2 60)) (rf_firstBelow (f := 1) (by omega) hR hI (fun _ _ h => h)) vX5_firstBelow rfl lX5_187 ⟨_, _, _, rfl, rfl, rfl⟩ (by decide) (Nat.le_of_ble_eq_true rfl) dX5_cold_5 rfl ?_
  rintro v M1 ⟨rfl, hR1⟩
  exact G_iret (st := []) (K := mX5_cold) dX5_cold_8 rfl (hQ _ _ ⟨rfl, hR1⟩)

set_option maxRecDepth 20000 in
theorem rf_spent {M σ : Mem} {r : Int32} (hR : RR M σ) (hI : Inv σ) {Q : Option Value → Mem → Prop} (hQ : ∀ u' M', PostR (opFirst σ r 3 1) u' M' → Q u' M') : CT mX5_spent shR 8 [.ref 0, .int r] M Q := by
  refine CT.mk [some (.ref 0), some (.int r)] (by decide) (Nat.le_of_ble_eq_true rfl) rfl rfl ?_
  refine G_aload_n (K := mX5_spent) (i := 0) dX5_spent_0 rfl rfl ?_
  refine G_iload_n (K := mX5_spent) (i := 1) dX5_spent_1 rfl rfl ?_
  refine G_iconst (K := mX5_spent) (v := 2) dX5_spent_2 (by decide) ?_
  refine G_iconst (K := mX5_spent) (v := 1) dX5_spent_3 (by decide) ?_
  refine G_call0 (K := mX5_spent) (as := [.int r, .int (nI 2), .int 1]) (r := 0) (Q' := PostR (opFirst σ r 3 1)) (rf_firstBelow (f := 2) (by omega) hR hI (fun _ _ h => h)) vX5_firstBelow rfl lX5_187 ⟨_, _, _, rfl, rfl, rfl⟩ (by decide) (Nat.le_of_ble_eq_true rfl) dX5_spent_4 rfl ?_
  rintro v M1 ⟨rfl, hR1⟩
  exact G_iret (st := []) (K := mX5_spent) dX5_spent_7 rfl (hQ _ _ ⟨rfl, hR1⟩)
