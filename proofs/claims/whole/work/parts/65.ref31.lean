theorem nI_mulI {a b : Nat} (h : a * b < 2147483648) : nI a * nI b = nI (a * b) := by
  by_cases ha : a < 2147483648
  · by_cases hb : b < 2147483648
    · apply i32_ext
      have e : ((a * b : Nat) : Int) = (a : Int) * (b : Int) := Int.natCast_mul a b
      rw [mul_I (by rw [nI_toI ha, nI_toI hb]; omega) (by rw [nI_toI ha, nI_toI hb]; omega), nI_toI ha, nI_toI hb, nI_toI h]
      exact e.symm
    · have ha0 : a = 0 := by
        rcases Nat.eq_zero_or_pos a with h0 | h0
        · exact h0
        · have := Nat.le_mul_of_pos_left b h0
          omega
      subst ha0
      rw [Nat.zero_mul, show nI 0 = 0 from rfl]
      exact Int32.zero_mul
  · have hb0 : b = 0 := by
      rcases Nat.eq_zero_or_pos b with h0 | h0
      · exact h0
      · have := Nat.le_mul_of_pos_right a h0
        omega
    subst hb0
    rw [Nat.mul_zero, show nI 0 = 0 from rfl]
    exact Int32.mul_zero
set_option maxRecDepth 20000 in
theorem cl_orders {M σ : Mem} {k a : Int32} (hR : RC M σ) (hI : Inv σ) {Q : Option Value → Mem → Prop} (hQ : ∀ u' M', PostC (opOrders σ k a) u' M' → Q u' M') : CT mX4_orders shC 12 [.ref 0, .int k, .int a] M Q := by
  refine CT.mk [some (.ref 0), some (.int k), some (.int a), none, none, none, none] (by decide) (Nat.le_of_ble_eq_true rfl) rfl rfl ?_
  refine G_iload_n (K := mX4_orders) (i := 1) dX4_orders_0 rfl rfl ?_
  refine G_iconst (K := mX4_orders) (v := 2) dX4_orders_1 (by decide) ?_
  refine G_icmp_lt (K := mX4_orders) (tgt := 21) dX4_orders_2 (by decide) (fun c2 => ?_) (fun c2 => ?_)
  · skip
    refine G_aload_n (K := mX4_orders) (i := 0) dX4_orders_21 rfl rfl ?_
    refine G_ldc (K := mX4_orders) dX4_orders_22 kX4_52 ?_
    refine G_call0 (K := mX4_orders) (Q' := PostC (tl σ 0)) (cl_tell hR (k := 0) (by omega) (fun _ _ h => h)) vX4_tell rfl lX4_53 ⟨_, _, _, rfl, rfl, rfl⟩ (by decide) (Nat.le_of_ble_eq_true rfl) dX4_orders_24 rfl ?_
    rintro v M1 ⟨rfl, hR1⟩
    exact G_iret (st := []) (K := mX4_orders) dX4_orders_27 rfl (hQ _ _ (by rw [show opOrders σ k a = _ from (by unfold opOrders; exact if_pos c2)]; exact ⟨rfl, hR1⟩))
  · skip
    refine G_iload_n (K := mX4_orders) (i := 1) dX4_orders_5 rfl rfl ?_
    refine G_iconst (K := mX4_orders) (v := 5) dX4_orders_6 (by decide) ?_
    refine G_icmp_gt (K := mX4_orders) (tgt := 21) dX4_orders_7 (by decide) (fun c7 => ?_) (fun c7 => ?_)
    · skip
      refine G_aload_n (K := mX4_orders) (i := 0) dX4_orders_21 rfl rfl ?_
      refine G_ldc (K := mX4_orders) dX4_orders_22 kX4_52 ?_
      refine G_call0 (K := mX4_orders) (Q' := PostC (tl σ 0)) (cl_tell hR (k := 0) (by omega) (fun _ _ h => h)) vX4_tell rfl lX4_53 ⟨_, _, _, rfl, rfl, rfl⟩ (by decide) (Nat.le_of_ble_eq_true rfl) dX4_orders_24 rfl ?_
      rintro v M1 ⟨rfl, hR1⟩
      exact G_iret (st := []) (K := mX4_orders) dX4_orders_27 rfl (hQ _ _ (by rw [show opOrders σ k a = _ from (by unfold opOrders; exact (if_neg c2).trans (if_pos c7))]; exact ⟨rfl, hR1⟩))
    · skip
      refine G_iload_n (K := mX4_orders) (i := 1) dX4_orders_10 rfl rfl ?_
      refine G_aload_n (K := mX4_orders) (i := 0) dX4_orders_11 rfl rfl ?_
      refine G_getr (K := mX4_orders) fX4_12 dX4_orders_12 rfl rfl ?_
      refine G_geti (K := mX4_orders) fX4_57 dX4_orders_15 rfl rfl ?_
      rw [hR.n]
      refine G_icmp_le (K := mX4_orders) (tgt := 28) dX4_orders_18 (by decide) (fun c18 => ?_) (fun c18 => ?_)
      · skip
        refine G_aload_n (K := mX4_orders) (i := 0) dX4_orders_28 rfl rfl ?_
        refine G_iload_n (K := mX4_orders) (i := 2) dX4_orders_29 rfl rfl ?_
        refine G_bipush (K := mX4_orders) (v := 24) dX4_orders_30 (by decide) ?_
        refine G_cv (K := mX4_orders) (cl_fHours (a := a) (most := 24) hR ⟨rfl, rfl⟩) vX4_findingOfHours rfl lX4_92 dX4_orders_32 ⟨_, _, _, rfl, rfl, rfl⟩ (by decide) rfl (Nat.le_of_ble_eq_true rfl) ?_
        refine G_istore_n (K := mX4_orders) (i := 3) dX4_orders_35 rfl (by decide) ?_
        refine G_iload_n (K := mX4_orders) (i := 3) dX4_orders_36 rfl rfl ?_
        refine G_if_eq (K := mX4_orders) (tgt := 46) dX4_orders_37 (by decide) (fun c37 => ?_) (fun c37 => ?_)
        · skip
          obtain ⟨w, hw1, hw2, rfl⟩ := refH_nat c37
          have hw24 : w ≤ 24 := refH_24 hw2 c37
          have hn8 := hI.n8
          rw [hI.nI] at c18
          obtain ⟨kk, hkk2, rfl⟩ := nat_of (a := k) (fun z => c2 (by rw [i32_lt] at z ⊢; have z2 : k.toInt < 0 := z; show k.toInt < 2; omega))
          have h2 : 2 ≤ kk := by
            rw [show (2 : Int32) = nI 2 from rfl, lt_nn (by omega) (by omega)] at c2
            omega
          have h5 : kk ≤ 5 := by
            rw [show (5 : Int32) = nI 5 from rfl, lt_nn (by omega) (by omega)] at c7
            omega
          have hkn : kk ≤ nOf σ := (le_nn (by omega) (by omega)).mp c18
          have hfac := fac_le h2 h5
          have hk2' : ¬ nI kk < 2 := fun z => by rw [show (2 : Int32) = nI 2 from rfl, lt_nn (by omega) (by omega)] at z; omega
          have hk5' : ¬ 5 < nI kk := fun z => by rw [show (5 : Int32) = nI 5 from rfl, lt_nn (by omega) (by omega)] at z; omega
          have hkn' : ¬ σ 0 0 < nI kk := by rw [hI.nI]; exact Int32.not_lt.mpr c18
          refine G_iconst (K := mX4_orders) (v := 1) dX4_orders_46 (by decide) ?_
          refine G_istore (K := mX4_orders) dX4_orders_47 (by decide) ?_
          refine G_iconst (K := mX4_orders) (v := 2) dX4_orders_49 (by decide) ?_
          refine G_istore (K := mX4_orders) dX4_orders_50 (by decide) ?_
          have loop52 : ∀ i, i ≤ kk + 1 → 2 ≤ i → G mX4_orders shC 12 Q 52 [some (.ref 0), some (.int (nI kk)), some (.int (nI w)), some (.int (refH σ (nI w) 24)), some (.int (nI (facN (i - 1)))), some (.int (nI i)), none] [] M := by
            refine upto (kk + 1) (fun i hi ih => ?_)
            intro hi2
            refine G_iload (K := mX4_orders) dX4_orders_52 rfl ?_
            refine G_iload_n (K := mX4_orders) (i := 1) dX4_orders_54 rfl rfl ?_
            refine G_icmp_gt (K := mX4_orders) (tgt := 71) dX4_orders_55 (by decide) (fun c55 => ?_) (fun c55 => ?_)
            · skip
              rw [lt_nn (by omega) (by omega)] at c55
              have hik : i - 1 = kk := by omega
              rw [hik]
              refine G_iconst (K := mX4_orders) (v := 0) dX4_orders_71 (by decide) ?_
              refine G_istore (K := mX4_orders) dX4_orders_72 (by decide) ?_
              refine G_iconst (K := mX4_orders) (v := 0) dX4_orders_74 (by decide) ?_
              refine G_istore (K := mX4_orders) dX4_orders_75 (by decide) ?_
              have loop77 : ∀ o, o ≤ facN kk → ∀ M1, RC M1 σ → G mX4_orders shC 12 Q 77 [some (.ref 0), some (.int (nI kk)), some (.int (nI w)), some (.int (refH σ (nI w) 24)), some (.int (nI (facN kk))), some (.int (cntN (fun o => ordP σ w kk (pcL kk o)) o)), some (.int (nI o))] [] M1 := by
                refine upto (facN kk) (fun o hoL oh => ?_)
                intro M1 hR1
                refine G_iload (K := mX4_orders) dX4_orders_77 rfl ?_
                refine G_iload (K := mX4_orders) dX4_orders_79 rfl ?_
                refine G_icmp_ge (K := mX4_orders) (tgt := 123) dX4_orders_81 (by decide) (fun c81 => ?_) (fun c81 => ?_)
                · skip
                  rw [le_nn (by omega) (by omega)] at c81
                  have hoF : o = facN kk := by omega
                  refine G_iload (K := mX4_orders) dX4_orders_123 rfl ?_
                  exact G_iret (st := []) (K := mX4_orders) dX4_orders_125 rfl (hQ _ _ (by rw [show opOrders σ (nI kk) (nI w) = (cntN (fun o => ordP σ (cut (nI w)) (cut (nI kk)) (pcL (cut (nI kk)) o)) (facN (cut (nI kk))), σ) from (if_neg hk2').trans ((if_neg hk5').trans ((if_neg hkn').trans (if_pos c37))), cut_nI hw2, cut_nI (k := kk) (by omega), ← hoF]; exact ⟨rfl, hR1⟩))
                · skip
                  rw [le_nn (by omega) (by omega)] at c81
                  have hoF : o < facN kk := by omega
                  refine G_aload_n (K := mX4_orders) (i := 0) dX4_orders_84 rfl rfl ?_
                  refine G_st12 (K := mX4_orders) hR1 hI lX4_120 dX4_orders_85 (by decide) (Nat.le_of_ble_eq_true rfl) (fun h1 hh1 hR12 => ?_)
                  refine G_aload_n (K := mX4_orders) (i := 0) dX4_orders_88 rfl rfl ?_
                  refine G_iload_n (K := mX4_orders) (i := 1) dX4_orders_89 rfl rfl ?_
                  refine G_iload (K := mX4_orders) dX4_orders_90 rfl ?_
                  refine G_call0 (K := mX4_orders) (as := [.int (nI kk), .int (nI o)]) (r := 0) (Q' := fun v M4 => v = none ∧ (∀ c, c ≠ 13 → M4 c = hput M1 12 h1 c) ∧ (∀ i, i < kk → M4 13 i = hput M1 12 h1 2 (pcF kk o i)) ∧ (∀ i, kk ≤ i → M4 13 i = hput M1 12 h1 13 i)) (cl_dealKinds (M := hput M1 12 h1) (k := kk) (o := o) h2 h5 hoF (fun M4 q1 q2 q3 => ⟨rfl, q1, q2, q3⟩)) vX4_dealKinds rfl lX4_186 ⟨_, _, _, rfl, rfl, rfl⟩ (by decide) (Nat.le_of_ble_eq_true rfl) dX4_orders_92 rfl ?_
                  rintro v M4 ⟨rfl, q1, q2, q3⟩
                  have e4 : M4 = hput M1 12 (hof M4 12) := by
                    funext c
                    by_cases hc : 12 ≤ c ∧ c < 23
                    · exact ((if_pos hc).trans (congrArg M4 (by omega))).symm
                    · exact (q1 c (by omega)).trans ((if_neg hc).trans (if_neg hc).symm)
                  have hT4 : HR (hof M4 12) (dL σ kk (pcL kk o)) (nOf σ) := by
                    have e2 : ∀ i, i < nOf σ → hput M1 12 h1 2 i = σ 1 i := fun i hi => (congrFun (hput_out (M := M1) (b := 12) (h := h1) (c := 2) (by omega)) i).trans (hR1.1.f 1 (by omega) (by omega) hi)
                    refine ⟨fun i hi => ?_, fun j hj => ?_, fun c g1 g2 i hi => ?_⟩
                    · show M4 12 i = dL σ kk (pcL kk o) 0 i
                      rw [q1 12 (by decide)]
                      exact (congrFun (hof_hput M1 h1 12 0 (by omega)) i).trans ((hh1.1 i hi).trans (congrFun (dF_c (h := σ) (k := kk) (f := fun i => (pcL kk o).getD i 0) (c := 0) (by decide)) i).symm)
                    · show M4 22 j = dL σ kk (pcL kk o) 10 j
                      rw [q1 22 (by decide)]
                      exact (congrFun (hof_hput M1 h1 12 10 (by omega)) j).trans ((hh1.2.1 j hj).trans (congrFun (dF_c (h := σ) (k := kk) (f := fun i => (pcL kk o).getD i 0) (c := 10) (by decide)) j).symm)
                    · by_cases hc : c = 1
                      · subst hc
                        show M4 13 i = dL σ kk (pcL kk o) 1 i
                        by_cases hik : i < kk
                        · rw [q2 i hik, e2 _ (by have := (pcF_ok h2 h5 hoF hik).1; omega)]
                          exact ((if_pos ⟨rfl, hik⟩).trans (congrArg (σ 1) (pcL_at hik))).symm
                        · rw [q3 i (by omega)]
                          exact (congrFun (hof_hput M1 h1 12 1 (by omega)) i).trans ((hh1.f 1 (by omega) (by omega) hi).trans (if_neg (by omega)).symm)
                      · show M4 (12 + c) i = _
                        rw [q1 _ (by omega)]
                        exact (congrFun (hof_hput M1 h1 12 c (by omega)) i).trans ((hh1.f c g1 g2 hi).trans (if_neg (by omega)).symm)
                  have hR4 : RC M4 σ := by rw [e4]; exact hR1.scr (Or.inl rfl)
                  refine G_aload_n (K := mX4_orders) (i := 0) dX4_orders_95 rfl rfl ?_
                  refine G_getr (K := mX4_orders) fX4_16 dX4_orders_96 rfl rfl ?_
                  refine G_iload_n (K := mX4_orders) (i := 2) dX4_orders_99 rfl rfl ?_
                  refine G_hrs (K := mX4_orders) (b := 12) (n := nOf σ) (k := w) (h := dL σ kk (pcL kk o)) (by unfold isH; omega) hT4 hI.nI hI.n8 (by omega) (fun i hi => by unfold dL; rw [dF_c (by decide)]; exact hI.wall i hi) lX4_96 dX4_orders_100 (by decide) (Nat.le_of_ble_eq_true rfl) (fun h6 hh6 => ?_)
                  refine G_pop (K := mX4_orders) dX4_orders_103 rfl ?_
                  refine G_aload_n (K := mX4_orders) (i := 0) dX4_orders_104 rfl rfl ?_
                  refine G_getr (K := mX4_orders) fX4_16 dX4_orders_105 rfl rfl ?_
                  refine G_hp (K := mX4_orders) (b := 12) (by unfold isH; omega) (c_X0_coldRooms (M := hof (hput M4 12 h6) 12) (n := nOf σ) ((congrFun (hof_hput M4 h6 12 0 (by omega)) 0).trans ((hh6.1 0 (by omega)).trans ((hoursH_0 _ _ _).trans hI.nI))) hI.n8 ⟨rfl, rfl⟩) vX0_coldRooms rfl lX4_102 dX4_orders_108 rfl (by decide) rfl (Nat.le_of_ble_eq_true rfl) ?_
                  rw [show bits (fun i => decide (hof (hput M4 12 h6) 12 2 i < 60)) (nOf σ) = coldB (hoursH (nOf σ) w (dL σ kk (pcL kk o))) (nOf σ) from bits_congr _ (fun i hi => by rw [hof_hput M4 h6 12 2 (by omega), hh6.f 2 (by omega) (by omega) hi])]
                  refine G_if_ne (K := mX4_orders) (tgt := 117) dX4_orders_111 (by decide) (fun c111 => ?_) (fun c111 => ?_)
                  · skip
                    have hP : ordP σ w kk (pcL kk o) = false := decide_eq_false c111
                    refine G_iincN (K := mX4_orders) dX4_orders_117 (by decide) rfl ?_
                    refine G_goto (K := mX4_orders) (tgt := 77) dX4_orders_120 (by decide) ?_
                    have hR6 : RC (hput M4 12 h6) σ := hR4.scr (Or.inl rfl)
                    have ec : cntN (fun o => ordP σ w kk (pcL kk o)) (o + 1) = cntN (fun o => ordP σ w kk (pcL kk o)) o := cntN_f (by rw [hP]; decide)
                    rw [← ec]
                    exact oh (o + 1) (by omega) (by omega) _ hR6
                  · skip
                    have hP : ordP σ w kk (pcL kk o) = true := decide_eq_true c111
                    refine G_iinc (K := mX4_orders) (v := (cntN (fun o => ordP σ w kk (pcL kk o)) o + 1)) dX4_orders_114 (by decide) rfl rfl ?_
                    refine G_iincN (K := mX4_orders) dX4_orders_117 (by decide) rfl ?_
                    refine G_goto (K := mX4_orders) (tgt := 77) dX4_orders_120 (by decide) ?_
                    have hR6 : RC (hput M4 12 h6) σ := hR4.scr (Or.inl rfl)
                    have ec : cntN (fun o => ordP σ w kk (pcL kk o)) (o + 1) = cntN (fun o => ordP σ w kk (pcL kk o)) o + 1 := cntN_t hP
                    rw [← ec]
                    exact oh (o + 1) (by omega) (by omega) _ hR6
              exact loop77 0 (by omega) M hR
            · skip
              rw [lt_nn (by omega) (by omega)] at c55
              refine G_iload (K := mX4_orders) dX4_orders_58 rfl ?_
              refine G_iload (K := mX4_orders) dX4_orders_60 rfl ?_
              refine G_imul (K := mX4_orders) dX4_orders_62 ?_
              refine G_istore (K := mX4_orders) dX4_orders_63 (by decide) ?_
              refine G_iincN (K := mX4_orders) dX4_orders_65 (by decide) rfl ?_
              refine G_goto (K := mX4_orders) (tgt := 52) dX4_orders_68 (by decide) ?_
              have ef : nI (facN (i - 1)) * nI i = nI (facN i) := by
                obtain ⟨y, rfl⟩ : ∃ y, i = y + 1 := ⟨i - 1, by omega⟩
                have hfy : facN y ≤ 24 := by
                  have h4 : y = 1 ∨ y = 2 ∨ y = 3 ∨ y = 4 := by omega
                  rcases h4 with rfl | rfl | rfl | rfl <;> decide
                rw [show y + 1 - 1 = y by omega, nI_mulI (by have h6 : y + 1 ≤ 5 := by omega
                                                             have := Nat.mul_le_mul hfy h6
                                                             omega), show facN (y + 1) = (y + 1) * facN y from rfl, Nat.mul_comm]
              rw [ef]
              exact ih (i + 1) (by omega) (by omega) (by omega)
          exact loop52 2 (by omega) (by omega)
        · skip
          refine G_aload_n (K := mX4_orders) (i := 0) dX4_orders_40 rfl rfl ?_
          refine G_iload_n (K := mX4_orders) (i := 3) dX4_orders_41 rfl rfl ?_
          obtain ⟨q, hq, eq⟩ := refH_fin c37
          rw [eq]
          refine G_call0 (K := mX4_orders) (Q' := PostC (tl σ q)) (cl_tell hR (k := q) (by omega) (fun _ _ h => h)) vX4_tell rfl lX4_53 ⟨_, _, _, rfl, rfl, rfl⟩ (by decide) (Nat.le_of_ble_eq_true rfl) dX4_orders_42 rfl ?_
          rintro v M1 ⟨rfl, hR1⟩
          exact G_iret (st := []) (K := mX4_orders) dX4_orders_45 rfl (hQ _ _ (by rw [show opOrders σ k a = _ from (by unfold opOrders; exact (if_neg c2).trans ((if_neg c7).trans ((if_neg (Int32.not_lt.mpr c18)).trans ((if_neg c37).trans ((congrArg (tlI σ) eq).trans (tlI_fin hq))))))]; exact ⟨rfl, hR1⟩))
      · skip
        refine G_aload_n (K := mX4_orders) (i := 0) dX4_orders_21 rfl rfl ?_
        refine G_ldc (K := mX4_orders) dX4_orders_22 kX4_52 ?_
        refine G_call0 (K := mX4_orders) (Q' := PostC (tl σ 0)) (cl_tell hR (k := 0) (by omega) (fun _ _ h => h)) vX4_tell rfl lX4_53 ⟨_, _, _, rfl, rfl, rfl⟩ (by decide) (Nat.le_of_ble_eq_true rfl) dX4_orders_24 rfl ?_
        rintro v M1 ⟨rfl, hR1⟩
        exact G_iret (st := []) (K := mX4_orders) dX4_orders_27 rfl (hQ _ _ (by rw [show opOrders σ k a = _ from (by unfold opOrders; exact (if_neg c2).trans ((if_neg c7).trans (if_pos (Int32.not_le.mp c18))))]; exact ⟨rfl, hR1⟩))
