theorem ordQ_congr {A σ : Mem} {n a k : Nat} {l : List Nat} (H : HR A σ n) (hn : nOf σ = n) (hkn : k ≤ n) (hl : ∀ i, i < k → l.getD i 0 < k) : ordQ A n a k l = ordP σ a k l := by
  unfold ordQ ordP
  rw [hn]
  have hd : HR (dL A k l) (dL σ k l) n := dF_HR H hkn (fun i hi => Nat.lt_of_lt_of_le (hl i hi) hkn)
  have e : coldB (hoursH n a (dL A k l)) n = coldB (hoursH n a (dL σ k l)) n := bits_congr _ (fun i hi => by rw [(hoursH_congr hd a).f 2 (by omega) (by omega) hi])
  rw [e]
theorem ord_sum {A σ : Mem} {a k : Nat} (H : HR A σ (nOf σ)) (h2 : 2 ≤ k) (h5 : k ≤ 5) (hkn : k ≤ nOf σ) : sumL (ordQ A (nOf σ) a k) (refL k k 0 []) = cntN (fun o => ordP σ a k (pcL k o)) (facN k) := by
  rw [cnt_sumL, sumL_congr (P2 := ordP σ a k) _ (fun l hl => ordQ_congr H rfl hkn (fun i hi => all_in ⟨k, by omega⟩ l hl ⟨i, by omega⟩ hi))]
  exact sumL_perm (all_perm ⟨k, by omega⟩ h2)
set_option maxRecDepth 20000 in
theorem rf_orders {M σ : Mem} {k a : Int32} (hR : RR M σ) (hI : Inv σ) {Q : Option Value → Mem → Prop} (hQ : ∀ u' M', PostR (opOrders σ k a) u' M' → Q u' M') : CT mX5_orders shR 12 [.ref 0, .int k, .int a] M Q := by
  refine CT.mk [some (.ref 0), some (.int k), some (.int a)] (by decide) (Nat.le_of_ble_eq_true rfl) rfl rfl ?_
  refine G_iload_n (K := mX5_orders) (i := 1) dX5_orders_0 rfl rfl ?_
  refine G_iconst (K := mX5_orders) (v := 2) dX5_orders_1 (by decide) ?_
  refine G_iconst (K := mX5_orders) (v := 5) dX5_orders_2 (by decide) ?_
  refine G_aload_n (K := mX5_orders) (i := 0) dX5_orders_3 rfl rfl ?_
  refine G_getr (K := mX5_orders) fX5_9 dX5_orders_4 rfl rfl ?_
  refine G_iconst (K := mX5_orders) (v := 2) dX5_orders_7 (by decide) ?_
  refine G_ld (K := mX5_orders) 2 dX5_orders_8 rfl rfl (by omega) (by decide) ?_
  rw [hR.n hI]
  refine G_min (K := mX5_orders) qX5_123 dX5_orders_9 (by decide) (Nat.le_of_ble_eq_true rfl) ?_
  rw [show (if nI (nOf σ) < 5 then nI (nOf σ) else (5 : Int32)) = minI 5 (nI (nOf σ)) from rfl]
  refine G_sv (K := mX5_orders) (c_X5_within (v := k) (a := 2) (b := minI 5 (nI (nOf σ))) ⟨rfl, rfl⟩) sX5_within rfl lX5_97 dX5_orders_12 (by decide) rfl (Nat.le_of_ble_eq_true rfl) ?_
  refine G_if_eq (K := mX5_orders) (tgt := 28) dX5_orders_15 (by decide) (fun c15 => ?_) (fun c15 => ?_)
  · skip
    have hbad : k < 2 ∨ (¬ k < 2 ∧ (5 < k ∨ σ 0 0 < k)) := by
      rcases within_3 c15 with h | ⟨h, h2⟩
      · exact Or.inl h
      · refine Or.inr ⟨h, ?_⟩
        unfold minI at h2
        by_cases h3 : nI (nOf σ) < 5
        · rw [if_pos h3] at h2; rw [hI.nI]; exact Or.inr h2
        · rw [if_neg h3] at h2; exact Or.inl h2
    refine G_aload_n (K := mX5_orders) (i := 0) dX5_orders_28 rfl rfl ?_
    refine G_ldc (K := mX5_orders) dX5_orders_29 kX5_92 ?_
    refine G_call0 (K := mX5_orders) (Q' := PostR (tl σ 0)) (rf_finding hR (k := 0) (by omega) (fun _ _ h => h)) vX5_finding rfl lX5_109 ⟨_, _, _, rfl, rfl, rfl⟩ (by decide) (Nat.le_of_ble_eq_true rfl) dX5_orders_31 rfl ?_
    rintro v M1 ⟨rfl, hR1⟩
    exact G_iret (st := []) (K := mX5_orders) dX5_orders_34 rfl (hQ _ _ (by rw [show opOrders σ k a = _ from (by unfold opOrders; exact hbad.elim (fun h => if_pos h) (fun h => (if_neg h.1).trans (by by_cases h5 : 5 < k; exact if_pos h5; exact (if_neg h5).trans (if_pos (h.2.resolve_left h5)))))]; exact ⟨rfl, hR1⟩))
  · skip
    obtain ⟨k1, k2⟩ := within_2 c15
    have hn8 := hI.n8
    obtain ⟨kk, hkk2, rfl⟩ := nat_of (a := k) (fun z => k1 (by rw [i32_lt] at z ⊢; have z2 : k.toInt < 0 := z; show k.toInt < 2; omega))
    have h2 : 2 ≤ kk := by
      rw [show (2 : Int32) = nI 2 from rfl, lt_nn (by omega) (by omega)] at k1
      omega
    have hm5 : minI 5 (nI (nOf σ)) = nI (min 5 (nOf σ)) := by
      unfold minI
      by_cases h : nI (nOf σ) < 5
      · rw [if_pos h]
        rw [show (5 : Int32) = nI 5 from rfl, lt_nn (by omega) (by omega)] at h
        rw [show min 5 (nOf σ) = nOf σ by omega]
      · rw [if_neg h]
        rw [show (5 : Int32) = nI 5 from rfl, lt_nn (by omega) (by omega)] at h
        rw [show min 5 (nOf σ) = 5 by omega]; rfl
    rw [hm5, lt_nn (by omega) (by omega)] at k2
    have h5 : kk ≤ 5 := by omega
    have hkn : kk ≤ nOf σ := by omega
    have hk2' : ¬ nI kk < 2 := k1
    have hk5' : ¬ 5 < nI kk := fun z => by rw [show (5 : Int32) = nI 5 from rfl, lt_nn (by omega) (by omega)] at z; omega
    have hkn' : ¬ σ 0 0 < nI kk := by rw [hI.nI, lt_nn (by omega) (by omega)]; omega
    refine G_iload_n (K := mX5_orders) (i := 2) dX5_orders_18 rfl rfl ?_
    refine G_iconst (K := mX5_orders) (v := 1) dX5_orders_19 (by decide) ?_
    refine G_bipush (K := mX5_orders) (v := 24) dX5_orders_20 (by decide) ?_
    refine G_sv (K := mX5_orders) (c_X5_within (v := a) (a := 1) (b := 24) ⟨rfl, rfl⟩) sX5_within rfl lX5_97 dX5_orders_22 (by decide) rfl (Nat.le_of_ble_eq_true rfl) ?_
    refine G_if_ne (K := mX5_orders) (tgt := 35) dX5_orders_25 (by decide) (fun c25 => ?_) (fun c25 => ?_)
    · skip
      refine G_aload_n (K := mX5_orders) (i := 0) dX5_orders_35 rfl rfl ?_
      refine G_iload_n (K := mX5_orders) (i := 2) dX5_orders_36 rfl rfl ?_
      refine G_cv (K := mX5_orders) (c_X5_isTooLate (a := a) ⟨rfl, rfl⟩) vX5_isTooLate rfl lX5_160 dX5_orders_37 ⟨_, _, _, rfl, rfl, rfl⟩ (by decide) rfl (Nat.le_of_ble_eq_true rfl) ?_
      rw [hR.hour]
      refine G_if_eq (K := mX5_orders) (tgt := 50) dX5_orders_40 (by decide) (fun c40 => ?_) (fun c40 => ?_)
      · skip
        have hz := refH_z c25 c40
        obtain ⟨w, hw1, hw2, rfl⟩ := refH_nat hz
        have hw24 : w ≤ 24 := refH_24 hw2 hz
        have hd0 : dOK (toH (M 1)) kk [] (ups (cpyM M 1 3 86) 0 13 0) := ⟨by rw [ups_cell (by decide)]; exact toH_cpy, fun c i _ => by rw [ups_cell (by decide), cpyM_c (by decide)], fun i hi => absurd hi (by show ¬ i < 0; omega)⟩
        refine G_aload_n (K := mX5_orders) (i := 0) dX5_orders_50 rfl rfl ?_
        refine G_getr (K := mX5_orders) fX5_9 dX5_orders_51 rfl rfl ?_
        refine G_aload_n (K := mX5_orders) (i := 0) dX5_orders_54 rfl rfl ?_
        refine G_getr (K := mX5_orders) fX5_16 dX5_orders_55 rfl rfl ?_
        refine G_sn (K := mX5_orders) (c_X5_copyRow (a := 1) (b := 3) rfl rfl (by decide) ⟨rfl, rfl⟩) sX5_copyRow rfl lX5_93 dX5_orders_58 (by decide) rfl (Nat.le_of_ble_eq_true rfl) ?_
        refine G_aload_n (K := mX5_orders) (i := 0) dX5_orders_61 rfl rfl ?_
        refine G_iconst (K := mX5_orders) (v := 0) dX5_orders_62 (by decide) ?_
        refine G_puti (K := mX5_orders) fX5_227 w5_13 dX5_orders_63 rfl rfl ?_
        refine G_aload_n (K := mX5_orders) (i := 0) dX5_orders_66 rfl rfl ?_
        refine G_iload_n (K := mX5_orders) (i := 1) dX5_orders_67 rfl rfl ?_
        refine G_iload_n (K := mX5_orders) (i := 2) dX5_orders_68 rfl rfl ?_
        refine G_iconst (K := mX5_orders) (v := 0) dX5_orders_69 (by decide) ?_
        refine G_iconst (K := mX5_orders) (v := 0) dX5_orders_70 (by decide) ?_
        refine G_call0 (K := mX5_orders) (as := [.int (nI kk), .int (nI w), .int (nI ([] : List Nat).length), .int (nI 0)]) (r := 0) (rf_dealOn (A := toH (M 1)) (n := nOf σ) (a := w) (k := kk) (hR.n hI) hn8 hkn h5 hw24 (hR.hj hI) (hR.ho hI) kk [] 0 (ups (cpyM M 1 3 86) 0 13 0) (by show 0 + kk = kk; omega) (by omega) hd0) vX5_dealOn rfl lX5_230 ⟨_, _, _, rfl, rfl, rfl⟩ (by omega) (Nat.le_of_ble_eq_true rfl) dX5_orders_71 rfl ?_
        rintro v M2 ⟨rfl, hd⟩
        show G mX5_orders shR 12 Q 74 _ [] M2
        refine G_aload_n (K := mX5_orders) (i := 0) dX5_orders_74 rfl rfl ?_
        refine G_aload_n (K := mX5_orders) (i := 0) dX5_orders_75 rfl rfl ?_
        refine G_geti (K := mX5_orders) fX5_227 dX5_orders_76 rfl rfl ?_
        refine G_cv (K := mX5_orders) (c_X5_putBack (M := M2) (v := _) ⟨rfl, rfl⟩) vX5_putBack rfl lX5_179 dX5_orders_79 ⟨_, _, _, rfl, rfl, rfl⟩ (by decide) rfl (Nat.le_of_ble_eq_true rfl) ?_
        have hdm : M2 0 13 = cntN (fun o => ordP σ w kk (pcL kk o)) (facN kk) := by
          rw [hd.2.1, ups_same, ord_sum hR.1 h2 h5 hkn]
          grind
        rw [hdm]
        exact G_iret (st := []) (K := mX5_orders) dX5_orders_82 rfl (hQ _ _ (by
          rw [show opOrders σ (nI kk) (nI w) = (cntN (fun o => ordP σ (cut (nI w)) (cut (nI kk)) (pcL (cut (nI kk)) o)) (facN (cut (nI kk))), σ) from (if_neg hk2').trans ((if_neg hk5').trans ((if_neg hkn').trans (if_pos hz))), cut_nI hw2, cut_nI (k := kk) (by omega)]
          refine ⟨rfl, hR.scr (toH_cpy.trans hd.1.1) (fun c hc => by rw [cpyM_c (by unfold solid at hc; omega), hd.2.2.2 c (by unfold solid at hc; omega) (by unfold solid at hc; omega) (by unfold solid at hc; omega) (by unfold solid at hc; omega), ups_cell (by unfold solid at hc; omega), cpyM_c (by unfold solid at hc; omega)]) ?_ ?_⟩
          · rw [cpyM_c (by decide), hd.2.2.1 3 (by decide), ups_ne (by omega), cpyM_c (by decide)]
          · rw [cpyM_c (by decide), hd.2.2.1 19 (by decide), ups_ne (by omega), cpyM_c (by decide)]))
      · skip
        refine G_aload_n (K := mX5_orders) (i := 0) dX5_orders_43 rfl rfl ?_
        refine G_ldc (K := mX5_orders) dX5_orders_44 kX5_163 ?_
        refine G_call0 (K := mX5_orders) (Q' := PostR (tl σ 4)) (rf_finding hR (k := 4) (by omega) (fun _ _ h => h)) vX5_finding rfl lX5_109 ⟨_, _, _, rfl, rfl, rfl⟩ (by decide) (Nat.le_of_ble_eq_true rfl) dX5_orders_46 rfl ?_
        rintro v M1 ⟨rfl, hR1⟩
        exact G_iret (st := []) (K := mX5_orders) dX5_orders_49 rfl (hQ _ _ (by rw [show opOrders σ (nI kk) a = _ from (by unfold opOrders; exact (if_neg hk2').trans ((if_neg hk5').trans ((if_neg hkn').trans ((if_neg (by rw [refH_s c25 c40]; decide)).trans ((congrArg (tlI σ) (refH_s c25 c40)).trans (tlI_fin (k := 4) (by decide)))))))]; exact ⟨rfl, hR1⟩))
    · skip
      refine G_aload_n (K := mX5_orders) (i := 0) dX5_orders_28 rfl rfl ?_
      refine G_ldc (K := mX5_orders) dX5_orders_29 kX5_92 ?_
      refine G_call0 (K := mX5_orders) (Q' := PostR (tl σ 0)) (rf_finding hR (k := 0) (by omega) (fun _ _ h => h)) vX5_finding rfl lX5_109 ⟨_, _, _, rfl, rfl, rfl⟩ (by decide) (Nat.le_of_ble_eq_true rfl) dX5_orders_31 rfl ?_
      rintro v M1 ⟨rfl, hR1⟩
      exact G_iret (st := []) (K := mX5_orders) dX5_orders_34 rfl (hQ _ _ (by rw [show opOrders σ (nI kk) a = _ from (by unfold opOrders; exact (if_neg hk2').trans ((if_neg hk5').trans ((if_neg hkn').trans ((if_neg (by rw [refH_b c25]; decide)).trans ((congrArg (tlI σ) (refH_b c25)).trans (tlI_fin (k := 0) (by decide)))))))]; exact ⟨rfl, hR1⟩))
