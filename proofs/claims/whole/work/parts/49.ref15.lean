theorem RR.scr4 {M M2 σ : Mem} (hR : RR M σ) (h1 : toH (M2 1) = toH (M 1)) (h2 : ∀ c, c ≠ 1 → c ≠ 3 → c ≠ 7 → c ≠ 9 → c ≠ 10 → M2 c = M c) : RR M2 σ :=
  hR.scr h1 (fun c hc => h2 c (by unfold solid at hc; omega) (by unfold solid at hc; omega) (by unfold solid at hc; omega) (by unfold solid at hc; omega) (by unfold solid at hc; omega)) (congrFun (h2 0 (by omega) (by omega) (by omega) (by omega) (by omega)) 3) (congrFun (h2 0 (by omega) (by omega) (by omega) (by omega) (by omega)) 19)
theorem HJ.chg {h : Mem} {n i j : Nat} (H : HJ h n) (hi : i < n) (hj : j < n) : HJ (chgH h i j) n := fun q hq => by
  have e : ∀ c, c ≠ 1 → c ≠ 6 → c ≠ 9 → chgH h i j c = h c := fun c a b d => chgH_cell a b d
  obtain ⟨h2, h3, h4, h7, h8, h9⟩ := H q hq
  rw [e 2 (by omega) (by omega) (by omega), e 3 (by omega) (by omega) (by omega), e 4 (by omega) (by omega) (by omega), e 7 (by omega) (by omega) (by omega), e 8 (by omega) (by omega) (by omega)]
  refine ⟨h2, h3, h4, h7, h8, ?_⟩
  have e9 : chgH h i j 9 q = if q = j then h 9 i else if q = i then h 9 j else h 9 q := by
    unfold chgH swM ups
    simp
  rw [e9]
  by_cases h1 : q = j
  · rw [if_pos h1]; exact (H i hi).2.2.2.2.2
  · rw [if_neg h1]
    by_cases h2 : q = i
    · rw [if_pos h2]; exact (H j hj).2.2.2.2.2
    · rw [if_neg h2]; exact h9
theorem refP_H {σ : Mem} {a : Int32} (h : refP σ a = 0) : refH σ a 24 = 0 := by
  unfold refP at h
  by_cases h1 : refH σ a 24 = 0
  · exact h1
  · rw [if_neg h1] at h; exact absurd h h1
set_option maxRecDepth 20000 in
theorem rf_coal {M σ : Mem} {r a : Int32} (hR : RR M σ) (hI : Inv σ) {Q : Option Value → Mem → Prop} (hQ : ∀ u' M', PostR (opCoal σ r a) u' M' → Q u' M') : CT mX5_coal shR 8 [.ref 0, .int r, .int a] M Q := by
  refine CT.mk [some (.ref 0), some (.int r), some (.int a), none] (by decide) (Nat.le_of_ble_eq_true rfl) rfl rfl ?_
  refine G_aload_n (K := mX5_coal) (i := 0) dX5_coal_0 rfl rfl ?_
  refine G_iload_n (K := mX5_coal) (i := 1) dX5_coal_1 rfl rfl ?_
  refine G_iload_n (K := mX5_coal) (i := 2) dX5_coal_2 rfl rfl ?_
  refine G_cv (K := mX5_coal) (rf_refuses (r := r) (a := a) hR hI ⟨rfl, rfl⟩) vX5_refuses rfl lX5_198 dX5_coal_3 ⟨_, _, _, rfl, rfl, rfl⟩ (by decide) rfl (Nat.le_of_ble_eq_true rfl) ?_
  refine G_istore_n (K := mX5_coal) (i := 3) dX5_coal_6 rfl (by decide) ?_
  refine G_iload_n (K := mX5_coal) (i := 3) dX5_coal_7 rfl rfl ?_
  refine G_if_ne (K := mX5_coal) (tgt := 27) dX5_coal_8 (by decide) (fun c8 => ?_) (fun c8 => ?_)
  · skip
    refine G_iload_n (K := mX5_coal) (i := 3) dX5_coal_27 rfl rfl ?_
    refine G_if_eq (K := mX5_coal) (tgt := 39) dX5_coal_28 (by decide) (fun c28 => ?_) (fun c28 => ?_)
    · skip
      exact absurd c28 c8
    · skip
      refine G_aload_n (K := mX5_coal) (i := 0) dX5_coal_31 rfl rfl ?_
      refine G_iload_n (K := mX5_coal) (i := 3) dX5_coal_32 rfl rfl ?_
      obtain ⟨q, hq, eq⟩ := refR_fin c8
      rw [eq]
      refine G_call0 (K := mX5_coal) (Q' := PostR (tl σ q)) (rf_finding hR (k := q) (by omega) (fun _ _ h => h)) vX5_finding rfl lX5_109 ⟨_, _, _, rfl, rfl, rfl⟩ (by decide) (Nat.le_of_ble_eq_true rfl) dX5_coal_33 rfl ?_
      rintro v M1 ⟨rfl, hR1⟩
      refine G_goto (K := mX5_coal) (tgt := 56) dX5_coal_36 (by decide) ?_
      exact G_iret (st := []) (K := mX5_coal) dX5_coal_56 rfl (hQ _ _ (by rw [show opCoal σ r a = _ from (by unfold opCoal; exact (if_neg c8).trans ((congrArg (tlI σ) eq).trans (tlI_fin hq)))]; exact ⟨rfl, hR1⟩))
  · skip
    obtain ⟨q, k, hq, rfl, hk1, hk2, rfl, hH⟩ := refR_0 hI c8
    have hn8 := hI.n8
    have hk60 : k ≤ 60 := refH_60 (m := 60) hk2 (by omega) hH
    refine G_aload_n (K := mX5_coal) (i := 0) dX5_coal_11 rfl rfl ?_
    refine G_aload_n (K := mX5_coal) (i := 0) dX5_coal_12 rfl rfl ?_
    refine G_iload_n (K := mX5_coal) (i := 1) dX5_coal_13 rfl rfl ?_
    refine G_iconst (K := mX5_coal) (v := 4) dX5_coal_14 (by decide) ?_
    refine G_cv (K := mX5_coal) (c_X5_roomIs (i := q) (f := 4) (by omega) (by omega) ⟨rfl, rfl⟩) vX5_roomIs rfl lX5_120 dX5_coal_15 ⟨_, _, _, rfl, rfl, rfl⟩ (by decide) rfl (Nat.le_of_ble_eq_true rfl) ?_
    rw [show toH (M 1) (1 + 4) q = σ 5 q from hR.1.f 5 (by omega) (by omega) hq]
    refine G_cv (K := mX5_coal) (c_X5_isRoom (r := σ 5 q) (n := nOf σ) (hR.n hI) hI.n8 ⟨rfl, rfl⟩) vX5_isRoom rfl lX5_128 dX5_coal_18 ⟨_, _, _, rfl, rfl, rfl⟩ (by decide) rfl (Nat.le_of_ble_eq_true rfl) ?_
    refine G_if_ne (K := mX5_coal) (tgt := 27) dX5_coal_21 (by decide) (fun c21 => ?_) (fun c21 => ?_)
    · skip
      have hB := bI_1 c21
      obtain ⟨o, ho, eo⟩ := roomB_t (by omega) hB
      refine G_iload_n (K := mX5_coal) (i := 3) dX5_coal_27 rfl rfl ?_
      refine G_if_eq (K := mX5_coal) (tgt := 39) dX5_coal_28 (by decide) (fun c28 => ?_) (fun c28 => ?_)
      · skip
        refine G_aload_n (K := mX5_coal) (i := 0) dX5_coal_39 rfl rfl ?_
        refine G_iload_n (K := mX5_coal) (i := 1) dX5_coal_40 rfl rfl ?_
        refine G_iconst (K := mX5_coal) (v := 2) dX5_coal_41 (by decide) ?_
        refine G_iconst (K := mX5_coal) (v := 0) dX5_coal_42 (by decide) ?_
        refine G_sipush (K := mX5_coal) (v := 999) dX5_coal_43 (by decide) ?_
        refine G_aload_n (K := mX5_coal) (i := 0) dX5_coal_46 rfl rfl ?_
        refine G_iload_n (K := mX5_coal) (i := 1) dX5_coal_47 rfl rfl ?_
        refine G_iconst (K := mX5_coal) (v := 4) dX5_coal_48 (by decide) ?_
        refine G_cv (K := mX5_coal) (c_X5_roomIs (i := q) (f := 4) (by omega) (by omega) ⟨rfl, rfl⟩) vX5_roomIs rfl lX5_120 dX5_coal_49 ⟨_, _, _, rfl, rfl, rfl⟩ (by decide) rfl (Nat.le_of_ble_eq_true rfl) ?_
        refine G_iload_n (K := mX5_coal) (i := 2) dX5_coal_52 rfl rfl ?_
        rw [show toH (M 1) (1 + 4) q = σ 5 q from hR.1.f 5 (by omega) (by omega) hq, eo]
        refine G_call0 (K := mX5_coal) (as := [.int (nI q), .int (nI 2), .int (nI 0), .int (nI (0 + 1000 - 1)), .int (nI o), .int (nI k)]) (r := 0) (Q' := PostR (orNone σ (findF (fun v => decide (60 ≤ wH σ k 2 q (nI v) 2 o)) 0 1000) nI)) (c_X5_leastFor (n := nOf σ) (k := k) (q := q) (w := 2) (o := o) (lo := 0) (c := 1000) hR (hR.n hI) hn8 (by omega) hq ho (by omega) (by omega) (by omega) (fun v h1 h2 => by rw [hR.wH (by omega) ho]) (fun v h1 h2 => (hR.hj hI).up (by omega) (fun _ => by unfold rg; rw [nI_toI (by omega)]; omega) (by omega) (by omega) (by omega) (by omega)) (hR.ho hI) (fun _ _ h => h)) vX5_leastFor rfl lX5_234 ⟨_, _, _, rfl, rfl, rfl⟩ (by decide) (Nat.le_of_ble_eq_true rfl) dX5_coal_53 rfl ?_
        rintro v M1 ⟨rfl, hR1⟩
        exact G_iret (st := []) (K := mX5_coal) dX5_coal_56 rfl (hQ _ _ (by rw [show opCoal σ (nI q) (nI k) = orNone σ (findF (fun v => decide (60 ≤ wH σ (cut (nI k)) 2 (cut (nI q)) (nI v) 2 (cut (σ 5 (cut (nI q)))))) 0 1000) nI from (if_pos c8).trans (if_pos (by rw [cut_nI (by omega)]; exact hB)), cut_nI hk2, cut_nI (k := q) (by omega), eo, cut_nI (by omega)]; exact ⟨rfl, hR1⟩))
      · skip
        exact absurd c8 c28
    · skip
      have hB := bI_0 c21
      refine G_ldc (K := mX5_coal) dX5_coal_24 kX5_163 ?_
      refine G_istore_n (K := mX5_coal) (i := 3) dX5_coal_26 rfl (by decide) ?_
      refine G_iload_n (K := mX5_coal) (i := 3) dX5_coal_27 rfl rfl ?_
      refine G_if_eq (K := mX5_coal) (tgt := 39) dX5_coal_28 (by decide) (fun c28 => ?_) (fun c28 => ?_)
      · skip
        exact absurd c28 (by decide)
      · skip
        refine G_aload_n (K := mX5_coal) (i := 0) dX5_coal_31 rfl rfl ?_
        refine G_iload_n (K := mX5_coal) (i := 3) dX5_coal_32 rfl rfl ?_
        refine G_call0 (K := mX5_coal) (Q' := PostR (tl σ 4)) (rf_finding hR (k := 4) (by omega) (fun _ _ h => h)) vX5_finding rfl lX5_109 ⟨_, _, _, rfl, rfl, rfl⟩ (by decide) (Nat.le_of_ble_eq_true rfl) dX5_coal_33 rfl ?_
        rintro v M1 ⟨rfl, hR1⟩
        refine G_goto (K := mX5_coal) (tgt := 56) dX5_coal_36 (by decide) ?_
        exact G_iret (st := []) (K := mX5_coal) dX5_coal_56 rfl (hQ _ _ (by rw [show opCoal σ (nI q) (nI k) = tl σ 4 from (if_pos c8).trans (if_neg (by rw [cut_nI (by omega), hB]; decide))]; exact ⟨rfl, hR1⟩))

set_option maxRecDepth 20000 in
theorem rf_kindFor {M σ : Mem} {r a : Int32} (hR : RR M σ) (hI : Inv σ) {Q : Option Value → Mem → Prop} (hQ : ∀ u' M', PostR (opBest σ r a 0 7) u' M' → Q u' M') : CT mX5_kindFor shR 8 [.ref 0, .int r, .int a] M Q := by
  refine CT.mk [some (.ref 0), some (.int r), some (.int a), none] (by decide) (Nat.le_of_ble_eq_true rfl) rfl rfl ?_
  refine G_aload_n (K := mX5_kindFor) (i := 0) dX5_kindFor_0 rfl rfl ?_
  refine G_iload_n (K := mX5_kindFor) (i := 1) dX5_kindFor_1 rfl rfl ?_
  refine G_iload_n (K := mX5_kindFor) (i := 2) dX5_kindFor_2 rfl rfl ?_
  refine G_cv (K := mX5_kindFor) (rf_refuses (r := r) (a := a) hR hI ⟨rfl, rfl⟩) vX5_refuses rfl lX5_198 dX5_kindFor_3 ⟨_, _, _, rfl, rfl, rfl⟩ (by decide) rfl (Nat.le_of_ble_eq_true rfl) ?_
  refine G_istore_n (K := mX5_kindFor) (i := 3) dX5_kindFor_6 rfl (by decide) ?_
  refine G_iload_n (K := mX5_kindFor) (i := 3) dX5_kindFor_7 rfl rfl ?_
  refine G_if_eq (K := mX5_kindFor) (tgt := 19) dX5_kindFor_8 (by decide) (fun c8 => ?_) (fun c8 => ?_)
  · skip
    obtain ⟨q, k, hq, rfl, hk1, hk2, rfl, hH⟩ := refR_0 hI c8
    have hn8 := hI.n8
    have hk60 : k ≤ 60 := refH_60 (m := 60) hk2 (by omega) hH
    refine G_aload_n (K := mX5_kindFor) (i := 0) dX5_kindFor_19 rfl rfl ?_
    refine G_iload_n (K := mX5_kindFor) (i := 1) dX5_kindFor_20 rfl rfl ?_
    refine G_iconst (K := mX5_kindFor) (v := 0) dX5_kindFor_21 (by decide) ?_
    refine G_bipush (K := mX5_kindFor) (v := 7) dX5_kindFor_22 (by decide) ?_
    refine G_iload_n (K := mX5_kindFor) (i := 2) dX5_kindFor_24 rfl rfl ?_
    refine G_call0 (K := mX5_kindFor) (as := [.int (nI q), .int (nI 0), .int (nI 7), .int (nI k)]) (r := 0) (Q' := PostR ((bestN (bestF σ k 0 q) 7).1, σ)) (c_X5_bestOf (n := nOf σ) (k := k) (q := q) (w := 0) (m := 7) (F := bestF σ k 0 q) (hR.n hI) hn8 (by omega) hq (by omega) (by omega) (by omega) (fun v hv => (hR.wH (by omega) hq).symm) (fun v hv => (hR.hj hI).up (by omega) (by omega) (by omega) (by omega) (by omega) (by omega)) (hR.ho hI) (fun M2 h1 h2 => ⟨rfl, hR.scr4 h1 (fun c a b d e _ => h2 c a b d e)⟩)) vX5_bestOf rfl lX5_204 ⟨_, _, _, rfl, rfl, rfl⟩ (by decide) (Nat.le_of_ble_eq_true rfl) dX5_kindFor_25 rfl ?_
    rintro v M1 ⟨rfl, hR1⟩
    exact G_iret (st := []) (K := mX5_kindFor) dX5_kindFor_28 rfl (hQ _ _ (by rw [show opBest σ (nI q) (nI k) 0 7 = ((bestN (bestF σ (cut (nI k)) 0 (cut (nI q))) 7).1, σ) from if_pos c8, cut_nI hk2, cut_nI (by omega)]; exact ⟨rfl, hR1⟩))
  · skip
    refine G_aload_n (K := mX5_kindFor) (i := 0) dX5_kindFor_11 rfl rfl ?_
    refine G_iload_n (K := mX5_kindFor) (i := 3) dX5_kindFor_12 rfl rfl ?_
    obtain ⟨q, hq, eq⟩ := refR_fin c8
    rw [eq]
    refine G_call0 (K := mX5_kindFor) (Q' := PostR (tl σ q)) (rf_finding hR (k := q) (by omega) (fun _ _ h => h)) vX5_finding rfl lX5_109 ⟨_, _, _, rfl, rfl, rfl⟩ (by decide) (Nat.le_of_ble_eq_true rfl) dX5_kindFor_13 rfl ?_
    rintro v M1 ⟨rfl, hR1⟩
    refine G_goto (K := mX5_kindFor) (tgt := 28) dX5_kindFor_16 (by decide) ?_
    exact G_iret (st := []) (K := mX5_kindFor) dX5_kindFor_28 rfl (hQ _ _ (by rw [show opBest σ r a 0 7 = _ from (by unfold opBest; exact (if_neg c8).trans ((congrArg (tlI σ) eq).trans (tlI_fin hq)))]; exact ⟨rfl, hR1⟩))

set_option maxRecDepth 20000 in
theorem rf_damper {M σ : Mem} {r a : Int32} (hR : RR M σ) (hI : Inv σ) {Q : Option Value → Mem → Prop} (hQ : ∀ u' M', PostR (opBest σ r a 6 4) u' M' → Q u' M') : CT mX5_damper shR 8 [.ref 0, .int r, .int a] M Q := by
  refine CT.mk [some (.ref 0), some (.int r), some (.int a), none] (by decide) (Nat.le_of_ble_eq_true rfl) rfl rfl ?_
  refine G_aload_n (K := mX5_damper) (i := 0) dX5_damper_0 rfl rfl ?_
  refine G_iload_n (K := mX5_damper) (i := 1) dX5_damper_1 rfl rfl ?_
  refine G_iload_n (K := mX5_damper) (i := 2) dX5_damper_2 rfl rfl ?_
  refine G_cv (K := mX5_damper) (rf_refuses (r := r) (a := a) hR hI ⟨rfl, rfl⟩) vX5_refuses rfl lX5_198 dX5_damper_3 ⟨_, _, _, rfl, rfl, rfl⟩ (by decide) rfl (Nat.le_of_ble_eq_true rfl) ?_
  refine G_istore_n (K := mX5_damper) (i := 3) dX5_damper_6 rfl (by decide) ?_
  refine G_iload_n (K := mX5_damper) (i := 3) dX5_damper_7 rfl rfl ?_
  refine G_if_eq (K := mX5_damper) (tgt := 19) dX5_damper_8 (by decide) (fun c8 => ?_) (fun c8 => ?_)
  · skip
    obtain ⟨q, k, hq, rfl, hk1, hk2, rfl, hH⟩ := refR_0 hI c8
    have hn8 := hI.n8
    have hk60 : k ≤ 60 := refH_60 (m := 60) hk2 (by omega) hH
    refine G_aload_n (K := mX5_damper) (i := 0) dX5_damper_19 rfl rfl ?_
    refine G_iload_n (K := mX5_damper) (i := 1) dX5_damper_20 rfl rfl ?_
    refine G_bipush (K := mX5_damper) (v := 6) dX5_damper_21 (by decide) ?_
    refine G_iconst (K := mX5_damper) (v := 4) dX5_damper_23 (by decide) ?_
    refine G_iload_n (K := mX5_damper) (i := 2) dX5_damper_24 rfl rfl ?_
    refine G_call0 (K := mX5_damper) (as := [.int (nI q), .int (nI 6), .int (nI 4), .int (nI k)]) (r := 0) (Q' := PostR ((bestN (bestF σ k 6 q) 4).1, σ)) (c_X5_bestOf (n := nOf σ) (k := k) (q := q) (w := 6) (m := 4) (F := bestF σ k 6 q) (hR.n hI) hn8 (by omega) hq (by omega) (by omega) (by omega) (fun v hv => (hR.wH (by omega) hq).symm) (fun v hv => (hR.hj hI).up (by omega) (by omega) (by omega) (fun _ => by unfold rg; rw [nI_toI (by omega)]; omega) (by omega) (by omega)) (hR.ho hI) (fun M2 h1 h2 => ⟨rfl, hR.scr4 h1 (fun c a b d e _ => h2 c a b d e)⟩)) vX5_bestOf rfl lX5_204 ⟨_, _, _, rfl, rfl, rfl⟩ (by decide) (Nat.le_of_ble_eq_true rfl) dX5_damper_25 rfl ?_
    rintro v M1 ⟨rfl, hR1⟩
    exact G_iret (st := []) (K := mX5_damper) dX5_damper_28 rfl (hQ _ _ (by rw [show opBest σ (nI q) (nI k) 6 4 = ((bestN (bestF σ (cut (nI k)) 6 (cut (nI q))) 4).1, σ) from if_pos c8, cut_nI hk2, cut_nI (by omega)]; exact ⟨rfl, hR1⟩))
  · skip
    refine G_aload_n (K := mX5_damper) (i := 0) dX5_damper_11 rfl rfl ?_
    refine G_iload_n (K := mX5_damper) (i := 3) dX5_damper_12 rfl rfl ?_
    obtain ⟨q, hq, eq⟩ := refR_fin c8
    rw [eq]
    refine G_call0 (K := mX5_damper) (Q' := PostR (tl σ q)) (rf_finding hR (k := q) (by omega) (fun _ _ h => h)) vX5_finding rfl lX5_109 ⟨_, _, _, rfl, rfl, rfl⟩ (by decide) (Nat.le_of_ble_eq_true rfl) dX5_damper_13 rfl ?_
    rintro v M1 ⟨rfl, hR1⟩
    refine G_goto (K := mX5_damper) (tgt := 28) dX5_damper_16 (by decide) ?_
    exact G_iret (st := []) (K := mX5_damper) dX5_damper_28 rfl (hQ _ _ (by rw [show opBest σ r a 6 4 = _ from (by unfold opBest; exact (if_neg c8).trans ((congrArg (tlI σ) eq).trans (tlI_fin hq)))]; exact ⟨rfl, hR1⟩))

set_option maxRecDepth 20000 in
theorem rf_warmest {M σ : Mem} {a : Int32} (hR : RR M σ) (hI : Inv σ) {Q : Option Value → Mem → Prop} (hQ : ∀ u' M', PostR (opWarmest σ a) u' M' → Q u' M') : CT mX5_warmest shR 8 [.ref 0, .int a] M Q := by
  refine CT.mk [some (.ref 0), some (.int a), none] (by decide) (Nat.le_of_ble_eq_true rfl) rfl rfl ?_
  refine G_aload_n (K := mX5_warmest) (i := 0) dX5_warmest_0 rfl rfl ?_
  refine G_iload_n (K := mX5_warmest) (i := 1) dX5_warmest_1 rfl rfl ?_
  refine G_cv (K := mX5_warmest) (rf_refPairs (a := a) hR hI ⟨rfl, rfl⟩) vX5_refusesPairs rfl lX5_221 dX5_warmest_2 ⟨_, _, _, rfl, rfl, rfl⟩ (by decide) rfl (Nat.le_of_ble_eq_true rfl) ?_
  refine G_istore_n (K := mX5_warmest) (i := 2) dX5_warmest_5 rfl (by decide) ?_
  refine G_iload_n (K := mX5_warmest) (i := 2) dX5_warmest_6 rfl rfl ?_
  refine G_if_eq (K := mX5_warmest) (tgt := 16) dX5_warmest_7 (by decide) (fun c7 => ?_) (fun c7 => ?_)
  · skip
    obtain ⟨k, hk2, rfl⟩ := refP_0 c7
    have hn8 := hI.n8
    have hk24 : k ≤ 24 := refH_24 hk2 (refP_H c7)
    refine G_aload_n (K := mX5_warmest) (i := 0) dX5_warmest_16 rfl rfl ?_
    refine G_iload_n (K := mX5_warmest) (i := 1) dX5_warmest_17 rfl rfl ?_
    refine G_call0 (K := mX5_warmest) (as := [.int (nI k)]) (r := 0) (Q' := fun u M2 => u = none ∧ pairR (pairF σ k) (nOf σ) (leastN (aH σ k 2) (nOf σ)) M M2 64) (c_X5_findPair (n := nOf σ) (k := k) (f := pairF σ k) (c := leastN (aH σ k 2) (nOf σ)) (hR.n hI) hn8 (by omega) (leastN_congr (by omega) (fun i hi => ((hoursH_congr hR.1 k).f 2 (by omega) (by omega) hi).symm)) (fun i j h1 h2 => by
        unfold pairF
        rw [show (8 * i + j) / 8 = i by omega, show (8 * i + j) % 8 = j by omega]
        exact leastN_congr (by omega) (fun q hq => ((hoursH_congr (chgH_congr hR.1 (by omega) (by omega)) k).f 2 (by omega) (by omega) hq).symm)) (hR.hj hI) (fun i j h1 h2 => (hR.hj hI).chg (by omega) (by omega)) (fun i j => chgH_cell (by decide) (by decide) (by decide)) (hR.ho hI) (fun M2 h => ⟨rfl, h⟩)) vX5_findPair rfl lX5_224 ⟨_, _, _, rfl, rfl, rfl⟩ (by decide) (Nat.le_of_ble_eq_true rfl) dX5_warmest_18 rfl ?_
    rintro v M2 ⟨rfl, hp⟩
    have hR2 : RR M2 σ := hR.scr hp.1 (fun c hc => hp.2.2.2.2.2 c (by unfold solid at hc; omega) (by unfold solid at hc; omega) (by unfold solid at hc; omega) (by unfold solid at hc; omega) (by unfold solid at hc; omega)) (hp.2.2.2.2.1 3 (by omega) (by omega)) (hp.2.2.2.2.1 19 (by omega) (by omega))
    have hp1 : M2 0 11 = (pairB σ k).1 := hp.2.2.1
    have hp2 : M2 0 12 = (pairB σ k).2 := hp.2.2.2.1
    refine G_aload_n (K := mX5_warmest) (i := 0) dX5_warmest_21 rfl rfl ?_
    refine G_geti (K := mX5_warmest) fX5_218 dX5_warmest_22 rfl rfl ?_
    rw [hp2]
    exact G_iret (st := []) (K := mX5_warmest) dX5_warmest_25 rfl (hQ _ _ (by rw [show opWarmest σ (nI k) = ((pairB σ (cut (nI k))).2, σ) from if_pos c7, cut_nI hk2]; exact ⟨rfl, hR2⟩))
  · skip
    refine G_aload_n (K := mX5_warmest) (i := 0) dX5_warmest_10 rfl rfl ?_
    refine G_iload_n (K := mX5_warmest) (i := 2) dX5_warmest_11 rfl rfl ?_
    obtain ⟨q, hq, eq⟩ := refP_fin c7
    rw [eq]
    refine G_call0 (K := mX5_warmest) (Q' := PostR (tl σ q)) (rf_finding hR (k := q) (by omega) (fun _ _ h => h)) vX5_finding rfl lX5_109 ⟨_, _, _, rfl, rfl, rfl⟩ (by decide) (Nat.le_of_ble_eq_true rfl) dX5_warmest_12 rfl ?_
    rintro v M1 ⟨rfl, hR1⟩
    exact G_iret (st := []) (K := mX5_warmest) dX5_warmest_15 rfl (hQ _ _ (by rw [show opWarmest σ a = _ from (by unfold opWarmest; exact (if_neg c7).trans ((congrArg (tlI σ) eq).trans (tlI_fin hq)))]; exact ⟨rfl, hR1⟩))

set_option maxRecDepth 20000 in
theorem rf_exchange {M σ : Mem} {a : Int32} (hR : RR M σ) (hI : Inv σ) {Q : Option Value → Mem → Prop} (hQ : ∀ u' M', PostR (opExchange σ a) u' M' → Q u' M') : CT mX5_exchange shR 8 [.ref 0, .int a] M Q := by
  refine CT.mk [some (.ref 0), some (.int a), none] (by decide) (Nat.le_of_ble_eq_true rfl) rfl rfl ?_
  refine G_aload_n (K := mX5_exchange) (i := 0) dX5_exchange_0 rfl rfl ?_
  refine G_iload_n (K := mX5_exchange) (i := 1) dX5_exchange_1 rfl rfl ?_
  refine G_cv (K := mX5_exchange) (rf_refPairs (a := a) hR hI ⟨rfl, rfl⟩) vX5_refusesPairs rfl lX5_221 dX5_exchange_2 ⟨_, _, _, rfl, rfl, rfl⟩ (by decide) rfl (Nat.le_of_ble_eq_true rfl) ?_
  refine G_istore_n (K := mX5_exchange) (i := 2) dX5_exchange_5 rfl (by decide) ?_
  refine G_iload_n (K := mX5_exchange) (i := 2) dX5_exchange_6 rfl rfl ?_
  refine G_if_eq (K := mX5_exchange) (tgt := 16) dX5_exchange_7 (by decide) (fun c7 => ?_) (fun c7 => ?_)
  · skip
    obtain ⟨k, hk2, rfl⟩ := refP_0 c7
    have hn8 := hI.n8
    have hk24 : k ≤ 24 := refH_24 hk2 (refP_H c7)
    refine G_aload_n (K := mX5_exchange) (i := 0) dX5_exchange_16 rfl rfl ?_
    refine G_iload_n (K := mX5_exchange) (i := 1) dX5_exchange_17 rfl rfl ?_
    refine G_call0 (K := mX5_exchange) (as := [.int (nI k)]) (r := 0) (Q' := fun u M2 => u = none ∧ pairR (pairF σ k) (nOf σ) (leastN (aH σ k 2) (nOf σ)) M M2 64) (c_X5_findPair (n := nOf σ) (k := k) (f := pairF σ k) (c := leastN (aH σ k 2) (nOf σ)) (hR.n hI) hn8 (by omega) (leastN_congr (by omega) (fun i hi => ((hoursH_congr hR.1 k).f 2 (by omega) (by omega) hi).symm)) (fun i j h1 h2 => by
        unfold pairF
        rw [show (8 * i + j) / 8 = i by omega, show (8 * i + j) % 8 = j by omega]
        exact leastN_congr (by omega) (fun q hq => ((hoursH_congr (chgH_congr hR.1 (by omega) (by omega)) k).f 2 (by omega) (by omega) hq).symm)) (hR.hj hI) (fun i j h1 h2 => (hR.hj hI).chg (by omega) (by omega)) (fun i j => chgH_cell (by decide) (by decide) (by decide)) (hR.ho hI) (fun M2 h => ⟨rfl, h⟩)) vX5_findPair rfl lX5_224 ⟨_, _, _, rfl, rfl, rfl⟩ (by decide) (Nat.le_of_ble_eq_true rfl) dX5_exchange_18 rfl ?_
    rintro v M2 ⟨rfl, hp⟩
    have hR2 : RR M2 σ := hR.scr hp.1 (fun c hc => hp.2.2.2.2.2 c (by unfold solid at hc; omega) (by unfold solid at hc; omega) (by unfold solid at hc; omega) (by unfold solid at hc; omega) (by unfold solid at hc; omega)) (hp.2.2.2.2.1 3 (by omega) (by omega)) (hp.2.2.2.2.1 19 (by omega) (by omega))
    have hp1 : M2 0 11 = (pairB σ k).1 := hp.2.2.1
    have hp2 : M2 0 12 = (pairB σ k).2 := hp.2.2.2.1
    refine G_aload_n (K := mX5_exchange) (i := 0) dX5_exchange_21 rfl rfl ?_
    refine G_geti (K := mX5_exchange) fX5_211 dX5_exchange_22 rfl rfl ?_
    rw [hp1]
    refine G_if_ge (K := mX5_exchange) (tgt := 37) dX5_exchange_25 (by decide) (fun c25 => ?_) (fun c25 => ?_)
    · skip
      refine G_aload_n (K := mX5_exchange) (i := 0) dX5_exchange_37 rfl rfl ?_
      refine G_geti (K := mX5_exchange) fX5_211 dX5_exchange_38 rfl rfl ?_
      rw [hp1]
      exact G_iret (st := []) (K := mX5_exchange) dX5_exchange_41 rfl (hQ _ _ (by rw [show opExchange σ (nI k) = if (pairB σ (cut (nI k))).1 < 0 then tl σ 3 else ((pairB σ (cut (nI k))).1, σ) from if_pos c7, cut_nI hk2, if_neg (Int32.not_lt.mpr c25)]; exact ⟨rfl, hR2⟩))
    · skip
      refine G_aload_n (K := mX5_exchange) (i := 0) dX5_exchange_28 rfl rfl ?_
      refine G_ldc (K := mX5_exchange) dX5_exchange_29 kX5_186 ?_
      refine G_call0 (K := mX5_exchange) (Q' := PostR (tl σ 3)) (rf_finding hR2 (k := 3) (by omega) (fun _ _ h => h)) vX5_finding rfl lX5_109 ⟨_, _, _, rfl, rfl, rfl⟩ (by decide) (Nat.le_of_ble_eq_true rfl) dX5_exchange_31 rfl ?_
      rintro v M1 ⟨rfl, hR1⟩
      refine G_goto (K := mX5_exchange) (tgt := 41) dX5_exchange_34 (by decide) ?_
      exact G_iret (st := []) (K := mX5_exchange) dX5_exchange_41 rfl (hQ _ _ (by rw [show opExchange σ (nI k) = if (pairB σ (cut (nI k))).1 < 0 then tl σ 3 else ((pairB σ (cut (nI k))).1, σ) from if_pos c7, cut_nI hk2, if_pos (Int32.not_le.mp c25)]; exact ⟨rfl, hR1⟩))
  · skip
    refine G_aload_n (K := mX5_exchange) (i := 0) dX5_exchange_10 rfl rfl ?_
    refine G_iload_n (K := mX5_exchange) (i := 2) dX5_exchange_11 rfl rfl ?_
    obtain ⟨q, hq, eq⟩ := refP_fin c7
    rw [eq]
    refine G_call0 (K := mX5_exchange) (Q' := PostR (tl σ q)) (rf_finding hR (k := q) (by omega) (fun _ _ h => h)) vX5_finding rfl lX5_109 ⟨_, _, _, rfl, rfl, rfl⟩ (by decide) (Nat.le_of_ble_eq_true rfl) dX5_exchange_12 rfl ?_
    rintro v M1 ⟨rfl, hR1⟩
    exact G_iret (st := []) (K := mX5_exchange) dX5_exchange_15 rfl (hQ _ _ (by rw [show opExchange σ a = _ from (by unfold opExchange; exact (if_neg c7).trans ((congrArg (tlI σ) eq).trans (tlI_fin hq)))]; exact ⟨rfl, hR1⟩))
