set_option maxRecDepth 20000 in
theorem cl_move {M σ : Mem} {a b : Int32} (hR : RC M σ) (hI : Inv σ) {Q : Option Value → Mem → Prop} (hQ : ∀ u' M', PostC (opMove σ a b) u' M' → Q u' M') : CT mX4_move shC 8 [.ref 0, .int a, .int b] M Q := by
  refine CT.mk [some (.ref 0), some (.int a), some (.int b)] (by decide) (Nat.le_of_ble_eq_true rfl) rfl rfl ?_
  refine G_aload_n (K := mX4_move) (i := 0) dX4_move_0 rfl rfl ?_
  refine G_getr (K := mX4_move) fX4_12 dX4_move_1 rfl rfl ?_
  refine G_iload_n (K := mX4_move) (i := 1) dX4_move_4 rfl rfl ?_
  refine G_hp (K := mX4_move) (b := 1) (by unfold isH; omega) (c_X0_has (M := hof M 1) (r := a) ⟨rfl, rfl⟩) vX0_has rfl lX4_65 dX4_move_5 rfl (by decide) rfl (Nat.le_of_ble_eq_true rfl) ?_
  rw [hasI_B (hR.nI hI) hI.n8]
  refine G_if_eq (K := mX4_move) (tgt := 22) dX4_move_8 (by decide) (fun c8 => ?_) (fun c8 => ?_)
  · skip
    refine G_aload_n (K := mX4_move) (i := 0) dX4_move_22 rfl rfl ?_
    refine G_ldc (K := mX4_move) dX4_move_23 kX4_52 ?_
    refine G_call0 (K := mX4_move) (Q' := PostC (tl σ 0)) (cl_tell hR (k := 0) (by omega) (fun _ _ h => h)) vX4_tell rfl lX4_53 ⟨_, _, _, rfl, rfl, rfl⟩ (by decide) (Nat.le_of_ble_eq_true rfl) dX4_move_25 rfl ?_
    rintro v M1 ⟨rfl, hR1⟩
    first
      | exact G_iret (st := []) (K := mX4_move) dX4_move_28 rfl (hQ _ _ (by rw [show opMove σ a b = _ from (by unfold opMove; exact if_neg (by rw [bI_0 c8]; decide))]; exact ⟨rfl, hR1⟩))
      | exact G_iret (st := []) (K := mX4_move) dX4_move_28 rfl (hQ _ _ (by rw [show opMove σ (nI k) b = _ from (by unfold opMove; exact (if_pos (bI_1 c8)).trans (if_neg (by rw [bI_0 c19]; decide)))]; exact ⟨rfl, hR1⟩))
  · skip
    obtain ⟨k, hk, rfl⟩ := roomB_t (by have := hI.n8; omega) (bI_1 c8)
    refine G_aload_n (K := mX4_move) (i := 0) dX4_move_11 rfl rfl ?_
    refine G_getr (K := mX4_move) fX4_12 dX4_move_12 rfl rfl ?_
    refine G_iload_n (K := mX4_move) (i := 2) dX4_move_15 rfl rfl ?_
    refine G_hp (K := mX4_move) (b := 1) (by unfold isH; omega) (c_X0_has (M := hof M 1) (r := b) ⟨rfl, rfl⟩) vX0_has rfl lX4_65 dX4_move_16 rfl (by decide) rfl (Nat.le_of_ble_eq_true rfl) ?_
    rw [hasI_B (hR.nI hI) hI.n8]
    refine G_if_ne (K := mX4_move) (tgt := 29) dX4_move_19 (by decide) (fun c19 => ?_) (fun c19 => ?_)
    · skip
      obtain ⟨j, hj, rfl⟩ := roomB_t (by have := hI.n8; omega) (bI_1 c19)
      refine G_aload_n (K := mX4_move) (i := 0) dX4_move_29 rfl rfl ?_
      refine G_getr (K := mX4_move) fX4_12 dX4_move_30 rfl rfl ?_
      refine G_iload_n (K := mX4_move) (i := 1) dX4_move_33 rfl rfl ?_
      refine G_iload_n (K := mX4_move) (i := 2) dX4_move_34 rfl rfl ?_
      refine G_hn (K := mX4_move) (b := 1) (by unfold isH; omega) (c_X0_changePlaces (M := hof M 1) (i := k) (j := j) (by have := hI.n8; omega) (by have := hI.n8; omega) ⟨rfl, rfl⟩) vX0_changePlaces rfl lX4_88 dX4_move_35 rfl (by decide) rfl (Nat.le_of_ble_eq_true rfl) ?_
      refine G_iconst (K := mX4_move) (v := 1) dX4_move_38 (by decide) ?_
      refine G_iret (st := []) (K := mX4_move) dX4_move_39 rfl (hQ _ _ ?_)
      rw [show opMove σ (nI k) (nI j) = (1, chgH σ (cut (nI k)) (cut (nI j))) from (if_pos (bI_1 c8)).trans (if_pos (bI_1 c19)), cut_nI (by have := hI.n8; omega), cut_nI (by have := hI.n8; omega)]
      exact ⟨rfl, hR.house (fun c hc => chgH_cell (by omega) (by omega) (by omega)) (by rw [show nOf (chgH σ k j) = nOf σ from rfl]; exact chgH_congr hR.1 hk hj)⟩
    · skip
      refine G_aload_n (K := mX4_move) (i := 0) dX4_move_22 rfl rfl ?_
      refine G_ldc (K := mX4_move) dX4_move_23 kX4_52 ?_
      refine G_call0 (K := mX4_move) (Q' := PostC (tl σ 0)) (cl_tell hR (k := 0) (by omega) (fun _ _ h => h)) vX4_tell rfl lX4_53 ⟨_, _, _, rfl, rfl, rfl⟩ (by decide) (Nat.le_of_ble_eq_true rfl) dX4_move_25 rfl ?_
      rintro v M1 ⟨rfl, hR1⟩
      first
        | exact G_iret (st := []) (K := mX4_move) dX4_move_28 rfl (hQ _ _ (by rw [show opMove σ a b = _ from (by unfold opMove; exact if_neg (by rw [bI_0 c8]; decide))]; exact ⟨rfl, hR1⟩))
        | exact G_iret (st := []) (K := mX4_move) dX4_move_28 rfl (hQ _ _ (by rw [show opMove σ (nI k) b = _ from (by unfold opMove; exact (if_pos (bI_1 c8)).trans (if_neg (by rw [bI_0 c19]; decide)))]; exact ⟨rfl, hR1⟩))

theorem hoursH_cell {h : Mem} {n : Nat} {c : Nat} (hc : 10 ≤ c) (k : Nat) : hoursH n k h c = h c := by
  induction k with
  | zero => rfl
  | succ k ih =>
    rw [← ih]
    funext i
    show (if c = 0 then _ else if c = 2 then _ else if c = 3 then _ else if c = 8 then _ else if c = 9 then _ else hoursH n k h c i) = _
    rw [if_neg (show ¬ c = 0 by omega), if_neg (show ¬ c = 2 by omega), if_neg (show ¬ c = 3 by omega), if_neg (show ¬ c = 8 by omega), if_neg (show ¬ c = 9 by omega)]
theorem nOf_hours (h : Mem) (n k : Nat) : nOf (hoursH n k h) = nOf h := by unfold nOf; rw [hoursH_0]
theorem Inv.wall {σ : Mem} (hI : Inv σ) : ∀ i, i < nOf σ → 0 < σ 4 i := fun _ hi => hI.1.wall hi
set_option maxRecDepth 20000 in
theorem cl_hours {M σ : Mem} {a : Int32} (hR : RC M σ) (hI : Inv σ) {Q : Option Value → Mem → Prop} (hQ : ∀ u' M', PostC (opHours σ a) u' M' → Q u' M') : CT mX4_hours shC 8 [.ref 0, .int a] M Q := by
  refine CT.mk [some (.ref 0), some (.int a), none] (by decide) (Nat.le_of_ble_eq_true rfl) rfl rfl ?_
  refine G_aload_n (K := mX4_hours) (i := 0) dX4_hours_0 rfl rfl ?_
  refine G_iload_n (K := mX4_hours) (i := 1) dX4_hours_1 rfl rfl ?_
  refine G_bipush (K := mX4_hours) (v := 100) dX4_hours_2 (by decide) ?_
  refine G_cv (K := mX4_hours) (cl_fHours (a := a) (most := 100) hR ⟨rfl, rfl⟩) vX4_findingOfHours rfl lX4_92 dX4_hours_4 ⟨_, _, _, rfl, rfl, rfl⟩ (by decide) rfl (Nat.le_of_ble_eq_true rfl) ?_
  refine G_istore_n (K := mX4_hours) (i := 2) dX4_hours_7 rfl (by decide) ?_
  refine G_iload_n (K := mX4_hours) (i := 2) dX4_hours_8 rfl rfl ?_
  refine G_if_ne (K := mX4_hours) (tgt := 23) dX4_hours_9 (by decide) (fun c9 => ?_) (fun c9 => ?_)
  · skip
    refine G_aload_n (K := mX4_hours) (i := 0) dX4_hours_23 rfl rfl ?_
    refine G_iload_n (K := mX4_hours) (i := 2) dX4_hours_24 rfl rfl ?_
    obtain ⟨q, hq, eq⟩ := refH_fin c9
    rw [eq]
    refine G_call0 (K := mX4_hours) (Q' := PostC (tl σ q)) (cl_tell hR (k := q) (by omega) (fun _ _ h => h)) vX4_tell rfl lX4_53 ⟨_, _, _, rfl, rfl, rfl⟩ (by decide) (Nat.le_of_ble_eq_true rfl) dX4_hours_25 rfl ?_
    rintro v M1 ⟨rfl, hR1⟩
    first
      | exact G_iret (st := []) (K := mX4_hours) dX4_hours_28 rfl (hQ _ _ (by rw [show opHours σ a = _ from (by unfold opHours; exact (if_neg c9).trans ((congrArg (tlI σ) eq).trans (tlI_fin hq)))]; exact ⟨rfl, hR1⟩))
      | exact G_iret (st := []) (K := mX4_hours) dX4_hours_28 rfl (hQ _ _ (by rw [show opHours σ (nI k) = _ from (by unfold opHours; exact if_pos c9)]; rw [cut_nI hk2]; exact ⟨rfl, hR.house (fun c hc => hoursH_cell (by omega) k) (by rw [nOf_hours]; exact hh2)⟩))
  · skip
    obtain ⟨k, hk1, hk2, rfl⟩ := refH_nat c9
    refine G_aload_n (K := mX4_hours) (i := 0) dX4_hours_12 rfl rfl ?_
    refine G_getr (K := mX4_hours) fX4_12 dX4_hours_13 rfl rfl ?_
    refine G_iload_n (K := mX4_hours) (i := 1) dX4_hours_16 rfl rfl ?_
    refine G_hrs (K := mX4_hours) (b := 1) (n := nOf σ) (k := k) (h := σ) (by unfold isH; omega) (hR.1) (hI.nI) hI.n8 (by omega) (hI.wall) lX4_96 dX4_hours_17 (by decide) (Nat.le_of_ble_eq_true rfl) (fun h2 hh2 => ?_)
    refine G_goto (K := mX4_hours) (tgt := 28) dX4_hours_20 (by decide) ?_
    first
      | exact G_iret (st := []) (K := mX4_hours) dX4_hours_28 rfl (hQ _ _ (by rw [show opHours σ a = _ from (by unfold opHours; exact (if_neg c9).trans ((congrArg (tlI σ) eq).trans (tlI_fin hq)))]; exact ⟨rfl, hR1⟩))
      | exact G_iret (st := []) (K := mX4_hours) dX4_hours_28 rfl (hQ _ _ (by rw [show opHours σ (nI k) = _ from (by unfold opHours; exact if_pos c9)]; rw [cut_nI hk2]; exact ⟨rfl, hR.house (fun c hc => hoursH_cell (by omega) k) (by rw [nOf_hours]; exact hh2)⟩))

set_option maxRecDepth 20000 in
theorem cl_now {M σ : Mem} {w : Int32} (hR : RC M σ) (hI : Inv σ) {Q : Option Value → Mem → Prop} (hQ : ∀ u' M', PostC (opNow σ w) u' M' → Q u' M') : CT mX4_now shC 8 [.ref 0, .int w] M Q := by
  refine CT.mk [some (.ref 0), some (.int w)] (by decide) (Nat.le_of_ble_eq_true rfl) rfl rfl ?_
  refine G_iload_n (K := mX4_now) (i := 1) dX4_now_0 rfl rfl ?_
  by_cases e1_0 : w = 0
  · refine G_tableIn (K := mX4_now) (tgt := 40) dX4_now_1 (by rw [e1_0]; decide) (by rw [e1_0]; decide) (by rw [e1_0]; rfl) (by decide) ?_
    refine G_aload_n (K := mX4_now) (i := 0) dX4_now_40 rfl rfl ?_
    refine G_getr (K := mX4_now) fX4_12 dX4_now_41 rfl rfl ?_
    refine G_geti (K := mX4_now) fX4_99 dX4_now_44 rfl rfl ?_
    exact G_iret (st := []) (K := mX4_now) dX4_now_47 rfl (hQ _ _ (by rw [show opNow σ w = _ from (by unfold opNow; exact if_pos e1_0)]; exact ⟨congrArg (fun z => some (Value.int z)) hR.hour, hR⟩))
  by_cases e1_1 : w = 1
  · refine G_tableIn (K := mX4_now) (tgt := 48) dX4_now_1 (by rw [e1_1]; decide) (by rw [e1_1]; decide) (by rw [e1_1]; rfl) (by decide) ?_
    refine G_aload_n (K := mX4_now) (i := 0) dX4_now_48 rfl rfl ?_
    refine G_getr (K := mX4_now) fX4_12 dX4_now_49 rfl rfl ?_
    refine G_hp (K := mX4_now) (b := 1) (by unfold isH; omega) (c_X0_coldRooms (M := hof M 1) (n := nOf σ) (hR.nI hI) hI.n8 ⟨rfl, rfl⟩) vX0_coldRooms rfl lX4_102 dX4_now_52 rfl (by decide) rfl (Nat.le_of_ble_eq_true rfl) ?_
    exact G_iret (st := []) (K := mX4_now) dX4_now_55 rfl (hQ _ _ (by rw [show opNow σ w = _ from (by unfold opNow; exact (if_neg e1_0).trans (if_pos e1_1))]; exact ⟨congrArg (fun z => some (Value.int z)) (bits_congr _ (fun i hi => by have e := hR.1.f 2 (by omega) (by omega) hi; rw [e])), hR⟩))
  by_cases e1_2 : w = 2
  · refine G_tableIn (K := mX4_now) (tgt := 56) dX4_now_1 (by rw [e1_2]; decide) (by rw [e1_2]; decide) (by rw [e1_2]; rfl) (by decide) ?_
    refine G_aload_n (K := mX4_now) (i := 0) dX4_now_56 rfl rfl ?_
    refine G_getr (K := mX4_now) fX4_12 dX4_now_57 rfl rfl ?_
    refine G_aload_n (K := mX4_now) (i := 0) dX4_now_60 rfl rfl ?_
    refine G_getr (K := mX4_now) fX4_12 dX4_now_61 rfl rfl ?_
    refine G_getr (K := mX4_now) fX4_106 dX4_now_64 rfl rfl ?_
    refine G_hp (K := mX4_now) (b := 1) (by unfold isH; omega) (c_X0_sumOf (M := hof M 1) (n := nOf σ) (c := 3) (by omega) (by omega) (hR.nI hI) hI.n8 ⟨rfl, rfl⟩) vX0_sumOf rfl lX4_109 dX4_now_67 rfl (by decide) rfl (Nat.le_of_ble_eq_true rfl) ?_
    exact G_iret (st := []) (K := mX4_now) dX4_now_70 rfl (hQ _ _ (by rw [show opNow σ w = _ from (by unfold opNow; exact (if_neg e1_0).trans ((if_neg e1_1).trans (if_pos e1_2)))]; exact ⟨congrArg (fun z => some (Value.int z)) (sumN_congr _ (fun i hi => hR.1.f 3 (by omega) (by omega) hi)), hR⟩))
  by_cases e1_3 : w = 3
  · refine G_tableIn (K := mX4_now) (tgt := 71) dX4_now_1 (by rw [e1_3]; decide) (by rw [e1_3]; decide) (by rw [e1_3]; rfl) (by decide) ?_
    refine G_aload_n (K := mX4_now) (i := 0) dX4_now_71 rfl rfl ?_
    refine G_getr (K := mX4_now) fX4_12 dX4_now_72 rfl rfl ?_
    refine G_aload_n (K := mX4_now) (i := 0) dX4_now_75 rfl rfl ?_
    refine G_getr (K := mX4_now) fX4_12 dX4_now_76 rfl rfl ?_
    refine G_getr (K := mX4_now) fX4_113 dX4_now_79 rfl rfl ?_
    refine G_hp (K := mX4_now) (b := 1) (by unfold isH; omega) (c_X0_sumOf (M := hof M 1) (n := nOf σ) (c := 2) (by omega) (by omega) (hR.nI hI) hI.n8 ⟨rfl, rfl⟩) vX0_sumOf rfl lX4_109 dX4_now_82 rfl (by decide) rfl (Nat.le_of_ble_eq_true rfl) ?_
    exact G_iret (st := []) (K := mX4_now) dX4_now_85 rfl (hQ _ _ (by rw [show opNow σ w = _ from (by unfold opNow; exact (if_neg e1_0).trans ((if_neg e1_1).trans ((if_neg e1_2).trans (if_pos e1_3))))]; exact ⟨congrArg (fun z => some (Value.int z)) (sumN_congr _ (fun i hi => hR.1.f 2 (by omega) (by omega) hi)), hR⟩))
  by_cases e1_4 : w = 4
  · refine G_tableIn (K := mX4_now) (tgt := 86) dX4_now_1 (by rw [e1_4]; decide) (by rw [e1_4]; decide) (by rw [e1_4]; rfl) (by decide) ?_
    refine G_aload_n (K := mX4_now) (i := 0) dX4_now_86 rfl rfl ?_
    refine G_getr (K := mX4_now) fX4_12 dX4_now_87 rfl rfl ?_
    refine G_geti (K := mX4_now) fX4_79 dX4_now_90 rfl rfl ?_
    exact G_iret (st := []) (K := mX4_now) dX4_now_93 rfl (hQ _ _ (by rw [show opNow σ w = _ from (by unfold opNow; exact (if_neg e1_0).trans ((if_neg e1_1).trans ((if_neg e1_2).trans ((if_neg e1_3).trans (if_pos e1_4)))))]; exact ⟨congrArg (fun z => some (Value.int z)) hR.out, hR⟩))
  by_cases e1_5 : w = 5
  · refine G_tableIn (K := mX4_now) (tgt := 94) dX4_now_1 (by rw [e1_5]; decide) (by rw [e1_5]; decide) (by rw [e1_5]; rfl) (by decide) ?_
    refine G_aload_n (K := mX4_now) (i := 0) dX4_now_94 rfl rfl ?_
    refine G_getr (K := mX4_now) fX4_12 dX4_now_95 rfl rfl ?_
    refine G_hp (K := mX4_now) (b := 1) (by unfold isH; omega) (c_X0_coldestRoom (M := hof M 1) (n := nOf σ) (hR.nI hI) hI.n8 ⟨rfl, rfl⟩) vX0_coldestRoom rfl lX4_116 dX4_now_98 rfl (by decide) rfl (Nat.le_of_ble_eq_true rfl) ?_
    exact G_iret (st := []) (K := mX4_now) dX4_now_101 rfl (hQ _ _ (by rw [show opNow σ w = _ from (by unfold opNow; exact (if_neg e1_0).trans ((if_neg e1_1).trans ((if_neg e1_2).trans ((if_neg e1_3).trans ((if_neg e1_4).trans (if_pos e1_5))))))]; exact ⟨congrArg (fun z => some (Value.int z)) (coldN_congr _ (by have := hI.n8; omega) (fun i hi => hR.1.f 2 (by omega) (by omega) hi)), hR⟩))
  have fe1_0 : (w).toInt ≠ 0 := fun h => e1_0 (Int32.toInt_inj.mp (h.trans (by decide)))
  have fe1_1 : (w).toInt ≠ 1 := fun h => e1_1 (Int32.toInt_inj.mp (h.trans (by decide)))
  have fe1_2 : (w).toInt ≠ 2 := fun h => e1_2 (Int32.toInt_inj.mp (h.trans (by decide)))
  have fe1_3 : (w).toInt ≠ 3 := fun h => e1_3 (Int32.toInt_inj.mp (h.trans (by decide)))
  have fe1_4 : (w).toInt ≠ 4 := fun h => e1_4 (Int32.toInt_inj.mp (h.trans (by decide)))
  have fe1_5 : (w).toInt ≠ 5 := fun h => e1_5 (Int32.toInt_inj.mp (h.trans (by decide)))
  refine G_tableOut (K := mX4_now) (tgt := 102) dX4_now_1 (by omega) (by decide) ?_
  refine G_aload_n (K := mX4_now) (i := 0) dX4_now_102 rfl rfl ?_
  refine G_ldc (K := mX4_now) dX4_now_103 kX4_52 ?_
  refine G_call0 (K := mX4_now) (Q' := PostC (tl σ 0)) (cl_tell hR (k := 0) (by omega) (fun _ _ h => h)) vX4_tell rfl lX4_53 ⟨_, _, _, rfl, rfl, rfl⟩ (by decide) (Nat.le_of_ble_eq_true rfl) dX4_now_105 rfl ?_
  rintro v M1 ⟨rfl, hR1⟩
  exact G_iret (st := []) (K := mX4_now) dX4_now_108 rfl (hQ _ _ (by rw [show opNow σ w = _ from (by unfold opNow; exact (if_neg e1_0).trans ((if_neg e1_1).trans ((if_neg e1_2).trans ((if_neg e1_3).trans ((if_neg e1_4).trans (if_neg e1_5))))))]; exact ⟨rfl, hR1⟩))

theorem nat_of {a : Int32} (h : ¬ a < 0) : ∃ k, k < 2147483648 ∧ a = nI k := by
  rw [i32_lt] at h
  have h' : ¬ a.toInt < 0 := h
  have := Int32.toInt_lt a
  refine ⟨a.toInt.toNat, by omega, i32_ext ?_⟩
  rw [nI_toI (by omega)]
  omega
set_option maxRecDepth 20000 in
theorem cl_ahead {M σ : Mem} {a w : Int32} (hR : RC M σ) (hI : Inv σ) {Q : Option Value → Mem → Prop} (hQ : ∀ u' M', PostC (opAhead σ a w) u' M' → Q u' M') : CT mX4_ahead shC 8 [.ref 0, .int a, .int w] M Q := by
  refine CT.mk [some (.ref 0), some (.int a), some (.int w), none] (by decide) (Nat.le_of_ble_eq_true rfl) rfl rfl ?_
  refine G_iload_n (K := mX4_ahead) (i := 1) dX4_ahead_0 rfl rfl ?_
  refine G_if_lt (K := mX4_ahead) (tgt := 32) dX4_ahead_1 (by decide) (fun c1 => ?_) (fun c1 => ?_)
  · skip
    refine G_aload_n (K := mX4_ahead) (i := 0) dX4_ahead_32 rfl rfl ?_
    refine G_ldc (K := mX4_ahead) dX4_ahead_33 kX4_52 ?_
    refine G_call0 (K := mX4_ahead) (Q' := PostC (tl σ 0)) (cl_tell hR (k := 0) (by omega) (fun _ _ h => h)) vX4_tell rfl lX4_53 ⟨_, _, _, rfl, rfl, rfl⟩ (by decide) (Nat.le_of_ble_eq_true rfl) dX4_ahead_35 rfl ?_
    rintro v M1 ⟨rfl, hR1⟩
    exact G_iret (st := []) (K := mX4_ahead) dX4_ahead_38 rfl (hQ _ _ (by rw [show opAhead σ a w = _ from (by unfold opAhead; first | exact if_pos c1 | exact (if_neg c1).trans (if_pos c7) | exact (if_neg c1).trans ((if_neg c7).trans (if_pos c11)) | exact (if_neg c1).trans ((if_neg c7).trans ((if_neg c11).trans (if_pos ⟨Int32.not_le.mp c16, bI_0 c29⟩))))]; exact ⟨rfl, hR1⟩))
  · skip
    refine G_iload_n (K := mX4_ahead) (i := 1) dX4_ahead_4 rfl rfl ?_
    refine G_bipush (K := mX4_ahead) (v := 100) dX4_ahead_5 (by decide) ?_
    refine G_icmp_gt (K := mX4_ahead) (tgt := 32) dX4_ahead_7 (by decide) (fun c7 => ?_) (fun c7 => ?_)
    · skip
      refine G_aload_n (K := mX4_ahead) (i := 0) dX4_ahead_32 rfl rfl ?_
      refine G_ldc (K := mX4_ahead) dX4_ahead_33 kX4_52 ?_
      refine G_call0 (K := mX4_ahead) (Q' := PostC (tl σ 0)) (cl_tell hR (k := 0) (by omega) (fun _ _ h => h)) vX4_tell rfl lX4_53 ⟨_, _, _, rfl, rfl, rfl⟩ (by decide) (Nat.le_of_ble_eq_true rfl) dX4_ahead_35 rfl ?_
      rintro v M1 ⟨rfl, hR1⟩
      exact G_iret (st := []) (K := mX4_ahead) dX4_ahead_38 rfl (hQ _ _ (by rw [show opAhead σ a w = _ from (by unfold opAhead; first | exact if_pos c1 | exact (if_neg c1).trans (if_pos c7) | exact (if_neg c1).trans ((if_neg c7).trans (if_pos c11)) | exact (if_neg c1).trans ((if_neg c7).trans ((if_neg c11).trans (if_pos ⟨Int32.not_le.mp c16, bI_0 c29⟩))))]; exact ⟨rfl, hR1⟩))
    · skip
      refine G_iload_n (K := mX4_ahead) (i := 2) dX4_ahead_10 rfl rfl ?_
      refine G_if_lt (K := mX4_ahead) (tgt := 32) dX4_ahead_11 (by decide) (fun c11 => ?_) (fun c11 => ?_)
      · skip
        refine G_aload_n (K := mX4_ahead) (i := 0) dX4_ahead_32 rfl rfl ?_
        refine G_ldc (K := mX4_ahead) dX4_ahead_33 kX4_52 ?_
        refine G_call0 (K := mX4_ahead) (Q' := PostC (tl σ 0)) (cl_tell hR (k := 0) (by omega) (fun _ _ h => h)) vX4_tell rfl lX4_53 ⟨_, _, _, rfl, rfl, rfl⟩ (by decide) (Nat.le_of_ble_eq_true rfl) dX4_ahead_35 rfl ?_
        rintro v M1 ⟨rfl, hR1⟩
        exact G_iret (st := []) (K := mX4_ahead) dX4_ahead_38 rfl (hQ _ _ (by rw [show opAhead σ a w = _ from (by unfold opAhead; first | exact if_pos c1 | exact (if_neg c1).trans (if_pos c7) | exact (if_neg c1).trans ((if_neg c7).trans (if_pos c11)) | exact (if_neg c1).trans ((if_neg c7).trans ((if_neg c11).trans (if_pos ⟨Int32.not_le.mp c16, bI_0 c29⟩))))]; exact ⟨rfl, hR1⟩))
      · skip
        refine G_iload_n (K := mX4_ahead) (i := 2) dX4_ahead_14 rfl rfl ?_
        refine G_iconst (K := mX4_ahead) (v := 3) dX4_ahead_15 (by decide) ?_
        refine G_icmp_le (K := mX4_ahead) (tgt := 39) dX4_ahead_16 (by decide) (fun c16 => ?_) (fun c16 => ?_)
        · skip
          obtain ⟨k, hk, rfl⟩ := nat_of c1
          have hw4 : ¬ (3 < w ∧ roomB (nOf σ) (w - 4) = false) := by
            first
              | exact fun z => absurd z.1 (Int32.not_lt.mpr c16)
              | exact fun z => by rw [bI_1 c29] at z; exact absurd z.2 (by decide)
          refine G_aload_n (K := mX4_ahead) (i := 0) dX4_ahead_39 rfl rfl ?_
          refine G_getr (K := mX4_ahead) fX4_12 dX4_ahead_40 rfl rfl ?_
          refine G_geti (K := mX4_ahead) fX4_99 dX4_ahead_43 rfl rfl ?_
          rw [hR.hour]
          refine G_iload_n (K := mX4_ahead) (i := 1) dX4_ahead_46 rfl rfl ?_
          have e47 := hR.hour
          refine G_iadd (K := mX4_ahead) dX4_ahead_47 ?_
          refine G_sipush (K := mX4_ahead) (v := 9999) dX4_ahead_48 (by decide) ?_
          refine G_icmp_le (K := mX4_ahead) (tgt := 61) dX4_ahead_51 (by decide) (fun c51 => ?_) (fun c51 => ?_)
          · skip
            refine G_aload_n (K := mX4_ahead) (i := 0) dX4_ahead_61 rfl rfl ?_
            refine G_call0 (K := mX4_ahead) (Q' := fun v M' => v = none ∧ ∃ h', HR h' (hof M 1) 8 ∧ M' = hput M 12 h') (cl_start (fun h' hh' => ⟨rfl, h', hh', rfl⟩)) vX4_startTrial rfl lX4_120 ⟨_, _, _, rfl, rfl, rfl⟩ (by decide) (Nat.le_of_ble_eq_true rfl) dX4_ahead_62 rfl ?_
            rintro v M1 ⟨rfl, h1, hh1, rfl⟩
            have hT : HR h1 σ (nOf σ) := (hh1.le hI.n8).tr hR.1
            refine G_aload_n (K := mX4_ahead) (i := 0) dX4_ahead_65 rfl rfl ?_
            refine G_getr (K := mX4_ahead) fX4_16 dX4_ahead_66 rfl rfl ?_
            refine G_iload_n (K := mX4_ahead) (i := 1) dX4_ahead_69 rfl rfl ?_
            refine G_hrs (K := mX4_ahead) (b := 12) (n := nOf σ) (k := k) (h := σ) (by unfold isH; omega) (HR.hp hT) (hI.nI) hI.n8 (by omega) (hI.wall) lX4_96 dX4_ahead_70 (by decide) (Nat.le_of_ble_eq_true rfl) (fun h2 hh2 => ?_)
            have hRs : RC (hput (hput M 12 h1) 12 h2) σ := (hR.scr (Or.inl rfl)).scr (Or.inl rfl)
            have hN : hof (hput (hput M 12 h1) 12 h2) 12 0 0 = nI (nOf σ) := by rw [hof_hput _ _ 12 0 (by omega), hh2.1 0 (by omega), hoursH_0]; exact hI.nI
            have hX : HR (hof (hput (hput M 12 h1) 12 h2) 12) (hoursH (nOf σ) k σ) (nOf σ) := HR.hp hh2
            refine G_istore_n (K := mX4_ahead) (i := 3) dX4_ahead_73 rfl (by decide) ?_
            refine G_iload_n (K := mX4_ahead) (i := 2) dX4_ahead_74 rfl rfl ?_
            by_cases e75_0 : w = 0
            · refine G_tableIn (K := mX4_ahead) (tgt := 104) dX4_ahead_75 (by rw [e75_0]; decide) (by rw [e75_0]; decide) (by rw [e75_0]; rfl) (by decide) ?_
              refine G_iload_n (K := mX4_ahead) (i := 3) dX4_ahead_104 rfl rfl ?_
              exact G_iret (st := []) (K := mX4_ahead) dX4_ahead_105 rfl (hQ _ _ (by rw [show opAhead σ (nI k) w = (aheadV σ (nI k) w, σ) from (by unfold opAhead; rw [if_neg c1, if_neg (Int32.not_lt.mpr (Int32.not_lt.mp c7)), if_neg c11, if_neg hw4, if_neg (Int32.not_lt.mpr c51)])]; exact ⟨congrArg (fun z => some (Value.int z)) (by unfold aheadV; rw [if_pos e75_0, cut_nI hk]), hRs⟩))
            by_cases e75_1 : w = 1
            · refine G_tableIn (K := mX4_ahead) (tgt := 106) dX4_ahead_75 (by rw [e75_1]; decide) (by rw [e75_1]; decide) (by rw [e75_1]; rfl) (by decide) ?_
              refine G_aload_n (K := mX4_ahead) (i := 0) dX4_ahead_106 rfl rfl ?_
              refine G_getr (K := mX4_ahead) fX4_16 dX4_ahead_107 rfl rfl ?_
              refine G_hp (K := mX4_ahead) (b := 12) (by unfold isH; omega) (c_X0_coldRooms (M := hof (hput (hput M 12 h1) 12 h2) 12) (n := nOf σ) hN hI.n8 ⟨rfl, rfl⟩) vX0_coldRooms rfl lX4_102 dX4_ahead_110 rfl (by decide) rfl (Nat.le_of_ble_eq_true rfl) ?_
              exact G_iret (st := []) (K := mX4_ahead) dX4_ahead_113 rfl (hQ _ _ (by rw [show opAhead σ (nI k) w = (aheadV σ (nI k) w, σ) from (by unfold opAhead; rw [if_neg c1, if_neg (Int32.not_lt.mpr (Int32.not_lt.mp c7)), if_neg c11, if_neg hw4, if_neg (Int32.not_lt.mpr c51)])]; exact ⟨congrArg (fun z => some (Value.int z)) (by unfold aheadV; rw [if_neg e75_0, if_pos e75_1, cut_nI hk]; exact bits_congr _ (fun i hi => by have e := hX.f 2 (by omega) (by omega) hi; rw [e])), hRs⟩))
            by_cases e75_2 : w = 2
            · refine G_tableIn (K := mX4_ahead) (tgt := 114) dX4_ahead_75 (by rw [e75_2]; decide) (by rw [e75_2]; decide) (by rw [e75_2]; rfl) (by decide) ?_
              refine G_aload_n (K := mX4_ahead) (i := 0) dX4_ahead_114 rfl rfl ?_
              refine G_getr (K := mX4_ahead) fX4_16 dX4_ahead_115 rfl rfl ?_
              refine G_aload_n (K := mX4_ahead) (i := 0) dX4_ahead_118 rfl rfl ?_
              refine G_getr (K := mX4_ahead) fX4_16 dX4_ahead_119 rfl rfl ?_
              refine G_getr (K := mX4_ahead) fX4_113 dX4_ahead_122 rfl rfl ?_
              refine G_hp (K := mX4_ahead) (b := 12) (by unfold isH; omega) (c_X0_sumOf (M := hof (hput (hput M 12 h1) 12 h2) 12) (n := nOf σ) (c := 2) (by omega) (by omega) hN hI.n8 ⟨rfl, rfl⟩) vX0_sumOf rfl lX4_109 dX4_ahead_125 rfl (by decide) rfl (Nat.le_of_ble_eq_true rfl) ?_
              exact G_iret (st := []) (K := mX4_ahead) dX4_ahead_128 rfl (hQ _ _ (by rw [show opAhead σ (nI k) w = (aheadV σ (nI k) w, σ) from (by unfold opAhead; rw [if_neg c1, if_neg (Int32.not_lt.mpr (Int32.not_lt.mp c7)), if_neg c11, if_neg hw4, if_neg (Int32.not_lt.mpr c51)])]; exact ⟨congrArg (fun z => some (Value.int z)) (by unfold aheadV; rw [if_neg e75_0, if_neg e75_1, if_pos e75_2, cut_nI hk]; exact sumN_congr _ (fun i hi => hX.f 2 (by omega) (by omega) hi)), hRs⟩))
            by_cases e75_3 : w = 3
            · refine G_tableIn (K := mX4_ahead) (tgt := 129) dX4_ahead_75 (by rw [e75_3]; decide) (by rw [e75_3]; decide) (by rw [e75_3]; rfl) (by decide) ?_
              refine G_aload_n (K := mX4_ahead) (i := 0) dX4_ahead_129 rfl rfl ?_
              refine G_getr (K := mX4_ahead) fX4_16 dX4_ahead_130 rfl rfl ?_
              refine G_hp (K := mX4_ahead) (b := 12) (by unfold isH; omega) (c_X0_leastWarmth (M := hof (hput (hput M 12 h1) 12 h2) 12) (n := nOf σ) hN hI.n8 ⟨rfl, rfl⟩) vX0_leastWarmth rfl lX4_123 dX4_ahead_133 rfl (by decide) rfl (Nat.le_of_ble_eq_true rfl) ?_
              exact G_iret (st := []) (K := mX4_ahead) dX4_ahead_136 rfl (hQ _ _ (by rw [show opAhead σ (nI k) w = (aheadV σ (nI k) w, σ) from (by unfold opAhead; rw [if_neg c1, if_neg (Int32.not_lt.mpr (Int32.not_lt.mp c7)), if_neg c11, if_neg hw4, if_neg (Int32.not_lt.mpr c51)])]; exact ⟨congrArg (fun z => some (Value.int z)) (by unfold aheadV; rw [if_neg e75_0, if_neg e75_1, if_neg e75_2, if_pos e75_3, cut_nI hk]; exact leastN_congr (by have := hI.n8; omega) (fun i hi => hX.f 2 (by omega) (by omega) hi)), hRs⟩))
            have fe75_0 : (w).toInt ≠ 0 := fun h => e75_0 (Int32.toInt_inj.mp (h.trans (by decide)))
            have fe75_1 : (w).toInt ≠ 1 := fun h => e75_1 (Int32.toInt_inj.mp (h.trans (by decide)))
            have fe75_2 : (w).toInt ≠ 2 := fun h => e75_2 (Int32.toInt_inj.mp (h.trans (by decide)))
            have fe75_3 : (w).toInt ≠ 3 := fun h => e75_3 (Int32.toInt_inj.mp (h.trans (by decide)))
            refine G_tableOut (K := mX4_ahead) (tgt := 137) dX4_ahead_75 (by omega) (by decide) ?_
            obtain ⟨j, hj, ej⟩ : ∃ j, j < nOf σ ∧ w - 4 = nI j := by
              have h3 : 3 < w := by
                rw [i32_lt]
                have h11 : ¬ w.toInt < 0 := fun z => c11 (i32_lt.mpr z)
                show (3 : Int) < _
                omega
              refine roomB_t (by have := hI.n8; omega) ?_
              cases hB : roomB (nOf σ) (w - 4) with
              | true => rfl
              | false => exact absurd ⟨h3, hB⟩ hw4
            refine G_aload_n (K := mX4_ahead) (i := 0) dX4_ahead_137 rfl rfl ?_
            refine G_getr (K := mX4_ahead) fX4_16 dX4_ahead_138 rfl rfl ?_
            refine G_getr (K := mX4_ahead) fX4_113 dX4_ahead_141 rfl rfl ?_
            refine G_iload_n (K := mX4_ahead) (i := 2) dX4_ahead_144 rfl rfl ?_
            refine G_iconst (K := mX4_ahead) (v := 4) dX4_ahead_145 (by decide) ?_
            refine G_isub (K := mX4_ahead) dX4_ahead_146 ?_
            refine G_ld (K := mX4_ahead) j dX4_ahead_147 rfl ej (by have := hI.n8; omega) (by decide) ?_
            exact G_iret (st := []) (K := mX4_ahead) dX4_ahead_148 rfl (hQ _ _ (by rw [show opAhead σ (nI k) w = (aheadV σ (nI k) w, σ) from (by unfold opAhead; rw [if_neg c1, if_neg (Int32.not_lt.mpr (Int32.not_lt.mp c7)), if_neg c11, if_neg hw4, if_neg (Int32.not_lt.mpr c51)])]; exact ⟨congrArg (fun z => some (Value.int z)) (by unfold aheadV; rw [if_neg e75_0, if_neg e75_1, if_neg e75_2, if_neg e75_3, cut_nI hk]; rw [ej, cut_nI (by have := hI.n8; omega)]; exact hX.f 2 (by omega) (by omega) hj), hRs⟩))
          · skip
            refine G_aload_n (K := mX4_ahead) (i := 0) dX4_ahead_54 rfl rfl ?_
            refine G_ldc (K := mX4_ahead) dX4_ahead_55 kX4_119 ?_
            refine G_call0 (K := mX4_ahead) (Q' := PostC (tl σ 4)) (cl_tell hR (k := 4) (by omega) (fun _ _ h => h)) vX4_tell rfl lX4_53 ⟨_, _, _, rfl, rfl, rfl⟩ (by decide) (Nat.le_of_ble_eq_true rfl) dX4_ahead_57 rfl ?_
            rintro v M1 ⟨rfl, hR1⟩
            exact G_iret (st := []) (K := mX4_ahead) dX4_ahead_60 rfl (hQ _ _ (by rw [show opAhead σ (nI k) w = _ from (by unfold opAhead; exact (if_neg c1).trans ((if_neg c7).trans ((if_neg c11).trans ((if_neg hw4).trans (if_pos (Int32.not_le.mp c51))))))]; exact ⟨rfl, hR1⟩))
        · skip
          refine G_aload_n (K := mX4_ahead) (i := 0) dX4_ahead_19 rfl rfl ?_
          refine G_getr (K := mX4_ahead) fX4_12 dX4_ahead_20 rfl rfl ?_
          refine G_iload_n (K := mX4_ahead) (i := 2) dX4_ahead_23 rfl rfl ?_
          refine G_iconst (K := mX4_ahead) (v := 4) dX4_ahead_24 (by decide) ?_
          refine G_isub (K := mX4_ahead) dX4_ahead_25 ?_
          refine G_hp (K := mX4_ahead) (b := 1) (by unfold isH; omega) (c_X0_has (M := hof M 1) (r := w - 4) ⟨rfl, rfl⟩) vX0_has rfl lX4_65 dX4_ahead_26 rfl (by decide) rfl (Nat.le_of_ble_eq_true rfl) ?_
          rw [hasI_B (hR.nI hI) hI.n8]
          refine G_if_ne (K := mX4_ahead) (tgt := 39) dX4_ahead_29 (by decide) (fun c29 => ?_) (fun c29 => ?_)
          · skip
            obtain ⟨k, hk, rfl⟩ := nat_of c1
            have hw4 : ¬ (3 < w ∧ roomB (nOf σ) (w - 4) = false) := by
              first
                | exact fun z => absurd z.1 (Int32.not_lt.mpr c16)
                | exact fun z => by rw [bI_1 c29] at z; exact absurd z.2 (by decide)
            refine G_aload_n (K := mX4_ahead) (i := 0) dX4_ahead_39 rfl rfl ?_
            refine G_getr (K := mX4_ahead) fX4_12 dX4_ahead_40 rfl rfl ?_
            refine G_geti (K := mX4_ahead) fX4_99 dX4_ahead_43 rfl rfl ?_
            rw [hR.hour]
            refine G_iload_n (K := mX4_ahead) (i := 1) dX4_ahead_46 rfl rfl ?_
            have e47 := hR.hour
            refine G_iadd (K := mX4_ahead) dX4_ahead_47 ?_
            refine G_sipush (K := mX4_ahead) (v := 9999) dX4_ahead_48 (by decide) ?_
            refine G_icmp_le (K := mX4_ahead) (tgt := 61) dX4_ahead_51 (by decide) (fun c51 => ?_) (fun c51 => ?_)
            · skip
              refine G_aload_n (K := mX4_ahead) (i := 0) dX4_ahead_61 rfl rfl ?_
              refine G_call0 (K := mX4_ahead) (Q' := fun v M' => v = none ∧ ∃ h', HR h' (hof M 1) 8 ∧ M' = hput M 12 h') (cl_start (fun h' hh' => ⟨rfl, h', hh', rfl⟩)) vX4_startTrial rfl lX4_120 ⟨_, _, _, rfl, rfl, rfl⟩ (by decide) (Nat.le_of_ble_eq_true rfl) dX4_ahead_62 rfl ?_
              rintro v M1 ⟨rfl, h1, hh1, rfl⟩
              have hT : HR h1 σ (nOf σ) := (hh1.le hI.n8).tr hR.1
              refine G_aload_n (K := mX4_ahead) (i := 0) dX4_ahead_65 rfl rfl ?_
              refine G_getr (K := mX4_ahead) fX4_16 dX4_ahead_66 rfl rfl ?_
              refine G_iload_n (K := mX4_ahead) (i := 1) dX4_ahead_69 rfl rfl ?_
              refine G_hrs (K := mX4_ahead) (b := 12) (n := nOf σ) (k := k) (h := σ) (by unfold isH; omega) (HR.hp hT) (hI.nI) hI.n8 (by omega) (hI.wall) lX4_96 dX4_ahead_70 (by decide) (Nat.le_of_ble_eq_true rfl) (fun h2 hh2 => ?_)
              have hRs : RC (hput (hput M 12 h1) 12 h2) σ := (hR.scr (Or.inl rfl)).scr (Or.inl rfl)
              have hN : hof (hput (hput M 12 h1) 12 h2) 12 0 0 = nI (nOf σ) := by rw [hof_hput _ _ 12 0 (by omega), hh2.1 0 (by omega), hoursH_0]; exact hI.nI
              have hX : HR (hof (hput (hput M 12 h1) 12 h2) 12) (hoursH (nOf σ) k σ) (nOf σ) := HR.hp hh2
              refine G_istore_n (K := mX4_ahead) (i := 3) dX4_ahead_73 rfl (by decide) ?_
              refine G_iload_n (K := mX4_ahead) (i := 2) dX4_ahead_74 rfl rfl ?_
              by_cases e75_0 : w = 0
              · refine G_tableIn (K := mX4_ahead) (tgt := 104) dX4_ahead_75 (by rw [e75_0]; decide) (by rw [e75_0]; decide) (by rw [e75_0]; rfl) (by decide) ?_
                refine G_iload_n (K := mX4_ahead) (i := 3) dX4_ahead_104 rfl rfl ?_
                exact G_iret (st := []) (K := mX4_ahead) dX4_ahead_105 rfl (hQ _ _ (by rw [show opAhead σ (nI k) w = (aheadV σ (nI k) w, σ) from (by unfold opAhead; rw [if_neg c1, if_neg (Int32.not_lt.mpr (Int32.not_lt.mp c7)), if_neg c11, if_neg hw4, if_neg (Int32.not_lt.mpr c51)])]; exact ⟨congrArg (fun z => some (Value.int z)) (by unfold aheadV; rw [if_pos e75_0, cut_nI hk]), hRs⟩))
              by_cases e75_1 : w = 1
              · refine G_tableIn (K := mX4_ahead) (tgt := 106) dX4_ahead_75 (by rw [e75_1]; decide) (by rw [e75_1]; decide) (by rw [e75_1]; rfl) (by decide) ?_
                refine G_aload_n (K := mX4_ahead) (i := 0) dX4_ahead_106 rfl rfl ?_
                refine G_getr (K := mX4_ahead) fX4_16 dX4_ahead_107 rfl rfl ?_
                refine G_hp (K := mX4_ahead) (b := 12) (by unfold isH; omega) (c_X0_coldRooms (M := hof (hput (hput M 12 h1) 12 h2) 12) (n := nOf σ) hN hI.n8 ⟨rfl, rfl⟩) vX0_coldRooms rfl lX4_102 dX4_ahead_110 rfl (by decide) rfl (Nat.le_of_ble_eq_true rfl) ?_
                exact G_iret (st := []) (K := mX4_ahead) dX4_ahead_113 rfl (hQ _ _ (by rw [show opAhead σ (nI k) w = (aheadV σ (nI k) w, σ) from (by unfold opAhead; rw [if_neg c1, if_neg (Int32.not_lt.mpr (Int32.not_lt.mp c7)), if_neg c11, if_neg hw4, if_neg (Int32.not_lt.mpr c51)])]; exact ⟨congrArg (fun z => some (Value.int z)) (by unfold aheadV; rw [if_neg e75_0, if_pos e75_1, cut_nI hk]; exact bits_congr _ (fun i hi => by have e := hX.f 2 (by omega) (by omega) hi; rw [e])), hRs⟩))
              by_cases e75_2 : w = 2
              · refine G_tableIn (K := mX4_ahead) (tgt := 114) dX4_ahead_75 (by rw [e75_2]; decide) (by rw [e75_2]; decide) (by rw [e75_2]; rfl) (by decide) ?_
                refine G_aload_n (K := mX4_ahead) (i := 0) dX4_ahead_114 rfl rfl ?_
                refine G_getr (K := mX4_ahead) fX4_16 dX4_ahead_115 rfl rfl ?_
                refine G_aload_n (K := mX4_ahead) (i := 0) dX4_ahead_118 rfl rfl ?_
                refine G_getr (K := mX4_ahead) fX4_16 dX4_ahead_119 rfl rfl ?_
                refine G_getr (K := mX4_ahead) fX4_113 dX4_ahead_122 rfl rfl ?_
                refine G_hp (K := mX4_ahead) (b := 12) (by unfold isH; omega) (c_X0_sumOf (M := hof (hput (hput M 12 h1) 12 h2) 12) (n := nOf σ) (c := 2) (by omega) (by omega) hN hI.n8 ⟨rfl, rfl⟩) vX0_sumOf rfl lX4_109 dX4_ahead_125 rfl (by decide) rfl (Nat.le_of_ble_eq_true rfl) ?_
                exact G_iret (st := []) (K := mX4_ahead) dX4_ahead_128 rfl (hQ _ _ (by rw [show opAhead σ (nI k) w = (aheadV σ (nI k) w, σ) from (by unfold opAhead; rw [if_neg c1, if_neg (Int32.not_lt.mpr (Int32.not_lt.mp c7)), if_neg c11, if_neg hw4, if_neg (Int32.not_lt.mpr c51)])]; exact ⟨congrArg (fun z => some (Value.int z)) (by unfold aheadV; rw [if_neg e75_0, if_neg e75_1, if_pos e75_2, cut_nI hk]; exact sumN_congr _ (fun i hi => hX.f 2 (by omega) (by omega) hi)), hRs⟩))
              by_cases e75_3 : w = 3
              · refine G_tableIn (K := mX4_ahead) (tgt := 129) dX4_ahead_75 (by rw [e75_3]; decide) (by rw [e75_3]; decide) (by rw [e75_3]; rfl) (by decide) ?_
                refine G_aload_n (K := mX4_ahead) (i := 0) dX4_ahead_129 rfl rfl ?_
                refine G_getr (K := mX4_ahead) fX4_16 dX4_ahead_130 rfl rfl ?_
                refine G_hp (K := mX4_ahead) (b := 12) (by unfold isH; omega) (c_X0_leastWarmth (M := hof (hput (hput M 12 h1) 12 h2) 12) (n := nOf σ) hN hI.n8 ⟨rfl, rfl⟩) vX0_leastWarmth rfl lX4_123 dX4_ahead_133 rfl (by decide) rfl (Nat.le_of_ble_eq_true rfl) ?_
                exact G_iret (st := []) (K := mX4_ahead) dX4_ahead_136 rfl (hQ _ _ (by rw [show opAhead σ (nI k) w = (aheadV σ (nI k) w, σ) from (by unfold opAhead; rw [if_neg c1, if_neg (Int32.not_lt.mpr (Int32.not_lt.mp c7)), if_neg c11, if_neg hw4, if_neg (Int32.not_lt.mpr c51)])]; exact ⟨congrArg (fun z => some (Value.int z)) (by unfold aheadV; rw [if_neg e75_0, if_neg e75_1, if_neg e75_2, if_pos e75_3, cut_nI hk]; exact leastN_congr (by have := hI.n8; omega) (fun i hi => hX.f 2 (by omega) (by omega) hi)), hRs⟩))
              have fe75_0 : (w).toInt ≠ 0 := fun h => e75_0 (Int32.toInt_inj.mp (h.trans (by decide)))
              have fe75_1 : (w).toInt ≠ 1 := fun h => e75_1 (Int32.toInt_inj.mp (h.trans (by decide)))
              have fe75_2 : (w).toInt ≠ 2 := fun h => e75_2 (Int32.toInt_inj.mp (h.trans (by decide)))
              have fe75_3 : (w).toInt ≠ 3 := fun h => e75_3 (Int32.toInt_inj.mp (h.trans (by decide)))
              refine G_tableOut (K := mX4_ahead) (tgt := 137) dX4_ahead_75 (by omega) (by decide) ?_
              obtain ⟨j, hj, ej⟩ : ∃ j, j < nOf σ ∧ w - 4 = nI j := by
                have h3 : 3 < w := by
                  rw [i32_lt]
                  have h11 : ¬ w.toInt < 0 := fun z => c11 (i32_lt.mpr z)
                  show (3 : Int) < _
                  omega
                refine roomB_t (by have := hI.n8; omega) ?_
                cases hB : roomB (nOf σ) (w - 4) with
                | true => rfl
                | false => exact absurd ⟨h3, hB⟩ hw4
              refine G_aload_n (K := mX4_ahead) (i := 0) dX4_ahead_137 rfl rfl ?_
              refine G_getr (K := mX4_ahead) fX4_16 dX4_ahead_138 rfl rfl ?_
              refine G_getr (K := mX4_ahead) fX4_113 dX4_ahead_141 rfl rfl ?_
              refine G_iload_n (K := mX4_ahead) (i := 2) dX4_ahead_144 rfl rfl ?_
              refine G_iconst (K := mX4_ahead) (v := 4) dX4_ahead_145 (by decide) ?_
              refine G_isub (K := mX4_ahead) dX4_ahead_146 ?_
              refine G_ld (K := mX4_ahead) j dX4_ahead_147 rfl ej (by have := hI.n8; omega) (by decide) ?_
              exact G_iret (st := []) (K := mX4_ahead) dX4_ahead_148 rfl (hQ _ _ (by rw [show opAhead σ (nI k) w = (aheadV σ (nI k) w, σ) from (by unfold opAhead; rw [if_neg c1, if_neg (Int32.not_lt.mpr (Int32.not_lt.mp c7)), if_neg c11, if_neg hw4, if_neg (Int32.not_lt.mpr c51)])]; exact ⟨congrArg (fun z => some (Value.int z)) (by unfold aheadV; rw [if_neg e75_0, if_neg e75_1, if_neg e75_2, if_neg e75_3, cut_nI hk]; rw [ej, cut_nI (by have := hI.n8; omega)]; exact hX.f 2 (by omega) (by omega) hj), hRs⟩))
            · skip
              refine G_aload_n (K := mX4_ahead) (i := 0) dX4_ahead_54 rfl rfl ?_
              refine G_ldc (K := mX4_ahead) dX4_ahead_55 kX4_119 ?_
              refine G_call0 (K := mX4_ahead) (Q' := PostC (tl σ 4)) (cl_tell hR (k := 4) (by omega) (fun _ _ h => h)) vX4_tell rfl lX4_53 ⟨_, _, _, rfl, rfl, rfl⟩ (by decide) (Nat.le_of_ble_eq_true rfl) dX4_ahead_57 rfl ?_
              rintro v M1 ⟨rfl, hR1⟩
              exact G_iret (st := []) (K := mX4_ahead) dX4_ahead_60 rfl (hQ _ _ (by rw [show opAhead σ (nI k) w = _ from (by unfold opAhead; exact (if_neg c1).trans ((if_neg c7).trans ((if_neg c11).trans ((if_neg hw4).trans (if_pos (Int32.not_le.mp c51))))))]; exact ⟨rfl, hR1⟩))
          · skip
            refine G_aload_n (K := mX4_ahead) (i := 0) dX4_ahead_32 rfl rfl ?_
            refine G_ldc (K := mX4_ahead) dX4_ahead_33 kX4_52 ?_
            refine G_call0 (K := mX4_ahead) (Q' := PostC (tl σ 0)) (cl_tell hR (k := 0) (by omega) (fun _ _ h => h)) vX4_tell rfl lX4_53 ⟨_, _, _, rfl, rfl, rfl⟩ (by decide) (Nat.le_of_ble_eq_true rfl) dX4_ahead_35 rfl ?_
            rintro v M1 ⟨rfl, hR1⟩
            exact G_iret (st := []) (K := mX4_ahead) dX4_ahead_38 rfl (hQ _ _ (by rw [show opAhead σ a w = _ from (by unfold opAhead; first | exact if_pos c1 | exact (if_neg c1).trans (if_pos c7) | exact (if_neg c1).trans ((if_neg c7).trans (if_pos c11)) | exact (if_neg c1).trans ((if_neg c7).trans ((if_neg c11).trans (if_pos ⟨Int32.not_le.mp c16, bI_0 c29⟩))))]; exact ⟨rfl, hR1⟩))
