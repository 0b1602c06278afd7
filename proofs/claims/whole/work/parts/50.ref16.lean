theorem within_i {w : Int32} {m : Nat} (hm : m < 2147483647) (h : ¬ bI (decide (0 ≤ w ∧ w ≤ nI m)) = 0) : ∃ q, q < m + 1 ∧ w = nI q := by
  obtain ⟨h1, h2⟩ := within_2 h
  refine roomB_t (by omega) (decide_eq_true ?_)
  rw [i32_lt] at h1 h2
  rw [nI_toI (by omega)] at h2
  have e0 : (0 : Int32).toInt = 0 := rfl
  omega
theorem within_o {w : Int32} {m : Nat} (hm : m < 2147483647) (h : bI (decide (0 ≤ w ∧ w ≤ nI m)) = 0) : ¬ roomB (m + 1) w = true := fun z => by
  obtain ⟨q, hq, rfl⟩ := roomB_t (by omega) z
  rcases within_3 h with h1 | ⟨-, h1⟩
  · exact absurd h1 (nI_pos (by omega))
  · rw [i32_lt, nI_toI (by omega), nI_toI (by omega)] at h1
    omega
theorem nI_eq8 {n : Nat} (hn : n ≤ 8) : nI n = 8 ↔ n = 8 := by
  refine ⟨fun h => ?_, fun h => by rw [h]; rfl⟩
  have h2 := congrArg Int32.toNatClampNeg h
  rw [nI_clamp (by omega)] at h2
  exact h2.trans (by decide)
set_option maxRecDepth 20000 in
theorem rf_room {M σ : Mem} {a : Int32} (hR : RR M σ) (hI : Inv σ) {Q : Option Value → Mem → Prop} (hQ : ∀ u' M', PostR (opRoom σ a) u' M' → Q u' M') : CT mX5_room shR 8 [.ref 0, .int a] M Q := by
  refine CT.mk [some (.ref 0), some (.int a)] (by decide) (Nat.le_of_ble_eq_true rfl) rfl rfl ?_
  refine G_iload_n (K := mX5_room) (i := 1) dX5_room_0 rfl rfl ?_
  refine G_sv (K := mX5_room) (c_X5_isKind (x := a) ⟨rfl, rfl⟩) sX5_isKind rfl lX5_105 dX5_room_1 (by decide) rfl (Nat.le_of_ble_eq_true rfl) ?_
  refine G_if_ne (K := mX5_room) (tgt := 14) dX5_room_4 (by decide) (fun c4 => ?_) (fun c4 => ?_)
  · skip
    obtain ⟨kk1, kk2⟩ := within_2 c4
    refine G_aload_n (K := mX5_room) (i := 0) dX5_room_14 rfl rfl ?_
    refine G_getr (K := mX5_room) fX5_9 dX5_room_15 rfl rfl ?_
    refine G_iconst (K := mX5_room) (v := 2) dX5_room_18 (by decide) ?_
    refine G_ld (K := mX5_room) 2 dX5_room_19 rfl rfl (by omega) (by decide) ?_
    rw [hR.n hI]
    refine G_bipush (K := mX5_room) (v := 8) dX5_room_20 (by decide) ?_
    refine G_icmp_ne (K := mX5_room) (tgt := 34) dX5_room_22 (by decide) (fun c22 => ?_) (fun c22 => ?_)
    · skip
      have h8 : nOf σ < 8 := by
        have h := hI.n8
        have h2 : nOf σ ≠ 8 := fun z => c22 ((nI_eq8 h).mpr z)
        omega
      refine G_aload_n (K := mX5_room) (i := 0) dX5_room_34 rfl rfl ?_
      refine G_iload_n (K := mX5_room) (i := 1) dX5_room_35 rfl rfl ?_
      refine G_call0 (K := mX5_room)  (Q' := fun v Mz => v = some (.int (nI (nOf σ))) ∧ toH (Mz 1) = addH (toH (M 1)) a (nOf σ) ∧ ∀ c, c ≠ 1 → Mz c = M c) (c_X5_comes (k := a) (n := nOf σ) (hR.n hI) h8 (fun Mz h1 h2 => ⟨rfl, h1, h2⟩)) vX5_comes rfl lX5_114 ⟨_, _, _, rfl, rfl, rfl⟩ (by decide) (Nat.le_of_ble_eq_true rfl) dX5_room_36 rfl ?_
      rintro v M2 ⟨rfl, h21, h22⟩
      exact G_iret (st := []) (K := mX5_room) dX5_room_39 rfl (hQ _ _ (by
        rw [show opRoom σ a = _ from (if_neg kk1).trans ((if_neg kk2).trans (if_neg (by omega)))]
        have hn2 : nOf (addH σ a (nOf σ)) = nOf σ + 1 := by
          show cut (σ 0 0 + 1) = _
          rw [hI.nI, nI_1, cut_nI (by omega)]
        exact ⟨rfl, hR.house (fun c hc => addH_out (by omega)) (by rw [hn2, h21]; exact HR.addH hR.1 hI.nI h8) (fun c hc => h22 c (by unfold solid at hc; omega)) (congrFun (h22 0 (by omega)) 3) (congrFun (h22 0 (by omega)) 19)⟩))
    · skip
      have h8 : nOf σ = 8 := (nI_eq8 hI.n8).mp c22
      refine G_aload_n (K := mX5_room) (i := 0) dX5_room_25 rfl rfl ?_
      refine G_ldc (K := mX5_room) dX5_room_26 kX5_113 ?_
      refine G_call0 (K := mX5_room) (Q' := PostR (tl σ 1)) (rf_finding hR (k := 1) (by omega) (fun _ _ h => h)) vX5_finding rfl lX5_109 ⟨_, _, _, rfl, rfl, rfl⟩ (by decide) (Nat.le_of_ble_eq_true rfl) dX5_room_28 rfl ?_
      rintro v M1 ⟨rfl, hR1⟩
      refine G_goto (K := mX5_room) (tgt := 39) dX5_room_31 (by decide) ?_
      exact G_iret (st := []) (K := mX5_room) dX5_room_39 rfl (hQ _ _ (by rw [show opRoom σ a = _ from (by unfold opRoom; exact (if_neg kk1).trans ((if_neg kk2).trans (if_pos h8)))]; exact ⟨rfl, hR1⟩))
  · skip
    refine G_aload_n (K := mX5_room) (i := 0) dX5_room_7 rfl rfl ?_
    refine G_ldc (K := mX5_room) dX5_room_8 kX5_92 ?_
    refine G_call0 (K := mX5_room) (Q' := PostR (tl σ 0)) (rf_finding hR (k := 0) (by omega) (fun _ _ h => h)) vX5_finding rfl lX5_109 ⟨_, _, _, rfl, rfl, rfl⟩ (by decide) (Nat.le_of_ble_eq_true rfl) dX5_room_10 rfl ?_
    rintro v M1 ⟨rfl, hR1⟩
    exact G_iret (st := []) (K := mX5_room) dX5_room_13 rfl (hQ _ _ (by rw [show opRoom σ a = _ from (by unfold opRoom; exact ((within_3 c4).elim (fun h => if_pos h) (fun h => (if_neg h.1).trans (if_pos h.2))))]; exact ⟨rfl, hR1⟩))

set_option maxRecDepth 20000 in
theorem rf_of {M σ : Mem} {r w : Int32} (hR : RR M σ) (hI : Inv σ) {Q : Option Value → Mem → Prop} (hQ : ∀ u' M', PostR (opOf σ r w) u' M' → Q u' M') : CT mX5_of shR 8 [.ref 0, .int r, .int w] M Q := by
  refine CT.mk [some (.ref 0), some (.int r), some (.int w)] (by decide) (Nat.le_of_ble_eq_true rfl) rfl rfl ?_
  refine G_aload_n (K := mX5_of) (i := 0) dX5_of_0 rfl rfl ?_
  refine G_iload_n (K := mX5_of) (i := 1) dX5_of_1 rfl rfl ?_
  refine G_cv (K := mX5_of) (c_X5_isRoom (r := r) (n := nOf σ) (hR.n hI) hI.n8 ⟨rfl, rfl⟩) vX5_isRoom rfl lX5_128 dX5_of_2 ⟨_, _, _, rfl, rfl, rfl⟩ (by decide) rfl (Nat.le_of_ble_eq_true rfl) ?_
  refine G_if_eq (K := mX5_of) (tgt := 18) dX5_of_5 (by decide) (fun c5 => ?_) (fun c5 => ?_)
  · skip
    refine G_aload_n (K := mX5_of) (i := 0) dX5_of_18 rfl rfl ?_
    refine G_ldc (K := mX5_of) dX5_of_19 kX5_92 ?_
    refine G_call0 (K := mX5_of) (Q' := PostR (tl σ 0)) (rf_finding hR (k := 0) (by omega) (fun _ _ h => h)) vX5_finding rfl lX5_109 ⟨_, _, _, rfl, rfl, rfl⟩ (by decide) (Nat.le_of_ble_eq_true rfl) dX5_of_21 rfl ?_
    rintro v M1 ⟨rfl, hR1⟩
    exact G_iret (st := []) (K := mX5_of) dX5_of_24 rfl (hQ _ _ (by rw [show opOf σ r w = _ from (by unfold opOf; exact if_neg (by rw [bI_0 c5]; decide))]; exact ⟨rfl, hR1⟩))
  · skip
    obtain ⟨k, hk, rfl⟩ := roomB_t (by have := hI.n8; omega) (bI_1 c5)
    refine G_iload_n (K := mX5_of) (i := 2) dX5_of_8 rfl rfl ?_
    refine G_iconst (K := mX5_of) (v := 0) dX5_of_9 (by decide) ?_
    refine G_bipush (K := mX5_of) (v := 9) dX5_of_10 (by decide) ?_
    refine G_sv (K := mX5_of) (c_X5_within (v := w) (a := 0) (b := nI 9) ⟨rfl, rfl⟩) sX5_within rfl lX5_97 dX5_of_12 (by decide) rfl (Nat.le_of_ble_eq_true rfl) ?_
    refine G_if_ne (K := mX5_of) (tgt := 25) dX5_of_15 (by decide) (fun c15 => ?_) (fun c15 => ?_)
    · skip
      refine G_iload_n (K := mX5_of) (i := 2) dX5_of_25 rfl rfl ?_
      refine G_bipush (K := mX5_of) (v := 9) dX5_of_26 (by decide) ?_
      refine G_icmp_ne (K := mX5_of) (tgt := 39) dX5_of_28 (by decide) (fun c28 => ?_) (fun c28 => ?_)
      · skip
        obtain ⟨j, hj, rfl⟩ : ∃ j, j < 9 ∧ w = nI j := by
          obtain ⟨j, hj, rfl⟩ := within_i (by decide) c15
          have h9 : j ≠ 9 := fun z => c28 (by rw [z]; rfl)
          exact ⟨j, by omega, rfl⟩
        refine G_aload_n (K := mX5_of) (i := 0) dX5_of_39 rfl rfl ?_
        refine G_iload_n (K := mX5_of) (i := 1) dX5_of_40 rfl rfl ?_
        refine G_iload_n (K := mX5_of) (i := 2) dX5_of_41 rfl rfl ?_
        refine G_cv (K := mX5_of) (c_X5_roomIs (M := M) (i := k) (f := j) (by have := hI.n8; omega) (by omega) ⟨rfl, rfl⟩) vX5_roomIs rfl lX5_120 dX5_of_42 ⟨_, _, _, rfl, rfl, rfl⟩ (by decide) rfl (Nat.le_of_ble_eq_true rfl) ?_
        exact G_iret (st := []) (K := mX5_of) dX5_of_45 rfl (hQ _ _ (by rw [show opOf σ (nI k) (nI j) = (σ (1 + cut (nI j)) (cut (nI k)), σ) from (if_pos (bI_1 c5)).trans ((if_neg c28).trans (if_pos (roomB_nI (by decide) hj))), cut_nI (by omega), cut_nI (by have := hI.n8; omega)]; exact ⟨congrArg (fun z => some (Value.int z)) (hR.1.f (1 + j) (by omega) (by omega) hk), hR⟩))
      · skip
        refine G_aload_n (K := mX5_of) (i := 0) dX5_of_31 rfl rfl ?_
        refine G_iload_n (K := mX5_of) (i := 1) dX5_of_32 rfl rfl ?_
        refine G_cv (K := mX5_of) (c_X5_wants (M := M) (i := k) (by have := hI.n8; omega) ⟨rfl, rfl⟩) vX5_wants rfl lX5_131 dX5_of_33 ⟨_, _, _, rfl, rfl, rfl⟩ (by decide) rfl (Nat.le_of_ble_eq_true rfl) ?_
        refine G_goto (K := mX5_of) (tgt := 45) dX5_of_36 (by decide) ?_
        rw [wantsH_congr hR.1 hk]
        exact G_iret (st := []) (K := mX5_of) dX5_of_45 rfl (hQ _ _ (by rw [show opOf σ (nI k) w = (wantsH σ (cut (nI k)), σ) from (if_pos (bI_1 c5)).trans (if_pos c28), cut_nI (by have := hI.n8; omega)]; exact ⟨rfl, hR⟩))
    · skip
      refine G_aload_n (K := mX5_of) (i := 0) dX5_of_18 rfl rfl ?_
      refine G_ldc (K := mX5_of) dX5_of_19 kX5_92 ?_
      refine G_call0 (K := mX5_of) (Q' := PostR (tl σ 0)) (rf_finding hR (k := 0) (by omega) (fun _ _ h => h)) vX5_finding rfl lX5_109 ⟨_, _, _, rfl, rfl, rfl⟩ (by decide) (Nat.le_of_ble_eq_true rfl) dX5_of_21 rfl ?_
      rintro v M1 ⟨rfl, hR1⟩
      exact G_iret (st := []) (K := mX5_of) dX5_of_24 rfl (hQ _ _ (by rw [show opOf σ (nI k) w = _ from (by unfold opOf; exact (if_pos (bI_1 c5)).trans ((if_neg (fun z => by rw [z] at c15; revert c15; decide)).trans (if_neg (fun z => by obtain ⟨q, hq, rfl⟩ := roomB_t (n := 9) (by decide) z; exact within_o (m := 9) (by decide) c15 (roomB_nI (by decide) (by omega))))))]; exact ⟨rfl, hR1⟩))

set_option maxRecDepth 20000 in
theorem rf_out {M σ : Mem} {v : Int32} (hR : RR M σ) (hI : Inv σ) {Q : Option Value → Mem → Prop} (hQ : ∀ u' M', PostR (opOut σ v) u' M' → Q u' M') : CT mX5_out shR 8 [.ref 0, .int v] M Q := by
  refine CT.mk [some (.ref 0), some (.int v)] (by decide) (Nat.le_of_ble_eq_true rfl) rfl rfl ?_
  refine G_iload_n (K := mX5_out) (i := 1) dX5_out_0 rfl rfl ?_
  refine G_iconst (K := mX5_out) (v := 0) dX5_out_1 (by decide) ?_
  refine G_bipush (K := mX5_out) (v := 100) dX5_out_2 (by decide) ?_
  refine G_sv (K := mX5_out) (c_X5_within (v := v) (a := 0) (b := 100) ⟨rfl, rfl⟩) sX5_within rfl lX5_97 dX5_out_4 (by decide) rfl (Nat.le_of_ble_eq_true rfl) ?_
  refine G_if_eq (K := mX5_out) (tgt := 19) dX5_out_7 (by decide) (fun c7 => ?_) (fun c7 => ?_)
  · skip
    refine G_aload_n (K := mX5_out) (i := 0) dX5_out_19 rfl rfl ?_
    refine G_ldc (K := mX5_out) dX5_out_20 kX5_92 ?_
    refine G_call0 (K := mX5_out) (Q' := PostR (tl σ 0)) (rf_finding hR (k := 0) (by omega) (fun _ _ h => h)) vX5_finding rfl lX5_109 ⟨_, _, _, rfl, rfl, rfl⟩ (by decide) (Nat.le_of_ble_eq_true rfl) dX5_out_22 rfl ?_
    rintro v M1 ⟨rfl, hR1⟩
    exact G_iret (st := []) (K := mX5_out) dX5_out_25 rfl (hQ _ _ (by rw [show opOut σ v = _ from (by unfold opOut; exact ((within_3 c7).elim (fun h => if_pos h) (fun h => (if_neg h.1).trans (if_pos h.2))))]; exact ⟨rfl, hR1⟩))
  · skip
    obtain ⟨kk1, kk2⟩ := within_2 c7
    refine G_aload_n (K := mX5_out) (i := 0) dX5_out_10 rfl rfl ?_
    refine G_iconst (K := mX5_out) (v := 1) dX5_out_11 (by decide) ?_
    refine G_iload_n (K := mX5_out) (i := 1) dX5_out_12 rfl rfl ?_
    refine G_cv (K := mX5_out) (c_X5_become (M := M) (k := 1) (v := v) (by omega) ⟨rfl, rfl⟩) vX5_become rfl lX5_134 dX5_out_13 ⟨_, _, _, rfl, rfl, rfl⟩ (by decide) rfl (Nat.le_of_ble_eq_true rfl) ?_
    refine G_goto (K := mX5_out) (tgt := 25) dX5_out_16 (by decide) ?_
    exact G_iret (st := []) (K := mX5_out) dX5_out_25 rfl (hQ _ _ (by rw [show opOut σ v = (σ 0 1, ups σ 0 1 v) from (if_neg kk1).trans (if_neg kk2)]; exact ⟨congrArg (fun z => some (Value.int z)) hR.out, hR.house (fun c hc => ups_cell (by omega)) (by rw [nOf_ups0 (by decide), toH_s 1 1 (by omega)]; exact HR.out hR.1) (fun c hc => ups_cell (by unfold solid at hc; omega)) (by rw [ups_cell (by decide)]) (by rw [ups_cell (by decide)])⟩))

set_option maxRecDepth 20000 in
theorem rf_heaters {M σ : Mem} {r : Int32} (hR : RR M σ) (hI : Inv σ) {Q : Option Value → Mem → Prop} (hQ : ∀ u' M', PostR (opHeaters σ r) u' M' → Q u' M') : CT mX5_heaters shR 8 [.ref 0, .int r] M Q := by
  refine CT.mk [some (.ref 0), some (.int r)] (by decide) (Nat.le_of_ble_eq_true rfl) rfl rfl ?_
  refine G_aload_n (K := mX5_heaters) (i := 0) dX5_heaters_0 rfl rfl ?_
  refine G_iload_n (K := mX5_heaters) (i := 1) dX5_heaters_1 rfl rfl ?_
  refine G_cv (K := mX5_heaters) (c_X5_isRoom (r := r) (n := nOf σ) (hR.n hI) hI.n8 ⟨rfl, rfl⟩) vX5_isRoom rfl lX5_128 dX5_heaters_2 ⟨_, _, _, rfl, rfl, rfl⟩ (by decide) rfl (Nat.le_of_ble_eq_true rfl) ?_
  refine G_if_eq (K := mX5_heaters) (tgt := 16) dX5_heaters_5 (by decide) (fun c5 => ?_) (fun c5 => ?_)
  · skip
    refine G_aload_n (K := mX5_heaters) (i := 0) dX5_heaters_16 rfl rfl ?_
    refine G_ldc (K := mX5_heaters) dX5_heaters_17 kX5_92 ?_
    refine G_call0 (K := mX5_heaters) (Q' := PostR (tl σ 0)) (rf_finding hR (k := 0) (by omega) (fun _ _ h => h)) vX5_finding rfl lX5_109 ⟨_, _, _, rfl, rfl, rfl⟩ (by decide) (Nat.le_of_ble_eq_true rfl) dX5_heaters_19 rfl ?_
    rintro v M1 ⟨rfl, hR1⟩
    exact G_iret (st := []) (K := mX5_heaters) dX5_heaters_22 rfl (hQ _ _ (by rw [show opHeaters σ r = _ from (by unfold opHeaters; exact if_neg (by rw [bI_0 c5]; decide))]; exact ⟨rfl, hR1⟩))
  · skip
    refine G_aload_n (K := mX5_heaters) (i := 0) dX5_heaters_8 rfl rfl ?_
    refine G_iload_n (K := mX5_heaters) (i := 1) dX5_heaters_9 rfl rfl ?_
    refine G_cv (K := mX5_heaters) (c_X5_heatersOf (M := M) (r := r) (n := nOf σ) (hR.n hI) hI.n8 ⟨rfl, rfl⟩) vX5_heatersOf rfl lX5_137 dX5_heaters_10 ⟨_, _, _, rfl, rfl, rfl⟩ (by decide) rfl (Nat.le_of_ble_eq_true rfl) ?_
    refine G_goto (K := mX5_heaters) (tgt := 22) dX5_heaters_13 (by decide) ?_
    exact G_iret (st := []) (K := mX5_heaters) dX5_heaters_22 rfl (hQ _ _ (by rw [show opHeaters σ r = _ from if_pos (bI_1 c5)]; exact ⟨congrArg (fun z => some (Value.int z)) (bits_congr _ (fun i hi => by rw [hR.1.f 5 (by omega) (by omega) hi])), hR⟩))

set_option maxRecDepth 20000 in
theorem rf_move {M σ : Mem} {a b : Int32} (hR : RR M σ) (hI : Inv σ) {Q : Option Value → Mem → Prop} (hQ : ∀ u' M', PostR (opMove σ a b) u' M' → Q u' M') : CT mX5_move shR 8 [.ref 0, .int a, .int b] M Q := by
  refine CT.mk [some (.ref 0), some (.int a), some (.int b)] (by decide) (Nat.le_of_ble_eq_true rfl) rfl rfl ?_
  refine G_aload_n (K := mX5_move) (i := 0) dX5_move_0 rfl rfl ?_
  refine G_iload_n (K := mX5_move) (i := 1) dX5_move_1 rfl rfl ?_
  refine G_cv (K := mX5_move) (c_X5_isRoom (r := a) (n := nOf σ) (hR.n hI) hI.n8 ⟨rfl, rfl⟩) vX5_isRoom rfl lX5_128 dX5_move_2 ⟨_, _, _, rfl, rfl, rfl⟩ (by decide) rfl (Nat.le_of_ble_eq_true rfl) ?_
  refine G_if_eq (K := mX5_move) (tgt := 25) dX5_move_5 (by decide) (fun c5 => ?_) (fun c5 => ?_)
  · skip
    refine G_aload_n (K := mX5_move) (i := 0) dX5_move_25 rfl rfl ?_
    refine G_ldc (K := mX5_move) dX5_move_26 kX5_92 ?_
    refine G_call0 (K := mX5_move) (Q' := PostR (tl σ 0)) (rf_finding hR (k := 0) (by omega) (fun _ _ h => h)) vX5_finding rfl lX5_109 ⟨_, _, _, rfl, rfl, rfl⟩ (by decide) (Nat.le_of_ble_eq_true rfl) dX5_move_28 rfl ?_
    rintro v M1 ⟨rfl, hR1⟩
    exact G_iret (st := []) (K := mX5_move) dX5_move_31 rfl (hQ _ _ (by rw [show opMove σ a b = _ from (by unfold opMove; exact if_neg (by rw [bI_0 c5]; decide))]; exact ⟨rfl, hR1⟩))
  · skip
    obtain ⟨k, hk, rfl⟩ := roomB_t (by have := hI.n8; omega) (bI_1 c5)
    refine G_aload_n (K := mX5_move) (i := 0) dX5_move_8 rfl rfl ?_
    refine G_iload_n (K := mX5_move) (i := 2) dX5_move_9 rfl rfl ?_
    refine G_cv (K := mX5_move) (c_X5_isRoom (r := b) (n := nOf σ) (hR.n hI) hI.n8 ⟨rfl, rfl⟩) vX5_isRoom rfl lX5_128 dX5_move_10 ⟨_, _, _, rfl, rfl, rfl⟩ (by decide) rfl (Nat.le_of_ble_eq_true rfl) ?_
    refine G_if_eq (K := mX5_move) (tgt := 25) dX5_move_13 (by decide) (fun c13 => ?_) (fun c13 => ?_)
    · skip
      refine G_aload_n (K := mX5_move) (i := 0) dX5_move_25 rfl rfl ?_
      refine G_ldc (K := mX5_move) dX5_move_26 kX5_92 ?_
      refine G_call0 (K := mX5_move) (Q' := PostR (tl σ 0)) (rf_finding hR (k := 0) (by omega) (fun _ _ h => h)) vX5_finding rfl lX5_109 ⟨_, _, _, rfl, rfl, rfl⟩ (by decide) (Nat.le_of_ble_eq_true rfl) dX5_move_28 rfl ?_
      rintro v M1 ⟨rfl, hR1⟩
      exact G_iret (st := []) (K := mX5_move) dX5_move_31 rfl (hQ _ _ (by rw [show opMove σ (nI k) b = _ from (by unfold opMove; exact (if_pos (bI_1 c5)).trans (if_neg (by rw [bI_0 c13]; decide)))]; exact ⟨rfl, hR1⟩))
    · skip
      obtain ⟨j, hj, rfl⟩ := roomB_t (by have := hI.n8; omega) (bI_1 c13)
      refine G_aload_n (K := mX5_move) (i := 0) dX5_move_16 rfl rfl ?_
      refine G_iload_n (K := mX5_move) (i := 1) dX5_move_17 rfl rfl ?_
      refine G_iload_n (K := mX5_move) (i := 2) dX5_move_18 rfl rfl ?_
      refine G_call0 (K := mX5_move) (as := [.int (nI k), .int (nI j)]) (r := 0) (Q' := fun u Mz => u = some (.int 1) ∧ toH (Mz 1) = chgH (toH (M 1)) k j ∧ ∀ z, z ≠ 1 → Mz z = M z) (c_X5_moved (M := M) (i := k) (j := j) (by have := hI.n8; omega) (by have := hI.n8; omega) (fun Mz h1 h2 => ⟨rfl, h1, h2⟩)) vX5_moved rfl lX5_148 ⟨_, _, _, rfl, rfl, rfl⟩ (by decide) (Nat.le_of_ble_eq_true rfl) dX5_move_19 rfl ?_
      rintro u M2 ⟨rfl, h21, h22⟩
      refine G_goto (K := mX5_move) (tgt := 31) dX5_move_22 (by decide) ?_
      exact G_iret (st := []) (K := mX5_move) dX5_move_31 rfl (hQ _ _ (by rw [show opMove σ (nI k) (nI j) = (1, chgH σ (cut (nI k)) (cut (nI j))) from (if_pos (bI_1 c5)).trans (if_pos (bI_1 c13)), cut_nI (by have := hI.n8; omega), cut_nI (by have := hI.n8; omega)]; exact ⟨rfl, hR.house (fun c hc => chgH_cell (by omega) (by omega) (by omega)) (by rw [show nOf (chgH σ k j) = nOf σ from rfl, h21]; exact chgH_congr hR.1 hk hj) (fun c hc => h22 c (by unfold solid at hc; omega)) (congrFun (h22 0 (by omega)) 3) (congrFun (h22 0 (by omega)) 19)⟩))

set_option maxRecDepth 20000 in
theorem rf_change {M σ : Mem} {r w v : Int32} (hR : RR M σ) (hI : Inv σ) {Q : Option Value → Mem → Prop} (hQ : ∀ u' M', PostR (opChange σ r w v) u' M' → Q u' M') : CT mX5_change shR 8 [.ref 0, .int r, .int w, .int v] M Q := by
  refine CT.mk [some (.ref 0), some (.int r), some (.int w), some (.int v), none] (by decide) (Nat.le_of_ble_eq_true rfl) rfl rfl ?_
  refine G_aload_n (K := mX5_change) (i := 0) dX5_change_0 rfl rfl ?_
  refine G_iload_n (K := mX5_change) (i := 1) dX5_change_1 rfl rfl ?_
  refine G_cv (K := mX5_change) (c_X5_isRoom (r := r) (n := nOf σ) (hR.n hI) hI.n8 ⟨rfl, rfl⟩) vX5_isRoom rfl lX5_128 dX5_change_2 ⟨_, _, _, rfl, rfl, rfl⟩ (by decide) rfl (Nat.le_of_ble_eq_true rfl) ?_
  refine G_if_eq (K := mX5_change) (tgt := 51) dX5_change_5 (by decide) (fun c5 => ?_) (fun c5 => ?_)
  · skip
    refine G_iconst (K := mX5_change) (v := 0) dX5_change_51 (by decide) ?_
    refine G_istore (K := mX5_change) dX5_change_52 (by decide) ?_
    refine G_iload (K := mX5_change) dX5_change_54 rfl ?_
    refine G_if_eq (K := mX5_change) (tgt := 72) dX5_change_56 (by decide) (fun c56 => ?_) (fun c56 => ?_)
    · skip
      refine G_aload_n (K := mX5_change) (i := 0) dX5_change_72 rfl rfl ?_
      refine G_ldc (K := mX5_change) dX5_change_73 kX5_92 ?_
      refine G_call0 (K := mX5_change) (Q' := PostR (tl σ 0)) (rf_finding hR (k := 0) (by omega) (fun _ _ h => h)) vX5_finding rfl lX5_109 ⟨_, _, _, rfl, rfl, rfl⟩ (by decide) (Nat.le_of_ble_eq_true rfl) dX5_change_75 rfl ?_
      rintro v M1 ⟨rfl, hR1⟩
      exact G_iret (st := []) (K := mX5_change) dX5_change_78 rfl (hQ _ _ (by rw [show opChange σ r w v = _ from (by unfold opChange; exact if_neg (by unfold fitB; rw [bI_0 c5, Bool.false_and]; decide))]; exact ⟨rfl, hR1⟩))
    · skip
      exact absurd rfl c56
  · skip
    obtain ⟨k, hk, rfl⟩ := roomB_t (by have := hI.n8; omega) (bI_1 c5)
    have hn8 := hI.n8
    refine G_iload_n (K := mX5_change) (i := 2) dX5_change_8 rfl rfl ?_
    refine G_iconst (K := mX5_change) (v := 0) dX5_change_9 (by decide) ?_
    refine G_bipush (K := mX5_change) (v := 8) dX5_change_10 (by decide) ?_
    refine G_sv (K := mX5_change) (c_X5_within (v := w) (a := 0) (b := nI 8) ⟨rfl, rfl⟩) sX5_within rfl lX5_97 dX5_change_12 (by decide) rfl (Nat.le_of_ble_eq_true rfl) ?_
    refine G_if_eq (K := mX5_change) (tgt := 51) dX5_change_15 (by decide) (fun c15 => ?_) (fun c15 => ?_)
    · skip
      refine G_iconst (K := mX5_change) (v := 0) dX5_change_51 (by decide) ?_
      refine G_istore (K := mX5_change) dX5_change_52 (by decide) ?_
      refine G_iload (K := mX5_change) dX5_change_54 rfl ?_
      refine G_if_eq (K := mX5_change) (tgt := 72) dX5_change_56 (by decide) (fun c56 => ?_) (fun c56 => ?_)
      · skip
        refine G_aload_n (K := mX5_change) (i := 0) dX5_change_72 rfl rfl ?_
        refine G_ldc (K := mX5_change) dX5_change_73 kX5_92 ?_
        refine G_call0 (K := mX5_change) (Q' := PostR (tl σ 0)) (rf_finding hR (k := 0) (by omega) (fun _ _ h => h)) vX5_finding rfl lX5_109 ⟨_, _, _, rfl, rfl, rfl⟩ (by decide) (Nat.le_of_ble_eq_true rfl) dX5_change_75 rfl ?_
        rintro v M1 ⟨rfl, hR1⟩
        exact G_iret (st := []) (K := mX5_change) dX5_change_78 rfl (hQ _ _ (by rw [show opChange σ (nI k) w v = _ from (by unfold opChange; exact if_neg (fun z => by unfold fitB at z; exact within_o (m := 8) (by decide) c15 (Bool.and_eq_true_iff.mp (Bool.and_eq_true_iff.mp z).2).1))]; exact ⟨rfl, hR1⟩))
      · skip
        exact absurd rfl c56
    · skip
      obtain ⟨q, hq, rfl⟩ := within_i (by decide) c15
      obtain ⟨t5, t6⟩ := hR.2.2.2.2.2.2.2 q (by omega)
      refine G_iload_n (K := mX5_change) (i := 3) dX5_change_18 rfl rfl ?_
      refine G_aload_n (K := mX5_change) (i := 0) dX5_change_19 rfl rfl ?_
      refine G_getr (K := mX5_change) fX5_22 dX5_change_20 rfl rfl ?_
      refine G_iload_n (K := mX5_change) (i := 2) dX5_change_23 rfl rfl ?_
      refine G_ld (K := mX5_change) q dX5_change_24 rfl rfl (by omega) (by decide) ?_
      refine G_aload_n (K := mX5_change) (i := 0) dX5_change_25 rfl rfl ?_
      refine G_getr (K := mX5_change) fX5_25 dX5_change_26 rfl rfl ?_
      refine G_iload_n (K := mX5_change) (i := 2) dX5_change_29 rfl rfl ?_
      refine G_ld (K := mX5_change) q dX5_change_30 rfl rfl (by omega) (by decide) ?_
      rw [t5, t6]
      refine G_sv (K := mX5_change) (c_X5_within (v := v) (a := (tLeast.getD q 0)) (b := (tMost.getD q 0)) ⟨rfl, rfl⟩) sX5_within rfl lX5_97 dX5_change_31 (by decide) rfl (Nat.le_of_ble_eq_true rfl) ?_
      refine G_if_eq (K := mX5_change) (tgt := 51) dX5_change_34 (by decide) (fun c34 => ?_) (fun c34 => ?_)
      · skip
        refine G_iconst (K := mX5_change) (v := 0) dX5_change_51 (by decide) ?_
        refine G_istore (K := mX5_change) dX5_change_52 (by decide) ?_
        refine G_iload (K := mX5_change) dX5_change_54 rfl ?_
        refine G_if_eq (K := mX5_change) (tgt := 72) dX5_change_56 (by decide) (fun c56 => ?_) (fun c56 => ?_)
        · skip
          refine G_aload_n (K := mX5_change) (i := 0) dX5_change_72 rfl rfl ?_
          refine G_ldc (K := mX5_change) dX5_change_73 kX5_92 ?_
          refine G_call0 (K := mX5_change) (Q' := PostR (tl σ 0)) (rf_finding hR (k := 0) (by omega) (fun _ _ h => h)) vX5_finding rfl lX5_109 ⟨_, _, _, rfl, rfl, rfl⟩ (by decide) (Nat.le_of_ble_eq_true rfl) dX5_change_75 rfl ?_
          rintro v M1 ⟨rfl, hR1⟩
          exact G_iret (st := []) (K := mX5_change) dX5_change_78 rfl (hQ _ _ (by rw [show opChange σ (nI k) (nI q) v = _ from (by unfold opChange; exact if_neg (by unfold fitB; rw [cut_nI (by omega), bI_0 c34, Bool.false_and, Bool.and_false, Bool.and_false]; decide))]; exact ⟨rfl, hR1⟩))
        · skip
          exact absurd rfl c56
      · skip
        refine G_iload_n (K := mX5_change) (i := 2) dX5_change_37 rfl rfl ?_
        refine G_iconst (K := mX5_change) (v := 4) dX5_change_38 (by decide) ?_
        refine G_icmp_ne (K := mX5_change) (tgt := 47) dX5_change_39 (by decide) (fun c39 => ?_) (fun c39 => ?_)
        · skip
          refine G_iconst (K := mX5_change) (v := 1) dX5_change_47 (by decide) ?_
          refine G_goto (K := mX5_change) (tgt := 52) dX5_change_48 (by decide) ?_
          refine G_istore (K := mX5_change) dX5_change_52 (by decide) ?_
          refine G_iload (K := mX5_change) dX5_change_54 rfl ?_
          refine G_if_eq (K := mX5_change) (tgt := 72) dX5_change_56 (by decide) (fun c56 => ?_) (fun c56 => ?_)
          · skip
            exact absurd c56 (by decide)
          · skip
            refine G_aload_n (K := mX5_change) (i := 0) dX5_change_59 rfl rfl ?_
            refine G_iload_n (K := mX5_change) (i := 1) dX5_change_60 rfl rfl ?_
            refine G_iload_n (K := mX5_change) (i := 2) dX5_change_61 rfl rfl ?_
            refine G_sv (K := mX5_change) (c_X5_at (i := k) (f := q) (by omega) (by omega) ⟨rfl, rfl⟩) sX5_at rfl lX5_101 dX5_change_62 (by decide) rfl (Nat.le_of_ble_eq_true rfl) ?_
            refine G_iload_n (K := mX5_change) (i := 3) dX5_change_65 rfl rfl ?_
            refine G_cv (K := mX5_change) (c_X5_become (M := M) (k := 14 + 9 * k + q) (v := v) (by omega) ⟨rfl, rfl⟩) vX5_become rfl lX5_134 dX5_change_66 ⟨_, _, _, rfl, rfl, rfl⟩ (by decide) rfl (Nat.le_of_ble_eq_true rfl) ?_
            refine G_goto (K := mX5_change) (tgt := 78) dX5_change_69 (by decide) ?_
            have hfit : fitB (nOf σ) (nI k) (nI q) v = true := by
              unfold fitB
              rw [cut_nI (by omega), bI_1 c5, roomB_nI (n := 9) (by decide) (by omega), bI_1 c34, decide_eq_false (show ¬ (nI q = 4 ∧ v = nI k) from fun z => c39 z.1)]
              rfl
            exact G_iret (st := []) (K := mX5_change) dX5_change_78 rfl (hQ _ _ (by rw [show opChange σ (nI k) (nI q) v = (σ (1 + cut (nI q)) (cut (nI k)), ups σ (1 + cut (nI q)) (cut (nI k)) v) from if_pos hfit, cut_nI (by omega), cut_nI (by omega)]; exact ⟨congrArg (fun z => some (Value.int z)) ((toH_f (M 1) (by omega) (by omega)).symm.trans (hR.1.f (1 + q) (by omega) (by omega) hk)), hR.house (fun c hc => ups_cell (by omega)) (by rw [nOf_ups (by omega), toH_ups (by omega) (by omega)]; exact hR.1.upd1 (by omega) (by omega)) (fun c hc => ups_cell (by unfold solid at hc; omega)) (by rw [ups_cell (by decide)]) (by rw [ups_cell (by decide)])⟩))
        · skip
          refine G_iload_n (K := mX5_change) (i := 3) dX5_change_42 rfl rfl ?_
          refine G_iload_n (K := mX5_change) (i := 1) dX5_change_43 rfl rfl ?_
          refine G_icmp_eq (K := mX5_change) (tgt := 51) dX5_change_44 (by decide) (fun c44 => ?_) (fun c44 => ?_)
          · skip
            refine G_iconst (K := mX5_change) (v := 0) dX5_change_51 (by decide) ?_
            refine G_istore (K := mX5_change) dX5_change_52 (by decide) ?_
            refine G_iload (K := mX5_change) dX5_change_54 rfl ?_
            refine G_if_eq (K := mX5_change) (tgt := 72) dX5_change_56 (by decide) (fun c56 => ?_) (fun c56 => ?_)
            · skip
              refine G_aload_n (K := mX5_change) (i := 0) dX5_change_72 rfl rfl ?_
              refine G_ldc (K := mX5_change) dX5_change_73 kX5_92 ?_
              refine G_call0 (K := mX5_change) (Q' := PostR (tl σ 0)) (rf_finding hR (k := 0) (by omega) (fun _ _ h => h)) vX5_finding rfl lX5_109 ⟨_, _, _, rfl, rfl, rfl⟩ (by decide) (Nat.le_of_ble_eq_true rfl) dX5_change_75 rfl ?_
              rintro v M1 ⟨rfl, hR1⟩
              exact G_iret (st := []) (K := mX5_change) dX5_change_78 rfl (hQ _ _ (by rw [show opChange σ (nI k) (nI q) v = _ from (by unfold opChange; exact if_neg (by unfold fitB; rw [decide_eq_true (show nI q = 4 ∧ v = nI k from ⟨c39, c44⟩), Bool.not_true, Bool.and_false, Bool.and_false, Bool.and_false]; decide))]; exact ⟨rfl, hR1⟩))
            · skip
              exact absurd rfl c56
          · skip
            refine G_iconst (K := mX5_change) (v := 1) dX5_change_47 (by decide) ?_
            refine G_goto (K := mX5_change) (tgt := 52) dX5_change_48 (by decide) ?_
            refine G_istore (K := mX5_change) dX5_change_52 (by decide) ?_
            refine G_iload (K := mX5_change) dX5_change_54 rfl ?_
            refine G_if_eq (K := mX5_change) (tgt := 72) dX5_change_56 (by decide) (fun c56 => ?_) (fun c56 => ?_)
            · skip
              exact absurd c56 (by decide)
            · skip
              refine G_aload_n (K := mX5_change) (i := 0) dX5_change_59 rfl rfl ?_
              refine G_iload_n (K := mX5_change) (i := 1) dX5_change_60 rfl rfl ?_
              refine G_iload_n (K := mX5_change) (i := 2) dX5_change_61 rfl rfl ?_
              refine G_sv (K := mX5_change) (c_X5_at (i := k) (f := q) (by omega) (by omega) ⟨rfl, rfl⟩) sX5_at rfl lX5_101 dX5_change_62 (by decide) rfl (Nat.le_of_ble_eq_true rfl) ?_
              refine G_iload_n (K := mX5_change) (i := 3) dX5_change_65 rfl rfl ?_
              refine G_cv (K := mX5_change) (c_X5_become (M := M) (k := 14 + 9 * k + q) (v := v) (by omega) ⟨rfl, rfl⟩) vX5_become rfl lX5_134 dX5_change_66 ⟨_, _, _, rfl, rfl, rfl⟩ (by decide) rfl (Nat.le_of_ble_eq_true rfl) ?_
              refine G_goto (K := mX5_change) (tgt := 78) dX5_change_69 (by decide) ?_
              have hfit : fitB (nOf σ) (nI k) (nI q) v = true := by
                unfold fitB
                rw [cut_nI (by omega), bI_1 c5, roomB_nI (n := 9) (by decide) (by omega), bI_1 c34, decide_eq_false (show ¬ (nI q = 4 ∧ v = nI k) from fun z => c44 z.2)]
                rfl
              exact G_iret (st := []) (K := mX5_change) dX5_change_78 rfl (hQ _ _ (by rw [show opChange σ (nI k) (nI q) v = (σ (1 + cut (nI q)) (cut (nI k)), ups σ (1 + cut (nI q)) (cut (nI k)) v) from if_pos hfit, cut_nI (by omega), cut_nI (by omega)]; exact ⟨congrArg (fun z => some (Value.int z)) ((toH_f (M 1) (by omega) (by omega)).symm.trans (hR.1.f (1 + q) (by omega) (by omega) hk)), hR.house (fun c hc => ups_cell (by omega)) (by rw [nOf_ups (by omega), toH_ups (by omega) (by omega)]; exact hR.1.upd1 (by omega) (by omega)) (fun c hc => ups_cell (by unfold solid at hc; omega)) (by rw [ups_cell (by decide)]) (by rw [ups_cell (by decide)])⟩))
