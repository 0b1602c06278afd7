theorem RC.nI {M σ : Mem} (hR : RC M σ) (hI : Inv σ) : hof M 1 0 0 = nI (nOf σ) := hR.n.trans hI.1.1
theorem Inv.n8 {σ : Mem} (hI : Inv σ) : nOf σ ≤ 8 := hI.1.2.1
theorem Inv.nI {σ : Mem} (hI : Inv σ) : σ 0 0 = nI (nOf σ) := hI.1.1
section CallB
variable {K : MI} {d : Nat} {Q : Option Value → Mem → Prop} {pc : Nat} {ls : List (Option Value)} {rest : List Value} {M : Mem} {idx : Nat}
theorem G_bec {b c : Nat} (hb : isH b) (hc : isH c) (hbc : apart b c) (hlink : Cond.methodLink K.1.cls idx yX0_becomes ∈ gtbl) (hd : decode K.2.1 pc = .ok (.invokevirtual idx, 3)) (hd1 : 2 ≤ d) (hrest : (rest.map fun v => v.category).sum ≤ 8)
    (kk : ∀ h', HR h' (hof M c) 8 → G K shC d Q (pc + 3) ls rest (hput M b h')) : G K shC d Q pc ls (.ref c :: .ref b :: rest) M := by
  refine G_callH2 (as := [.ref 11]) hb hc hbc (c_X0_becomes (Q := fun v M' => v = none ∧ M' = becM (hof2 M b c)) ⟨rfl, rfl⟩) vX0_becomes rfl hlink rfl hd1 hrest hd ?_ ?_
  · show Value.ref c :: Value.ref b :: rest = Value.ref (hsub2 b c 11) :: Value.ref b :: rest
    rfl
  · rintro v M' ⟨rfl, rfl⟩
    have e : hput2 M b c (becM (hof2 M b c)) = hput M b (becM (hof2 M b c)) := by
      unfold hput2
      funext q
      by_cases hq : c ≤ q ∧ q < c + 11
      · have e2 : hput (hput M b (becM (hof2 M b c))) c (fun j => becM (hof2 M b c) (j + 11)) q = becM (hof2 M b c) (q - c + 11) := if_pos hq
        rw [e2, hput_out (by unfold apart at hbc; omega)]
        funext k
        unfold becM hof2
        rw [if_neg (by omega), if_neg (by omega), if_neg (by omega), if_neg (by omega), show c + (q - c + 11 - 11) = q by omega]
      · exact if_neg hq
    rw [e]
    refine kk _ ⟨fun i hi => ?_, fun k hk => ?_, fun q h1 h2 i hi => ?_⟩
    · show (if 0 = 0 then (if i < 4 then hof2 M b c 11 i else hof2 M b c 0 i) else _) = _
      rw [if_pos rfl, if_pos hi]
      show (if 11 < 11 then _ else M (c + (11 - 11))) i = M (c + 0) i
      rfl
    · unfold becM
      rw [if_neg (by decide), if_neg (by decide), if_pos rfl, if_pos hk]
      rfl
    · unfold becM
      rw [if_neg (by omega), if_pos h2, if_pos hi]
      unfold hof2
      rw [if_neg (by omega), show c + (q + 11 - 11) = c + q by omega]
      rfl
end CallB
set_option maxRecDepth 20000 in
theorem cl_tell {M σ : Mem} {k : Nat} (hR : RC M σ) (hk : k < 7) {Q : Option Value → Mem → Prop} (hQ : ∀ v M', PostC (tl σ k) v M' → Q v M') : CT mX4_tell shC 0 [.ref 0, .int (finI k)] M Q := by
  refine CT.mk [some (.ref 0), some (.int (finI k)), none] (by decide) (Nat.le_of_ble_eq_true rfl) rfl rfl ?_
  refine G_ldc (K := mX4_tell) dX4_tell_0 kX4_52 ?_
  refine G_iload_n (K := mX4_tell) (i := 1) dX4_tell_2 rfl rfl ?_
  refine G_isub (K := mX4_tell) dX4_tell_3 ?_
  rw [finI_sub]
  refine G_istore_n (K := mX4_tell) (i := 2) dX4_tell_4 rfl (by decide) ?_
  refine G_iload_n (K := mX4_tell) (i := 2) dX4_tell_5 rfl rfl ?_
  refine G_if_lt (K := mX4_tell) (tgt := 25) dX4_tell_6 (by decide) (fun c6 => ?_) (fun c6 => ?_)
  · skip
    exact absurd c6 (nI_pos (by omega))
  · skip
    refine G_iload_n (K := mX4_tell) (i := 2) dX4_tell_9 rfl rfl ?_
    refine G_bipush (K := mX4_tell) (v := 7) dX4_tell_10 (by decide) ?_
    refine G_icmp_ge (K := mX4_tell) (tgt := 25) dX4_tell_12 (by decide) (fun c12 => ?_) (fun c12 => ?_)
    · skip
      exact absurd ((le_nn (n := 7) (i := k) (by omega) (by omega)).mp c12) (by omega)
    · skip
      refine G_aload_n (K := mX4_tell) (i := 0) dX4_tell_15 rfl rfl ?_
      refine G_getr (K := mX4_tell) fX4_43 dX4_tell_16 rfl rfl ?_
      refine G_iload_n (K := mX4_tell) (i := 2) dX4_tell_19 rfl rfl ?_
      refine G_dup2 (K := mX4_tell) dX4_tell_20 rfl rfl ?_
      refine G_ld (K := mX4_tell) _ dX4_tell_21 rfl rfl (by omega) (by decide) ?_
      refine G_iconst (K := mX4_tell) (v := 1) dX4_tell_22 (by decide) ?_
      refine G_iadd (K := mX4_tell) dX4_tell_23 ?_
      refine G_sto (K := mX4_tell) _ dX4_tell_24 rfl rfl (by omega) (by decide) ?_
      refine G_iload_n (K := mX4_tell) (i := 1) dX4_tell_25 rfl rfl ?_
      exact G_iret (st := []) (K := mX4_tell) dX4_tell_26 rfl (hQ _ _ ⟨rfl, hR.tell hk⟩)

set_option maxRecDepth 20000 in
theorem cl_fHours {M σ : Mem} {a most : Int32} (hR : RC M σ) {Q : Option Value → Mem → Prop} (hQ : Q (some (.int (refH σ a most))) M) : CT mX4_findingOfHours shC 0 [.ref 0, .int a, .int most] M Q := by
  refine CT.mk [some (.ref 0), some (.int a), some (.int most)] (by decide) (Nat.le_of_ble_eq_true rfl) rfl rfl ?_
  refine G_iload_n (K := mX4_findingOfHours) (i := 1) dX4_findingOfHours_0 rfl rfl ?_
  refine G_iconst (K := mX4_findingOfHours) (v := 1) dX4_findingOfHours_1 (by decide) ?_
  refine G_icmp_lt (K := mX4_findingOfHours) (tgt := 10) dX4_findingOfHours_2 (by decide) (fun c2 => ?_) (fun c2 => ?_)
  · skip
    refine G_ldc (K := mX4_findingOfHours) dX4_findingOfHours_10 kX4_52 ?_
    exact G_irm (K := mX4_findingOfHours) dX4_findingOfHours_12 rfl (by unfold refH; first | exact (if_pos c2).symm | exact ((if_neg c2).trans (if_pos (Int32.not_le.mp c7))).symm) rfl hQ
  · skip
    refine G_iload_n (K := mX4_findingOfHours) (i := 1) dX4_findingOfHours_5 rfl rfl ?_
    refine G_iload_n (K := mX4_findingOfHours) (i := 2) dX4_findingOfHours_6 rfl rfl ?_
    refine G_icmp_le (K := mX4_findingOfHours) (tgt := 13) dX4_findingOfHours_7 (by decide) (fun c7 => ?_) (fun c7 => ?_)
    · skip
      refine G_aload_n (K := mX4_findingOfHours) (i := 0) dX4_findingOfHours_13 rfl rfl ?_
      refine G_getr (K := mX4_findingOfHours) fX4_12 dX4_findingOfHours_14 rfl rfl ?_
      refine G_geti (K := mX4_findingOfHours) fX4_99 dX4_findingOfHours_17 rfl rfl ?_
      rw [hR.hour]
      refine G_iload_n (K := mX4_findingOfHours) (i := 1) dX4_findingOfHours_20 rfl rfl ?_
      refine G_iadd (K := mX4_findingOfHours) dX4_findingOfHours_21 ?_
      refine G_sipush (K := mX4_findingOfHours) (v := 9999) dX4_findingOfHours_22 (by decide) ?_
      refine G_icmp_le (K := mX4_findingOfHours) (tgt := 33) dX4_findingOfHours_25 (by decide) (fun c25 => ?_) (fun c25 => ?_)
      · skip
        refine G_iconst (K := mX4_findingOfHours) (v := 0) dX4_findingOfHours_33 (by decide) ?_
        exact G_irm (K := mX4_findingOfHours) dX4_findingOfHours_34 rfl (by unfold refH; first | exact ((if_neg c2).trans ((if_neg (Int32.not_lt.mpr c7)).trans (if_pos (Int32.not_le.mp c25)))).symm | exact ((if_neg c2).trans ((if_neg (Int32.not_lt.mpr c7)).trans (if_neg (Int32.not_lt.mpr c25)))).symm) rfl hQ
      · skip
        refine G_ldc (K := mX4_findingOfHours) dX4_findingOfHours_28 kX4_119 ?_
        refine G_goto (K := mX4_findingOfHours) (tgt := 34) dX4_findingOfHours_30 (by decide) ?_
        exact G_irm (K := mX4_findingOfHours) dX4_findingOfHours_34 rfl (by unfold refH; first | exact ((if_neg c2).trans ((if_neg (Int32.not_lt.mpr c7)).trans (if_pos (Int32.not_le.mp c25)))).symm | exact ((if_neg c2).trans ((if_neg (Int32.not_lt.mpr c7)).trans (if_neg (Int32.not_lt.mpr c25)))).symm) rfl hQ
    · skip
      refine G_ldc (K := mX4_findingOfHours) dX4_findingOfHours_10 kX4_52 ?_
      exact G_irm (K := mX4_findingOfHours) dX4_findingOfHours_12 rfl (by unfold refH; first | exact (if_pos c2).symm | exact ((if_neg c2).trans (if_pos (Int32.not_le.mp c7))).symm) rfl hQ

set_option maxRecDepth 20000 in
theorem cl_late {M σ : Mem} (hR : RC M σ) {Q : Option Value → Mem → Prop} (hQ : Q (some (.int (bI (late σ)))) M) : CT mX4_isLate shC 0 [.ref 0] M Q := by
  refine CT.mk [some (.ref 0)] (by decide) (Nat.le_of_ble_eq_true rfl) rfl rfl ?_
  refine G_aload_n (K := mX4_isLate) (i := 0) dX4_isLate_0 rfl rfl ?_
  refine G_getr (K := mX4_isLate) fX4_12 dX4_isLate_1 rfl rfl ?_
  refine G_geti (K := mX4_isLate) fX4_99 dX4_isLate_4 rfl rfl ?_
  rw [hR.hour]
  refine G_bipush (K := mX4_isLate) (v := 100) dX4_isLate_7 (by decide) ?_
  refine G_iadd (K := mX4_isLate) dX4_isLate_9 ?_
  refine G_sipush (K := mX4_isLate) (v := 9999) dX4_isLate_10 (by decide) ?_
  refine G_icmp_le (K := mX4_isLate) (tgt := 20) dX4_isLate_13 (by decide) (fun c13 => ?_) (fun c13 => ?_)
  · skip
    refine G_iconst (K := mX4_isLate) (v := 0) dX4_isLate_20 (by decide) ?_
    exact G_zrm (K := mX4_isLate) dX4_isLate_21 rfl rfl (by first | exact (bI_t (decide_eq_true (Int32.not_le.mp c13))).symm | exact (bI_f (decide_eq_false (Int32.not_lt.mpr c13))).symm) rfl hQ
  · skip
    refine G_iconst (K := mX4_isLate) (v := 1) dX4_isLate_16 (by decide) ?_
    refine G_goto (K := mX4_isLate) (tgt := 21) dX4_isLate_17 (by decide) ?_
    exact G_zrm (K := mX4_isLate) dX4_isLate_21 rfl rfl (by first | exact (bI_t (decide_eq_true (Int32.not_le.mp c13))).symm | exact (bI_f (decide_eq_false (Int32.not_lt.mpr c13))).symm) rfl hQ

set_option maxRecDepth 20000 in
theorem cl_fRoom {M σ : Mem} {r a : Int32} (hR : RC M σ) (hI : Inv σ) {Q : Option Value → Mem → Prop} (hQ : Q (some (.int (refR σ r a))) M) : CT mX4_findingOfRoomAhead shC 1 [.ref 0, .int r, .int a] M Q := by
  refine CT.mk [some (.ref 0), some (.int r), some (.int a)] (by decide) (Nat.le_of_ble_eq_true rfl) rfl rfl ?_
  refine G_aload_n (K := mX4_findingOfRoomAhead) (i := 0) dX4_findingOfRoomAhead_0 rfl rfl ?_
  refine G_getr (K := mX4_findingOfRoomAhead) fX4_12 dX4_findingOfRoomAhead_1 rfl rfl ?_
  refine G_iload_n (K := mX4_findingOfRoomAhead) (i := 1) dX4_findingOfRoomAhead_4 rfl rfl ?_
  refine G_hp (K := mX4_findingOfRoomAhead) (b := 1) (by unfold isH; omega) (c_X0_has (M := hof M 1) (r := r) ⟨rfl, rfl⟩) vX0_has rfl lX4_65 dX4_findingOfRoomAhead_5 rfl (by decide) rfl (Nat.le_of_ble_eq_true rfl) ?_
  rw [hasI_B (hR.nI hI) hI.n8]
  refine G_if_eq (K := mX4_findingOfRoomAhead) (tgt := 21) dX4_findingOfRoomAhead_8 (by decide) (fun c8 => ?_) (fun c8 => ?_)
  · skip
    refine G_ldc (K := mX4_findingOfRoomAhead) dX4_findingOfRoomAhead_21 kX4_52 ?_
    exact G_irm (K := mX4_findingOfRoomAhead) dX4_findingOfRoomAhead_23 rfl (by unfold refR; first | exact (if_pos (bI_1 c8)).symm | exact (if_neg (by rw [bI_0 c8]; decide)).symm) rfl hQ
  · skip
    refine G_aload_n (K := mX4_findingOfRoomAhead) (i := 0) dX4_findingOfRoomAhead_11 rfl rfl ?_
    refine G_iload_n (K := mX4_findingOfRoomAhead) (i := 2) dX4_findingOfRoomAhead_12 rfl rfl ?_
    refine G_bipush (K := mX4_findingOfRoomAhead) (v := 60) dX4_findingOfRoomAhead_13 (by decide) ?_
    refine G_cv (K := mX4_findingOfRoomAhead) (cl_fHours (a := a) (most := 60) hR ⟨rfl, rfl⟩) vX4_findingOfHours rfl lX4_92 dX4_findingOfRoomAhead_15 ⟨_, _, _, rfl, rfl, rfl⟩ (by decide) rfl (Nat.le_of_ble_eq_true rfl) ?_
    refine G_goto (K := mX4_findingOfRoomAhead) (tgt := 23) dX4_findingOfRoomAhead_18 (by decide) ?_
    exact G_irm (K := mX4_findingOfRoomAhead) dX4_findingOfRoomAhead_23 rfl (by unfold refR; first | exact (if_pos (bI_1 c8)).symm | exact (if_neg (by rw [bI_0 c8]; decide)).symm) rfl hQ

set_option maxRecDepth 20000 in
theorem cl_fPairs {M σ : Mem} {a : Int32} (hR : RC M σ) (hI : Inv σ) {Q : Option Value → Mem → Prop} (hQ : Q (some (.int (refP σ a))) M) : CT mX4_findingOfPairs shC 1 [.ref 0, .int a] M Q := by
  refine CT.mk [some (.ref 0), some (.int a), none] (by decide) (Nat.le_of_ble_eq_true rfl) rfl rfl ?_
  refine G_aload_n (K := mX4_findingOfPairs) (i := 0) dX4_findingOfPairs_0 rfl rfl ?_
  refine G_iload_n (K := mX4_findingOfPairs) (i := 1) dX4_findingOfPairs_1 rfl rfl ?_
  refine G_bipush (K := mX4_findingOfPairs) (v := 24) dX4_findingOfPairs_2 (by decide) ?_
  refine G_cv (K := mX4_findingOfPairs) (cl_fHours (a := a) (most := 24) hR ⟨rfl, rfl⟩) vX4_findingOfHours rfl lX4_92 dX4_findingOfPairs_4 ⟨_, _, _, rfl, rfl, rfl⟩ (by decide) rfl (Nat.le_of_ble_eq_true rfl) ?_
  refine G_istore_n (K := mX4_findingOfPairs) (i := 2) dX4_findingOfPairs_7 rfl (by decide) ?_
  refine G_iload_n (K := mX4_findingOfPairs) (i := 2) dX4_findingOfPairs_8 rfl rfl ?_
  refine G_if_ne (K := mX4_findingOfPairs) (tgt := 27) dX4_findingOfPairs_9 (by decide) (fun c9 => ?_) (fun c9 => ?_)
  · skip
    refine G_iload_n (K := mX4_findingOfPairs) (i := 2) dX4_findingOfPairs_27 rfl rfl ?_
    exact G_irm (K := mX4_findingOfPairs) dX4_findingOfPairs_28 rfl (by unfold refP; first | exact ((if_pos c9).trans (if_pos c19)).symm | exact ((if_pos c9).trans (if_neg c19)).symm.trans rfl | exact (if_neg c9).symm | (rw [if_pos c9, if_neg c19, c9])) rfl hQ
  · skip
    refine G_aload_n (K := mX4_findingOfPairs) (i := 0) dX4_findingOfPairs_12 rfl rfl ?_
    refine G_getr (K := mX4_findingOfPairs) fX4_12 dX4_findingOfPairs_13 rfl rfl ?_
    refine G_geti (K := mX4_findingOfPairs) fX4_57 dX4_findingOfPairs_16 rfl rfl ?_
    rw [hR.n]
    refine G_if_ne (K := mX4_findingOfPairs) (tgt := 27) dX4_findingOfPairs_19 (by decide) (fun c19 => ?_) (fun c19 => ?_)
    · skip
      refine G_iload_n (K := mX4_findingOfPairs) (i := 2) dX4_findingOfPairs_27 rfl rfl ?_
      exact G_irm (K := mX4_findingOfPairs) dX4_findingOfPairs_28 rfl (by unfold refP; first | exact ((if_pos c9).trans (if_pos c19)).symm | exact ((if_pos c9).trans (if_neg c19)).symm.trans rfl | exact (if_neg c9).symm | (rw [if_pos c9, if_neg c19, c9])) rfl hQ
    · skip
      refine G_ldc (K := mX4_findingOfPairs) dX4_findingOfPairs_22 kX4_119 ?_
      refine G_goto (K := mX4_findingOfPairs) (tgt := 28) dX4_findingOfPairs_24 (by decide) ?_
      exact G_irm (K := mX4_findingOfPairs) dX4_findingOfPairs_28 rfl (by unfold refP; first | exact ((if_pos c9).trans (if_pos c19)).symm | exact ((if_pos c9).trans (if_neg c19)).symm.trans rfl | exact (if_neg c9).symm | (rw [if_pos c9, if_neg c19, c9])) rfl hQ

set_option maxRecDepth 20000 in
theorem cl_start {M : Mem} {Q : Option Value → Mem → Prop} (hQ : ∀ h', HR h' (hof M 1) 8 → Q none (hput M 12 h')) : CT mX4_startTrial shC 2 [.ref 0] M Q := by
  refine CT.mk [some (.ref 0)] (by decide) (Nat.le_of_ble_eq_true rfl) rfl rfl ?_
  refine G_aload_n (K := mX4_startTrial) (i := 0) dX4_startTrial_0 rfl rfl ?_
  refine G_getr (K := mX4_startTrial) fX4_16 dX4_startTrial_1 rfl rfl ?_
  refine G_aload_n (K := mX4_startTrial) (i := 0) dX4_startTrial_4 rfl rfl ?_
  refine G_getr (K := mX4_startTrial) fX4_12 dX4_startTrial_5 rfl rfl ?_
  refine G_bec (K := mX4_startTrial) (b := 12) (c := 1) (by unfold isH; omega) (by unfold isH; omega) (by unfold apart; omega) lX4_145 dX4_startTrial_8 (by decide) (Nat.le_of_ble_eq_true rfl) (fun h' hh' => ?_)
  exact G_vrm (K := mX4_startTrial) dX4_startTrial_11 rfl rfl (hQ h' hh')

theorem HR.le {a b : Mem} {n m : Nat} (h : HR a b m) (hnm : n ≤ m) : HR a b n := ⟨h.1, h.2.1, fun c h1 h2 i hi => h.2.2 c h1 h2 i (by omega)⟩
/-- the hours go by in one of the scratch houses -/
theorem G_hrs {K : MI} {d : Nat} {Q : Option Value → Mem → Prop} {pc : Nat} {ls : List (Option Value)} {rest : List Value} {M : Mem} {idx b n k : Nat} {h : Mem} (hb : isH b) (H : HR (hof M b) h n) (hn : h 0 0 = nI n) (hn8 : n ≤ 8) (hk : k < 2147483648) (hw : ∀ i, i < n → 0 < h 4 i)
    (hlink : Cond.methodLink K.1.cls idx yX0_passHours ∈ gtbl) (hd : decode K.2.1 pc = .ok (.invokevirtual idx, 3)) (hd1 : 5 ≤ d) (hrest : (rest.map fun v => v.category).sum ≤ 8)
    (kk : ∀ h', HR h' (hoursH n k h) n → G K shC d Q (pc + 3) ls (.int (hoursSum n k h) :: rest) (hput M b h')) : G K shC d Q pc ls (.int (nI k) :: .ref b :: rest) M := by
  refine G_callH (as := [.int (nI k)]) hb (c_X0_passHours (M := hof M b) (n := n) (k := k) (by rw [H.1 0 (by omega)]; exact hn) hn8 hk (fun i hi => by rw [H.f 4 (by omega) (by omega) hi]; exact hw i hi) (Q := fun v M' => v = some (.int (hoursSum n k h)) ∧ HR M' (hoursH n k h) n) (fun M2 h2 => ⟨by rw [hoursSum_congr H], h2.tr (hoursH_congr H k)⟩)) vX0_passHours rfl hlink rfl hd1 hrest hd rfl ?_
  rintro v M' ⟨rfl, h2⟩
  exact kk M' h2
theorem G_hr1 {K : MI} {d : Nat} {Q : Option Value → Mem → Prop} {pc : Nat} {ls : List (Option Value)} {rest : List Value} {M : Mem} {idx b n : Nat} {h : Mem} (hb : isH b) (H : HR (hof M b) h n) (hn : h 0 0 = nI n) (hn8 : n ≤ 8) (hw : ∀ i, i < n → 0 < h 4 i)
    (hlink : Cond.methodLink K.1.cls idx yX0_passHour ∈ gtbl) (hd : decode K.2.1 pc = .ok (.invokevirtual idx, 3)) (hd1 : 4 ≤ d) (hrest : (rest.map fun v => v.category).sum ≤ 8)
    (kk : ∀ h', HR h' (hourH h n) n → G K shC d Q (pc + 3) ls (.int (stSum h n) :: rest) (hput M b h')) : G K shC d Q pc ls (.ref b :: rest) M := by
  refine G_callH (as := []) hb (c_X0_passHour (M := hof M b) (n := n) (by rw [H.1 0 (by omega)]; exact hn) hn8 (fun i hi => by rw [H.f 4 (by omega) (by omega) hi]; exact hw i hi) (Q := fun v M' => v = some (.int (stSum h n)) ∧ HR M' (hourH h n) n) (fun M2 h2 => ⟨by rw [stSum_congr H], h2.tr (hourH_congr H)⟩)) vX0_passHour rfl hlink rfl hd1 hrest hd rfl ?_
  rintro v M' ⟨rfl, h2⟩
  exact kk M' h2
theorem hput_hput (M h h2 : Mem) (b : Nat) : hput (hput M b h) b h2 = hput M b h2 := by
  funext c
  unfold hput
  split <;> rfl
theorem HR.hp {M h h2 : Mem} {b n : Nat} (H : HR h h2 n) : HR (hof (hput M b h) b) h2 n := HR.ofEq (hof_hput M h b) H
theorem HR.hpn {M h h2 : Mem} {b c n : Nat} (H : HR (hof M c) h2 n) (hbc : apart b c) : HR (hof (hput M b h) c) h2 n := HR.ofEq (hof_hput_ne hbc) H
set_option maxRecDepth 20000 in
theorem cl_asItGoes {M σ : Mem} {n k : Nat} (H : HR (hof M 1) σ n) (hn : σ 0 0 = nI n) (hn8 : n ≤ 8) (hk : k < 2147483648) (hw : ∀ i, i < n → 0 < σ 4 i) {Q : Option Value → Mem → Prop} (hQ : ∀ h', HR h' (hoursH n k σ) n → Q none (hput M 23 h')) : CT mX4_goAsItGoes shC 5 [.ref 0, .int (nI k)] M Q := by
  refine CT.mk [some (.ref 0), some (.int (nI k))] (by decide) (Nat.le_of_ble_eq_true rfl) rfl rfl ?_
  refine G_aload_n (K := mX4_goAsItGoes) (i := 0) dX4_goAsItGoes_0 rfl rfl ?_
  refine G_getr (K := mX4_goAsItGoes) fX4_19 dX4_goAsItGoes_1 rfl rfl ?_
  refine G_aload_n (K := mX4_goAsItGoes) (i := 0) dX4_goAsItGoes_4 rfl rfl ?_
  refine G_getr (K := mX4_goAsItGoes) fX4_12 dX4_goAsItGoes_5 rfl rfl ?_
  refine G_bec (K := mX4_goAsItGoes) (b := 23) (c := 1) (by unfold isH; omega) (by unfold isH; omega) (by unfold apart; omega) lX4_145 dX4_goAsItGoes_8 (by decide) (Nat.le_of_ble_eq_true rfl) (fun h' hh' => ?_)
  refine G_aload_n (K := mX4_goAsItGoes) (i := 0) dX4_goAsItGoes_11 rfl rfl ?_
  refine G_getr (K := mX4_goAsItGoes) fX4_19 dX4_goAsItGoes_12 rfl rfl ?_
  refine G_iload_n (K := mX4_goAsItGoes) (i := 1) dX4_goAsItGoes_15 rfl rfl ?_
  refine G_hrs (K := mX4_goAsItGoes) (b := 23) (n := n) (k := k) (h := σ) (by unfold isH; omega) (HR.hp ((hh'.le (by omega)).tr H)) hn hn8 hk hw lX4_96 dX4_goAsItGoes_16 (by decide) (Nat.le_of_ble_eq_true rfl) (fun h2 hh2 => ?_)
  refine G_pop (K := mX4_goAsItGoes) dX4_goAsItGoes_19 rfl ?_
  exact G_vrm (K := mX4_goAsItGoes) dX4_goAsItGoes_20 rfl (by exact hput_hput M _ _ 23) (hQ h2 hh2)

theorem HR.upd1 {M h : Mem} {n c i : Nat} {x : Int32} (H : HR M h n) (hc : 1 ≤ c) (hc9 : c ≤ 9) : HR (ups M c i x) (ups h c i x) n := by
  refine ⟨fun k hk => by rw [ups_cell (by omega : (0 : Nat) ≠ c), ups_cell (by omega : (0 : Nat) ≠ c)]; exact H.1 k hk, fun k hk => by rw [ups_cell (by omega : (10 : Nat) ≠ c), ups_cell (by omega : (10 : Nat) ≠ c)]; exact H.2.1 k hk, fun q h1 h2 k hk => ?_⟩
  by_cases hq : q = c ∧ k = i
  · obtain ⟨rfl, rfl⟩ := hq
    rw [ups_same, ups_same]
  · rw [ups_ne hq, ups_ne hq]
    exact H.2.2 q h1 h2 k hk
theorem hof_ups {M : Mem} {b c i : Nat} {x : Int32} : hof (ups M (b + c) i x) b = ups (hof M b) c i x := by
  funext j k
  unfold hof ups
  by_cases h : j = c ∧ k = i
  · rw [if_pos h, if_pos (by omega)]
  · rw [if_neg h, if_neg (by omega)]
theorem hput_ups {M h : Mem} {b c i : Nat} {x : Int32} (hc : c < 11) : ups (hput M b h) (b + c) i x = hput M b (ups h c i x) := by
  funext q k
  by_cases h2 : b ≤ q ∧ q < b + 11
  · have e2 : hput M b (ups h c i x) q = ups h c i x (q - b) := if_pos h2
    rw [e2]
    unfold ups
    by_cases h1 : q = b + c ∧ k = i
    · rw [if_pos h1, if_pos (by omega)]
    · rw [if_neg h1, if_neg (by omega)]
      exact congrFun (if_pos h2) k
  · have e2 : hput M b (ups h c i x) q = M q := if_neg h2
    rw [e2, ups_ne (by omega)]
    exact congrFun (if_neg h2) k