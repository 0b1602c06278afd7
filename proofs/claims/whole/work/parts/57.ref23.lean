theorem RR.one {M M2 σ σ' : Mem} (hR : RR M σ) (h1 : toH (M2 1) = toH (M 1)) (hs : ∀ j, j < 11 → σ' j = σ j) : HR (toH (M2 1)) σ' (nOf σ') := by
  have hn : nOf σ' = nOf σ := by unfold nOf; rw [hs 0 (by omega)]
  rw [hn, h1]
  exact hR.1.tr (HR.ofEq (fun j hj => (hs j hj).symm) (HR.rf _ _))
theorem RR.two {M M2 σ σ' : Mem} (hR : RR M σ) (h1 : toH (M2 2) = toH (M 2)) (hs : ∀ j, j < 11 → σ' (20 + j) = σ (20 + j)) (h40 : σ' 40 0 = σ 40 0) : ¬ σ' 40 0 = 0 → HR (toH (M2 2)) (keptH σ') (nOf (keptH σ')) := by
  have hn : nOf (keptH σ') = nOf (keptH σ) := by unfold nOf; rw [show keptH σ' 0 = keptH σ 0 from hs 0 (by omega)]
  rw [hn, h1, h40]
  exact fun h => (hR.2.1 h).tr (HR.ofEq (fun j hj => (hs j hj).symm) (HR.rf _ _))
theorem RR.obj {M σ : Mem} {k c : Nat} {x : Int32} (hR : RR M σ) (hk : (k = 3 ∧ c = 40 ∧ x = 0) ∨ (k = 19 ∧ c = 43)) : RR (ups M 0 k x) (ups σ c 0 x) := by
  have em : ∀ z, z ≠ 0 → ups M 0 k x z = M z := fun z hz => ups_cell hz
  have es : ∀ z, z ≠ c → ups σ c 0 x z = σ z := fun z hz => ups_cell hz
  obtain ⟨r1, r2, r3, r4, r5, r6, r7, r8⟩ := id hR
  refine ⟨hR.one (by rw [em 1 (by omega)]) (fun j hj => es j (by omega)), (by
    rcases hk with ⟨rfl, rfl, rfl⟩ | ⟨rfl, rfl⟩
    · exact fun h => absurd (ups_same _ _ _ _) h
    · exact hR.two (by rw [em 2 (by omega)]) (fun j hj => es _ (by omega)) (by rw [es 40 (by omega)])), ?_, by rw [em 4 (by omega), es 41 (by omega)]; exact r4, by rw [em 12 (by omega), es 42 (by omega)]; exact r5, ?_, fun s hs => ?_, by rw [em 5 (by omega), em 6 (by omega)]; exact r8⟩
  · rcases hk with ⟨rfl, rfl, rfl⟩ | ⟨rfl, rfl⟩
    · rw [ups_same, ups_same]
    · rw [ups_ne (by omega), es 40 (by omega)]; exact r3
  · rcases hk with ⟨rfl, rfl, rfl⟩ | ⟨rfl, rfl⟩
    · rw [ups_ne (by omega), es 43 (by omega)]; exact r6
    · rw [ups_same, ups_same]
  · rw [em 16 (by omega), em 17 (by omega), em 18 (by omega), es 44 (by omega), es 45 (by omega), es (46 + s) (by omega)]
    exact r7 s hs
theorem toH_spv (R : Nat → Int32) {k : Nat} (hk : k < 10) : toH R 10 k = R (4 + k) := if_pos hk
theorem toH_sp {M : Mem} {k : Nat} {x : Int32} (hk : k < 10) : toH (ups M 1 (4 + k) x 1) = ups (toH (M 1)) 10 k x := by
  have e : ∀ q, q ≠ 4 + k → ups M 1 (4 + k) x 1 q = M 1 q := fun q hq => ups_ne (fun z => hq z.2)
  funext c i
  by_cases h : c = 10 ∧ i = k
  · obtain ⟨rfl, rfl⟩ := h
    rw [toH_spv _ hk, ups_same, ups_same]
  · rw [ups_ne h]
    unfold toH
    by_cases h0 : c = 0
    · rw [if_pos h0, if_pos h0, e 0 (by omega), e 1 (by omega), e 2 (by omega), e 3 (by omega)]
    rw [if_neg h0, if_neg h0]
    by_cases h1 : c = 10
    · rw [if_pos h1, if_pos h1]
      by_cases hi : i < 10
      · rw [if_pos hi, if_pos hi, e _ (by omega)]
      · rw [if_neg hi, if_neg hi]
    rw [if_neg h1, if_neg h1]
    by_cases h2 : c ≤ 9 ∧ i < 8
    · rw [if_pos h2, if_pos h2, e _ (by omega)]
    · rw [if_neg h2, if_neg h2]
set_option maxRecDepth 20000 in
theorem rf_seed {M σ : Mem} {v : Int32} (hR : RR M σ) (hI : Inv σ) {Q : Option Value → Mem → Prop} (hQ : ∀ u' M', PostR (opSeed σ v) u' M' → Q u' M') : CT mX5_seed shR 8 [.ref 0, .int v] M Q := by
  refine CT.mk [some (.ref 0), some (.int v)] (by decide) (Nat.le_of_ble_eq_true rfl) rfl rfl ?_
  refine G_aload_n (K := mX5_seed) (i := 0) dX5_seed_0 rfl rfl ?_
  refine G_iconst (K := mX5_seed) (v := 3) dX5_seed_1 (by decide) ?_
  refine G_iload_n (K := mX5_seed) (i := 1) dX5_seed_2 rfl rfl ?_
  refine G_cv (K := mX5_seed) (c_X5_become (M := M) (k := 3) (v := v) (by omega) ⟨rfl, rfl⟩) vX5_become rfl lX5_134 dX5_seed_3 ⟨_, _, _, rfl, rfl, rfl⟩ (by decide) rfl (Nat.le_of_ble_eq_true rfl) ?_
  exact G_iret (st := []) (K := mX5_seed) dX5_seed_6 rfl (hQ _ _ (by rw [show opSeed σ v = (σ 0 3, ups σ 0 3 v) from rfl]; exact ⟨congrArg (fun z => some (Value.int z)) hR.z, hR.house (fun c hc => ups_cell (by omega)) (by rw [nOf_ups0 (by decide), toH_s 3 3 (by omega)]; exact HR.out hR.1) (fun c hc => ups_cell (by unfold solid at hc; omega)) (by rw [ups_cell (by decide)]) (by rw [ups_cell (by decide)])⟩))

set_option maxRecDepth 20000 in
theorem rf_wipe {M σ : Mem}  (hR : RR M σ) (hI : Inv σ) {Q : Option Value → Mem → Prop} (hQ : ∀ u' M', PostR (opWipe σ) u' M' → Q u' M') : CT mX5_wipe shR 8 [.ref 0] M Q := by
  refine CT.mk [some (.ref 0), none] (by decide) (Nat.le_of_ble_eq_true rfl) rfl rfl ?_
  refine G_aload_n (K := mX5_wipe) (i := 0) dX5_wipe_0 rfl rfl ?_
  refine G_geti (K := mX5_wipe) fX5_260 dX5_wipe_1 rfl rfl ?_
  refine G_istore_n (K := mX5_wipe) (i := 1) dX5_wipe_4 rfl (by decide) ?_
  refine G_aload_n (K := mX5_wipe) (i := 0) dX5_wipe_5 rfl rfl ?_
  refine G_iconst (K := mX5_wipe) (v := 0) dX5_wipe_6 (by decide) ?_
  refine G_puti (K := mX5_wipe) fX5_260 w5_19 dX5_wipe_7 rfl rfl ?_
  refine G_iload_n (K := mX5_wipe) (i := 1) dX5_wipe_10 rfl rfl ?_
  exact G_iret (st := []) (K := mX5_wipe) dX5_wipe_11 rfl (hQ _ _ ⟨congrArg (fun z => some (Value.int z)) hR.2.2.2.2.2.1, hR.obj (Or.inr ⟨rfl, rfl⟩)⟩)

set_option maxRecDepth 20000 in
theorem rf_tear {M σ : Mem}  (hR : RR M σ) (hI : Inv σ) {Q : Option Value → Mem → Prop} (hQ : ∀ u' M', PostR (opTear σ) u' M' → Q u' M') : CT mX5_tear shR 8 [.ref 0] M Q := by
  refine CT.mk [some (.ref 0), none] (by decide) (Nat.le_of_ble_eq_true rfl) rfl rfl ?_
  refine G_aload_n (K := mX5_tear) (i := 0) dX5_tear_0 rfl rfl ?_
  refine G_geti (K := mX5_tear) fX5_348 dX5_tear_1 rfl rfl ?_
  rw [hR.2.2.1]
  refine G_if_eq (K := mX5_tear) (tgt := 11) dX5_tear_4 (by decide) (fun c4 => ?_) (fun c4 => ?_)
  · skip
    refine G_iconst (K := mX5_tear) (v := 0) dX5_tear_11 (by decide) ?_
    refine G_istore_n (K := mX5_tear) (i := 1) dX5_tear_12 rfl (by decide) ?_
    refine G_aload_n (K := mX5_tear) (i := 0) dX5_tear_13 rfl rfl ?_
    refine G_iconst (K := mX5_tear) (v := 0) dX5_tear_14 (by decide) ?_
    refine G_put (K := mX5_tear) fX5_348 w5_3 dX5_tear_15 rfl rfl rfl rfl ?_
    refine G_iload_n (K := mX5_tear) (i := 1) dX5_tear_18 rfl rfl ?_
    exact G_iret (st := []) (K := mX5_tear) dX5_tear_19 rfl (hQ _ _ ⟨congrArg (fun z => some (Value.int z)) (if_pos c4).symm, hR.obj (Or.inl ⟨rfl, rfl, rfl⟩)⟩)
  · skip
    refine G_iconst (K := mX5_tear) (v := 1) dX5_tear_7 (by decide) ?_
    refine G_goto (K := mX5_tear) (tgt := 12) dX5_tear_8 (by decide) ?_
    refine G_istore_n (K := mX5_tear) (i := 1) dX5_tear_12 rfl (by decide) ?_
    refine G_aload_n (K := mX5_tear) (i := 0) dX5_tear_13 rfl rfl ?_
    refine G_iconst (K := mX5_tear) (v := 0) dX5_tear_14 (by decide) ?_
    refine G_put (K := mX5_tear) fX5_348 w5_3 dX5_tear_15 rfl rfl rfl rfl ?_
    refine G_iload_n (K := mX5_tear) (i := 1) dX5_tear_18 rfl rfl ?_
    exact G_iret (st := []) (K := mX5_tear) dX5_tear_19 rfl (hQ _ _ ⟨congrArg (fun z => some (Value.int z)) (if_neg c4).symm, hR.obj (Or.inl ⟨rfl, rfl, rfl⟩)⟩)

set_option maxRecDepth 20000 in
theorem c_X5_isSpot {M : Mem} {x : Int32} {Q : Option Value → Mem → Prop} (hQ : Q (some (.int (bI (decide (0 ≤ x ∧ x ≤ nI 9))))) M) : CT mX5_isSpot shR 1 [.int x] M Q := by
  refine CT.mk [some (.int x)] (by decide) (Nat.le_of_ble_eq_true rfl) rfl rfl ?_
  refine G_iload_n (K := mX5_isSpot) (i := 0) dX5_isSpot_0 rfl rfl ?_
  refine G_iconst (K := mX5_isSpot) (v := 0) dX5_isSpot_1 (by decide) ?_
  refine G_bipush (K := mX5_isSpot) (v := 9) dX5_isSpot_2 (by decide) ?_
  refine G_sv (K := mX5_isSpot) (c_X5_within (v := x) (a := 0) (b := nI 9) ⟨rfl, rfl⟩) sX5_within rfl lX5_97 dX5_isSpot_4 (by decide) rfl (Nat.le_of_ble_eq_true rfl) ?_
  exact G_zrm (K := mX5_isSpot) dX5_isSpot_7 rfl (by cases (decide ((0 : Int32) ≤ x ∧ x ≤ nI 9)) <;> rfl) rfl rfl hQ

set_option maxRecDepth 20000 in
theorem c_X5_isSheet {M : Mem} {x : Int32} {Q : Option Value → Mem → Prop} (hQ : Q (some (.int (bI (decide (0 ≤ x ∧ x ≤ nI 3))))) M) : CT mX5_isSheet shR 1 [.int x] M Q := by
  refine CT.mk [some (.int x)] (by decide) (Nat.le_of_ble_eq_true rfl) rfl rfl ?_
  refine G_iload_n (K := mX5_isSheet) (i := 0) dX5_isSheet_0 rfl rfl ?_
  refine G_iconst (K := mX5_isSheet) (v := 0) dX5_isSheet_1 (by decide) ?_
  refine G_iconst (K := mX5_isSheet) (v := 3) dX5_isSheet_2 (by decide) ?_
  refine G_sv (K := mX5_isSheet) (c_X5_within (v := x) (a := 0) (b := nI 3) ⟨rfl, rfl⟩) sX5_within rfl lX5_97 dX5_isSheet_3 (by decide) rfl (Nat.le_of_ble_eq_true rfl) ?_
  exact G_zrm (K := mX5_isSheet) dX5_isSheet_6 rfl (by cases (decide ((0 : Int32) ≤ x ∧ x ≤ nI 3)) <;> rfl) rfl rfl hQ

set_option maxRecDepth 20000 in
theorem rf_hold {M σ : Mem} {s r : Int32} (hR : RR M σ) (hI : Inv σ) {Q : Option Value → Mem → Prop} (hQ : ∀ u' M', PostR (opHold σ s r) u' M' → Q u' M') : CT mX5_hold shR 8 [.ref 0, .int s, .int r] M Q := by
  refine CT.mk [some (.ref 0), some (.int s), some (.int r)] (by decide) (Nat.le_of_ble_eq_true rfl) rfl rfl ?_
  refine G_iload_n (K := mX5_hold) (i := 1) dX5_hold_0 rfl rfl ?_
  refine G_sv (K := mX5_hold) (c_X5_isSpot (x := s) ⟨rfl, rfl⟩) sX5_isSpot rfl lX5_333 dX5_hold_1 (by decide) rfl (Nat.le_of_ble_eq_true rfl) ?_
  refine G_if_eq (K := mX5_hold) (tgt := 20) dX5_hold_4 (by decide) (fun c4 => ?_) (fun c4 => ?_)
  · skip
    refine G_aload_n (K := mX5_hold) (i := 0) dX5_hold_20 rfl rfl ?_
    refine G_ldc (K := mX5_hold) dX5_hold_21 kX5_92 ?_
    refine G_call0 (K := mX5_hold) (Q' := PostR (tl σ 0)) (rf_finding hR (k := 0) (by omega) (fun _ _ h => h)) vX5_finding rfl lX5_109 ⟨_, _, _, rfl, rfl, rfl⟩ (by decide) (Nat.le_of_ble_eq_true rfl) dX5_hold_23 rfl ?_
    rintro v M1 ⟨rfl, hR1⟩
    exact G_iret (st := []) (K := mX5_hold) dX5_hold_26 rfl (hQ _ _ (by rw [show opHold σ s r = _ from (by unfold opHold; exact if_neg (within_o (m := 9) (by decide) c4))]; exact ⟨rfl, hR1⟩))
  · skip
    obtain ⟨k, hk, rfl⟩ := within_i (m := 9) (by decide) c4
    have hB := roomB_nI (n := 10) (by decide) hk
    refine G_iload_n (K := mX5_hold) (i := 2) dX5_hold_7 rfl rfl ?_
    refine G_iconst (K := mX5_hold) (v := -1) dX5_hold_8 (by decide) ?_
    refine G_icmp_eq (K := mX5_hold) (tgt := 27) dX5_hold_9 (by decide) (fun c9 => ?_) (fun c9 => ?_)
    · skip
      refine G_aload_n (K := mX5_hold) (i := 0) dX5_hold_27 rfl rfl ?_
      refine G_getr (K := mX5_hold) fX5_9 dX5_hold_28 rfl rfl ?_
      refine G_iconst (K := mX5_hold) (v := 4) dX5_hold_31 (by decide) ?_
      refine G_iload_n (K := mX5_hold) (i := 1) dX5_hold_32 rfl rfl ?_
      refine G_iadd (K := mX5_hold) dX5_hold_33 ?_
      rw [show (4 : Int32) + nI k = nI (4 + k) from nI_add 4 k]
      refine G_iload_n (K := mX5_hold) (i := 2) dX5_hold_34 rfl rfl ?_
      refine G_sto (K := mX5_hold) (4 + k) dX5_hold_35 rfl rfl (by omega) (by decide) ?_
      refine G_iconst (K := mX5_hold) (v := 1) dX5_hold_36 (by decide) ?_
      exact G_iret (st := []) (K := mX5_hold) dX5_hold_37 rfl (hQ _ _ (by rw [show opHold σ (nI k) r = (1, ups σ 10 (cut (nI k)) r) from (if_pos hB).trans (if_pos c9), cut_nI (by omega)]; exact ⟨rfl, hR.house (fun c hc => ups_cell (by omega)) (by rw [nOf_ups (by omega), toH_sp hk]; exact HR.spot hR.1) (fun c hc => ups_cell (by unfold solid at hc; omega)) (by rw [ups_cell (by decide)]) (by rw [ups_cell (by decide)])⟩))
    · skip
      refine G_aload_n (K := mX5_hold) (i := 0) dX5_hold_12 rfl rfl ?_
      refine G_iload_n (K := mX5_hold) (i := 2) dX5_hold_13 rfl rfl ?_
      refine G_cv (K := mX5_hold) (c_X5_isRoom (r := r) (n := nOf σ) (hR.n hI) hI.n8 ⟨rfl, rfl⟩) vX5_isRoom rfl lX5_128 dX5_hold_14 ⟨_, _, _, rfl, rfl, rfl⟩ (by decide) rfl (Nat.le_of_ble_eq_true rfl) ?_
      refine G_if_ne (K := mX5_hold) (tgt := 27) dX5_hold_17 (by decide) (fun c17 => ?_) (fun c17 => ?_)
      · skip
        refine G_aload_n (K := mX5_hold) (i := 0) dX5_hold_27 rfl rfl ?_
        refine G_getr (K := mX5_hold) fX5_9 dX5_hold_28 rfl rfl ?_
        refine G_iconst (K := mX5_hold) (v := 4) dX5_hold_31 (by decide) ?_
        refine G_iload_n (K := mX5_hold) (i := 1) dX5_hold_32 rfl rfl ?_
        refine G_iadd (K := mX5_hold) dX5_hold_33 ?_
        rw [show (4 : Int32) + nI k = nI (4 + k) from nI_add 4 k]
        refine G_iload_n (K := mX5_hold) (i := 2) dX5_hold_34 rfl rfl ?_
        refine G_sto (K := mX5_hold) (4 + k) dX5_hold_35 rfl rfl (by omega) (by decide) ?_
        refine G_iconst (K := mX5_hold) (v := 1) dX5_hold_36 (by decide) ?_
        exact G_iret (st := []) (K := mX5_hold) dX5_hold_37 rfl (hQ _ _ (by rw [show opHold σ (nI k) r = (1, ups σ 10 (cut (nI k)) r) from (if_pos hB).trans ((if_neg c9).trans (if_pos (bI_1 c17))), cut_nI (by omega)]; exact ⟨rfl, hR.house (fun c hc => ups_cell (by omega)) (by rw [nOf_ups (by omega), toH_sp hk]; exact HR.spot hR.1) (fun c hc => ups_cell (by unfold solid at hc; omega)) (by rw [ups_cell (by decide)]) (by rw [ups_cell (by decide)])⟩))
      · skip
        refine G_aload_n (K := mX5_hold) (i := 0) dX5_hold_20 rfl rfl ?_
        refine G_ldc (K := mX5_hold) dX5_hold_21 kX5_92 ?_
        refine G_call0 (K := mX5_hold) (Q' := PostR (tl σ 0)) (rf_finding hR (k := 0) (by omega) (fun _ _ h => h)) vX5_finding rfl lX5_109 ⟨_, _, _, rfl, rfl, rfl⟩ (by decide) (Nat.le_of_ble_eq_true rfl) dX5_hold_23 rfl ?_
        rintro v M1 ⟨rfl, hR1⟩
        exact G_iret (st := []) (K := mX5_hold) dX5_hold_26 rfl (hQ _ _ (by rw [show opHold σ (nI k) r = _ from (by unfold opHold; exact (if_pos hB).trans ((if_neg c9).trans (if_neg (by rw [bI_0 c17]; decide))))]; exact ⟨rfl, hR1⟩))

set_option maxRecDepth 20000 in
theorem c_X5_above {M : Mem} {q : Nat} (hq : q ≤ 6) {Q : Option Value → Mem → Prop} (hQ : Q (some (.int (tAbove.getD q 0))) M) : CT mX5_above shR 0 [.int (nI q)] M Q := by
  refine CT.mk [some (.int (nI q))] (by decide) (Nat.le_of_ble_eq_true rfl) rfl rfl ?_
  refine G_iload_n (K := mX5_above) (i := 0) dX5_above_0 rfl rfl ?_
  refine G_if_ne (K := mX5_above) (tgt := 8) dX5_above_1 (by decide) (fun c1 => ?_) (fun c1 => ?_)
  · skip
    refine G_iload_n (K := mX5_above) (i := 0) dX5_above_8 rfl rfl ?_
    refine G_iconst (K := mX5_above) (v := 3) dX5_above_9 (by decide) ?_
    refine G_icmp_eq (K := mX5_above) (tgt := 19) dX5_above_10 (by decide) (fun c10 => ?_) (fun c10 => ?_)
    · skip
      refine G_iconst (K := mX5_above) (v := 2) dX5_above_19 (by decide) ?_
      refine G_goto (K := mX5_above) (tgt := 33) dX5_above_20 (by decide) ?_
      exact G_irm (K := mX5_above) dX5_above_33 rfl (by
        have h7 : q = 0 ∨ q = 1 ∨ q = 2 ∨ q = 3 ∨ q = 4 ∨ q = 5 ∨ q = 6 := by omega
        rcases h7 with rfl | rfl | rfl | rfl | rfl | rfl | rfl <;> first | rfl | (exfalso; revert c1 c10; decide)) rfl hQ
    · skip
      refine G_iload_n (K := mX5_above) (i := 0) dX5_above_13 rfl rfl ?_
      refine G_bipush (K := mX5_above) (v := 6) dX5_above_14 (by decide) ?_
      refine G_icmp_ne (K := mX5_above) (tgt := 23) dX5_above_16 (by decide) (fun c16 => ?_) (fun c16 => ?_)
      · skip
        refine G_iload_n (K := mX5_above) (i := 0) dX5_above_23 rfl rfl ?_
        refine G_iconst (K := mX5_above) (v := 4) dX5_above_24 (by decide) ?_
        refine G_icmp_ne (K := mX5_above) (tgt := 32) dX5_above_25 (by decide) (fun c25 => ?_) (fun c25 => ?_)
        · skip
          refine G_iconst (K := mX5_above) (v := 0) dX5_above_32 (by decide) ?_
          exact G_irm (K := mX5_above) dX5_above_33 rfl (by
            have h7 : q = 0 ∨ q = 1 ∨ q = 2 ∨ q = 3 ∨ q = 4 ∨ q = 5 ∨ q = 6 := by omega
            rcases h7 with rfl | rfl | rfl | rfl | rfl | rfl | rfl <;> first | rfl | (exfalso; revert c1 c10 c16 c25; decide)) rfl hQ
        · skip
          refine G_iconst (K := mX5_above) (v := 1) dX5_above_28 (by decide) ?_
          refine G_goto (K := mX5_above) (tgt := 33) dX5_above_29 (by decide) ?_
          exact G_irm (K := mX5_above) dX5_above_33 rfl (by
            have h7 : q = 0 ∨ q = 1 ∨ q = 2 ∨ q = 3 ∨ q = 4 ∨ q = 5 ∨ q = 6 := by omega
            rcases h7 with rfl | rfl | rfl | rfl | rfl | rfl | rfl <;> first | rfl | (exfalso; revert c1 c10 c16 c25; decide)) rfl hQ
      · skip
        refine G_iconst (K := mX5_above) (v := 2) dX5_above_19 (by decide) ?_
        refine G_goto (K := mX5_above) (tgt := 33) dX5_above_20 (by decide) ?_
        exact G_irm (K := mX5_above) dX5_above_33 rfl (by
          have h7 : q = 0 ∨ q = 1 ∨ q = 2 ∨ q = 3 ∨ q = 4 ∨ q = 5 ∨ q = 6 := by omega
          rcases h7 with rfl | rfl | rfl | rfl | rfl | rfl | rfl <;> first | rfl | (exfalso; revert c1 c10 c16; decide)) rfl hQ
  · skip
    refine G_iconst (K := mX5_above) (v := -1) dX5_above_4 (by decide) ?_
    refine G_goto (K := mX5_above) (tgt := 33) dX5_above_5 (by decide) ?_
    exact G_irm (K := mX5_above) dX5_above_33 rfl (by
      have h7 : q = 0 ∨ q = 1 ∨ q = 2 ∨ q = 3 ∨ q = 4 ∨ q = 5 ∨ q = 6 := by omega
      rcases h7 with rfl | rfl | rfl | rfl | rfl | rfl | rfl <;> first | rfl | (exfalso; revert c1; decide)) rfl hQ

set_option maxRecDepth 20000 in
theorem c_X5_isUnder {M : Mem} {k : Nat} {w : Int32} (hk6 : k ≤ 6) {Q : Option Value → Mem → Prop} (hQ : Q (some (.int (bI (underB k w)))) M) : CT mX5_isUnder shR 1 [.int (nI k), .int w] M Q := by
  refine CT.mk [some (.int (nI k)), some (.int w), none] (by decide) (Nat.le_of_ble_eq_true rfl) rfl rfl ?_
  refine G_iload_n (K := mX5_isUnder) (i := 0) dX5_isUnder_0 rfl rfl ?_
  refine G_istore_n (K := mX5_isUnder) (i := 2) dX5_isUnder_1 rfl (by decide) ?_
  have loop2 : ∀ i, i ≤ 7 → ∀ a, ((a = -1 ∧ i ≤ 4 ∧ underB k w = false) ∨ ∃ q, q ≤ 6 ∧ a = nI q ∧ i + depK q ≤ 4 ∧ underB k w = underB q w) → G mX5_isUnder shR 1 Q 2 [some (.int (nI k)), some (.int w), some (.int a)] [] M := by
    refine upto 7 (fun i hi ih => ?_)
    intro a ha
    refine G_iload_n (K := mX5_isUnder) (i := 2) dX5_isUnder_2 rfl rfl ?_
    refine G_if_lt (K := mX5_isUnder) (tgt := 19) dX5_isUnder_3 (by decide) (fun c3 => ?_) (fun c3 => ?_)
    · skip
      have hB : underB k w = false := by
        rcases ha with h | ⟨q, h1, rfl, h3, h4⟩
        · exact h.2.2
        · exact absurd c3 (nI_pos (by omega))
      refine G_iload_n (K := mX5_isUnder) (i := 2) dX5_isUnder_19 rfl rfl ?_
      refine G_if_lt (K := mX5_isUnder) (tgt := 27) dX5_isUnder_20 (by decide) (fun c20 => ?_) (fun c20 => ?_)
      · skip
        refine G_iconst (K := mX5_isUnder) (v := 0) dX5_isUnder_27 (by decide) ?_
        exact G_zrm (K := mX5_isUnder) dX5_isUnder_28 rfl rfl (bI_f hB).symm rfl hQ
      · skip
        exact absurd c3 c20
    · skip
      obtain ⟨q, hq6, rfl, hqi, hqB⟩ : ∃ q, q ≤ 6 ∧ a = nI q ∧ i + depK q ≤ 4 ∧ underB k w = underB q w := by
        rcases ha with ⟨rfl, -, -⟩ | h
        · exact absurd (by decide) c3
        · exact h
      refine G_iload_n (K := mX5_isUnder) (i := 2) dX5_isUnder_6 rfl rfl ?_
      refine G_iload_n (K := mX5_isUnder) (i := 1) dX5_isUnder_7 rfl rfl ?_
      refine G_icmp_eq (K := mX5_isUnder) (tgt := 19) dX5_isUnder_8 (by decide) (fun c8 => ?_) (fun c8 => ?_)
      · skip
        refine G_iload_n (K := mX5_isUnder) (i := 2) dX5_isUnder_19 rfl rfl ?_
        refine G_if_lt (K := mX5_isUnder) (tgt := 27) dX5_isUnder_20 (by decide) (fun c20 => ?_) (fun c20 => ?_)
        · skip
          exact absurd c20 (nI_pos (by omega))
        · skip
          refine G_iconst (K := mX5_isUnder) (v := 1) dX5_isUnder_23 (by decide) ?_
          refine G_goto (K := mX5_isUnder) (tgt := 28) dX5_isUnder_24 (by decide) ?_
          exact G_zrm (K := mX5_isUnder) dX5_isUnder_28 rfl rfl (bI_t (hqB.trans (underB_t hq6 c8))).symm rfl hQ
      · skip
        refine G_iload_n (K := mX5_isUnder) (i := 2) dX5_isUnder_11 rfl rfl ?_
        refine G_sv (K := mX5_isUnder) (c_X5_above (M := M) (q := q) hq6 ⟨rfl, rfl⟩) sX5_above rfl lX5_117 dX5_isUnder_12 (by decide) rfl (Nat.le_of_ble_eq_true rfl) ?_
        refine G_istore_n (K := mX5_isUnder) (i := 2) dX5_isUnder_15 rfl (by decide) ?_
        refine G_goto (K := mX5_isUnder) (tgt := 2) dX5_isUnder_16 (by decide) ?_
        have hd : 1 ≤ depK q := by
          have h7 : q = 0 ∨ q = 1 ∨ q = 2 ∨ q = 3 ∨ q = 4 ∨ q = 5 ∨ q = 6 := by omega
          rcases h7 with rfl | rfl | rfl | rfl | rfl | rfl | rfl <;> decide
        rcases underB_s hq6 (fun e => c8 e) with ⟨e1, rfl, e2⟩ | ⟨e1, e2, e3, e4⟩
        · exact ih (i + 1) (by omega) (by omega) _ (Or.inl ⟨e1, by have : depK 0 = 1 := rfl; omega, hqB.trans e2⟩)
        · exact ih (i + 1) (by omega) (by omega) _ (Or.inr ⟨parN q, e2, e1, by omega, hqB.trans e4⟩)
  exact loop2 0 (by omega) _ (Or.inr ⟨k, hk6, rfl, by
    have h7 : k = 0 ∨ k = 1 ∨ k = 2 ∨ k = 3 ∨ k = 4 ∨ k = 5 ∨ k = 6 := by omega
    rcases h7 with rfl | rfl | rfl | rfl | rfl | rfl | rfl <;> decide, rfl⟩)

set_option maxRecDepth 20000 in
theorem rf_as {M σ : Mem} {s w : Int32} (hR : RR M σ) (hI : Inv σ) {Q : Option Value → Mem → Prop} (hQ : ∀ u' M', PostR (opAs σ s w) u' M' → Q u' M') : CT mX5_as shR 8 [.ref 0, .int s, .int w] M Q := by
  refine CT.mk [some (.ref 0), some (.int s), some (.int w), none] (by decide) (Nat.le_of_ble_eq_true rfl) rfl rfl ?_
  refine G_iload_n (K := mX5_as) (i := 1) dX5_as_0 rfl rfl ?_
  refine G_sv (K := mX5_as) (c_X5_isSpot (x := s) ⟨rfl, rfl⟩) sX5_isSpot rfl lX5_333 dX5_as_1 (by decide) rfl (Nat.le_of_ble_eq_true rfl) ?_
  refine G_if_eq (K := mX5_as) (tgt := 14) dX5_as_4 (by decide) (fun c4 => ?_) (fun c4 => ?_)
  · skip
    refine G_aload_n (K := mX5_as) (i := 0) dX5_as_14 rfl rfl ?_
    refine G_ldc (K := mX5_as) dX5_as_15 kX5_92 ?_
    refine G_call0 (K := mX5_as) (Q' := PostR (tl σ 0)) (rf_finding hR (k := 0) (by omega) (fun _ _ h => h)) vX5_finding rfl lX5_109 ⟨_, _, _, rfl, rfl, rfl⟩ (by decide) (Nat.le_of_ble_eq_true rfl) dX5_as_17 rfl ?_
    rintro v M1 ⟨rfl, hR1⟩
    exact G_iret (st := []) (K := mX5_as) dX5_as_20 rfl (hQ _ _ (by rw [show opAs σ s w = _ from (by unfold opAs; exact if_neg (within_o (m := 9) (by decide) c4))]; exact ⟨rfl, hR1⟩))
  · skip
    obtain ⟨k, hk, rfl⟩ := within_i (m := 9) (by decide) c4
    have hB := roomB_nI (n := 10) (by decide) hk
    refine G_iload_n (K := mX5_as) (i := 2) dX5_as_7 rfl rfl ?_
    refine G_sv (K := mX5_as) (c_X5_isKind (x := w) ⟨rfl, rfl⟩) sX5_isKind rfl lX5_105 dX5_as_8 (by decide) rfl (Nat.le_of_ble_eq_true rfl) ?_
    refine G_if_ne (K := mX5_as) (tgt := 21) dX5_as_11 (by decide) (fun c11 => ?_) (fun c11 => ?_)
    · skip
      obtain ⟨kk1, kk2⟩ := within_2 c11
      have hn8 := hI.n8
      have hsp := hI.1.2.2.2.1 k hk
      unfold rg at hsp
      refine G_aload_n (K := mX5_as) (i := 0) dX5_as_21 rfl rfl ?_
      refine G_getr (K := mX5_as) fX5_9 dX5_as_22 rfl rfl ?_
      refine G_iconst (K := mX5_as) (v := 4) dX5_as_25 (by decide) ?_
      refine G_iload_n (K := mX5_as) (i := 1) dX5_as_26 rfl rfl ?_
      refine G_iadd (K := mX5_as) dX5_as_27 ?_
      rw [show (4 : Int32) + nI k = nI (4 + k) from nI_add 4 k]
      refine G_ld (K := mX5_as) (4 + k) dX5_as_28 rfl rfl (by omega) (by decide) ?_
      rw [show M 1 (4 + k) = σ 10 k from (toH_spv (M 1) hk).symm.trans (hR.1.2.1 k hk)]
      refine G_istore_n (K := mX5_as) (i := 3) dX5_as_29 rfl (by decide) ?_
      refine G_iload_n (K := mX5_as) (i := 3) dX5_as_30 rfl rfl ?_
      refine G_if_ge (K := mX5_as) (tgt := 42) dX5_as_31 (by decide) (fun c31 => ?_) (fun c31 => ?_)
      · skip
        have hB2 : roomB (nOf σ) (σ 10 k) = true := decide_eq_true ⟨by rw [i32_le] at c31; exact c31, by omega⟩
        obtain ⟨q, hq, eq⟩ := roomB_t (by omega) hB2
        rw [eq]
        have hkr := (hI.1.2.2.2.2 q hq).1
        unfold rg at hkr
        obtain ⟨kk, hkk, ekk⟩ : ∃ kk, kk ≤ 6 ∧ σ 1 q = nI kk := ⟨(σ 1 q).toInt.toNat, by omega, i32_ext (by rw [nI_toI (by omega)]; omega)⟩
        refine G_aload_n (K := mX5_as) (i := 0) dX5_as_42 rfl rfl ?_
        refine G_iload_n (K := mX5_as) (i := 3) dX5_as_43 rfl rfl ?_
        refine G_iconst (K := mX5_as) (v := 0) dX5_as_44 (by decide) ?_
        refine G_cv (K := mX5_as) (c_X5_roomIs (M := M) (i := q) (f := 0) (by omega) (by omega) ⟨rfl, rfl⟩) vX5_roomIs rfl lX5_120 dX5_as_45 ⟨_, _, _, rfl, rfl, rfl⟩ (by decide) rfl (Nat.le_of_ble_eq_true rfl) ?_
        rw [show toH (M 1) (1 + 0) q = σ 1 q from hR.1.f 1 (by omega) (by omega) hq, ekk]
        refine G_iload_n (K := mX5_as) (i := 2) dX5_as_48 rfl rfl ?_
        refine G_sv (K := mX5_as) (c_X5_isUnder (M := M) (k := kk) (w := w) hkk ⟨rfl, rfl⟩) sX5_isUnder rfl lX5_337 dX5_as_49 (by decide) rfl (Nat.le_of_ble_eq_true rfl) ?_
        refine G_if_eq (K := mX5_as) (tgt := 59) dX5_as_52 (by decide) (fun c52 => ?_) (fun c52 => ?_)
        · skip
          refine G_aload_n (K := mX5_as) (i := 0) dX5_as_59 rfl rfl ?_
          refine G_ldcw (K := mX5_as) dX5_as_60 kX5_340 ?_
          refine G_call0 (K := mX5_as) (Q' := PostR (tl σ 2)) (rf_finding hR (k := 2) (by omega) (fun _ _ h => h)) vX5_finding rfl lX5_109 ⟨_, _, _, rfl, rfl, rfl⟩ (by decide) (Nat.le_of_ble_eq_true rfl) dX5_as_63 rfl ?_
          rintro v M1 ⟨rfl, hR1⟩
          exact G_iret (st := []) (K := mX5_as) dX5_as_66 rfl (hQ _ _ (by rw [show opAs σ (nI k) w = (if underB (cut (σ 1 (cut (σ 10 (cut (nI k)))))) w = true then (σ 10 (cut (nI k)), σ) else tl σ 2) from (if_pos hB).trans ((if_neg kk1).trans ((if_neg kk2).trans (if_pos (by rw [cut_nI (by omega)]; exact hB2)))), cut_nI (k := k) (by omega), eq, cut_nI (k := q) (by omega), ekk, cut_nI (by omega), if_neg (by rw [bI_0 c52]; decide)]; exact ⟨rfl, hR1⟩))
        · skip
          refine G_iload_n (K := mX5_as) (i := 3) dX5_as_55 rfl rfl ?_
          refine G_goto (K := mX5_as) (tgt := 66) dX5_as_56 (by decide) ?_
          exact G_iret (st := []) (K := mX5_as) dX5_as_66 rfl (hQ _ _ (by rw [show opAs σ (nI k) w = (if underB (cut (σ 1 (cut (σ 10 (cut (nI k)))))) w = true then (σ 10 (cut (nI k)), σ) else tl σ 2) from (if_pos hB).trans ((if_neg kk1).trans ((if_neg kk2).trans (if_pos (by rw [cut_nI (by omega)]; exact hB2)))), cut_nI (k := k) (by omega), eq, cut_nI (k := q) (by omega), ekk, cut_nI (by omega), if_pos (bI_1 c52)]; exact ⟨rfl, hR⟩))
      · skip
        have hno : ¬ roomB (nOf σ) (σ 10 k) = true := fun z => by
          have h := (of_decide_eq_true z).1
          rw [i32_le] at c31
          exact c31 h
        refine G_aload_n (K := mX5_as) (i := 0) dX5_as_34 rfl rfl ?_
        refine G_ldcw (K := mX5_as) dX5_as_35 kX5_336 ?_
        refine G_call0 (K := mX5_as) (Q' := PostR (tl σ 5)) (rf_finding hR (k := 5) (by omega) (fun _ _ h => h)) vX5_finding rfl lX5_109 ⟨_, _, _, rfl, rfl, rfl⟩ (by decide) (Nat.le_of_ble_eq_true rfl) dX5_as_38 rfl ?_
        rintro v M1 ⟨rfl, hR1⟩
        exact G_iret (st := []) (K := mX5_as) dX5_as_41 rfl (hQ _ _ (by rw [show opAs σ (nI k) w = _ from (by unfold opAs; exact (if_pos hB).trans ((if_neg kk1).trans ((if_neg kk2).trans (if_neg (by rw [cut_nI (by omega)]; exact hno)))))]; exact ⟨rfl, hR1⟩))
    · skip
      refine G_aload_n (K := mX5_as) (i := 0) dX5_as_14 rfl rfl ?_
      refine G_ldc (K := mX5_as) dX5_as_15 kX5_92 ?_
      refine G_call0 (K := mX5_as) (Q' := PostR (tl σ 0)) (rf_finding hR (k := 0) (by omega) (fun _ _ h => h)) vX5_finding rfl lX5_109 ⟨_, _, _, rfl, rfl, rfl⟩ (by decide) (Nat.le_of_ble_eq_true rfl) dX5_as_17 rfl ?_
      rintro v M1 ⟨rfl, hR1⟩
      exact G_iret (st := []) (K := mX5_as) dX5_as_20 rfl (hQ _ _ (by rw [show opAs σ (nI k) w = _ from (by unfold opAs; exact (if_pos hB).trans ((within_3 c11).elim (fun h => if_pos h) (fun h => (if_neg h.1).trans (if_pos h.2))))]; exact ⟨rfl, hR1⟩))
