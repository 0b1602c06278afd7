/-- the reference's memory is as the state -/
def RR (M σ : Mem) : Prop := HR (toH (M 1)) σ (nOf σ) ∧ (¬ σ 40 0 = 0 → HR (toH (M 2)) (keptH σ) (nOf (keptH σ))) ∧ M 0 3 = σ 40 0 ∧ ((∀ k, k < 7 → M 4 (k + 1) = σ 41 k) ∧ M 4 0 = sumN (σ 41) 7) ∧ (∀ i, i < 120 → M 12 i = σ 42 i) ∧ M 0 19 = σ 43 0 ∧
  (∀ s, s < 4 → M 16 s = σ 44 s ∧ M 17 s = σ 45 s ∧ ∀ i, i < 40 → M 18 (40 * s + i) = σ (46 + s) i) ∧ ∀ i, i < 9 → M 5 i = tLeast.getD i 0 ∧ M 6 i = tMost.getD i 0
def PostR (r : Int32 × Mem) : Option Value → Mem → Prop := fun v M' => v = some (.int r.1) ∧ RR M' r.2
/-- what of the reference's cells is not scratch: all but 0, 1, 3, 7 to 11, 13 to 15, 19 -/
def solid (c : Nat) : Prop := c = 2 ∨ c = 4 ∨ c = 5 ∨ c = 6 ∨ c = 12 ∨ c = 16 ∨ c = 17 ∨ c = 18
theorem RR.house {M M2 σ σ' : Mem} (hR : RR M σ) (he : ∀ c, 11 ≤ c → σ' c = σ c) (H : HR (toH (M2 1)) σ' (nOf σ')) (hs : ∀ c, solid c → M2 c = M c) (h3 : M2 0 3 = M 0 3) (h19 : M2 0 19 = M 0 19) : RR M2 σ' := by
  obtain ⟨r1, r2, r3, r4, r5, r6, r7, r8⟩ := hR
  have ek : keptH σ' = keptH σ := funext fun c => he _ (by omega)
  unfold solid at hs
  refine ⟨H, by rw [ek, hs 2 (by omega), he 40 (by omega)]; exact r2, by rw [h3, he 40 (by omega)]; exact r3, by rw [hs 4 (by omega), he 41 (by omega)]; exact r4, by rw [hs 12 (by omega), he 42 (by omega)]; exact r5, by rw [h19, he 43 (by omega)]; exact r6, fun s hs2 => ?_, by rw [hs 5 (by omega), hs 6 (by omega)]; exact r8⟩
  rw [hs 16 (by omega), hs 17 (by omega), hs 18 (by omega), he 44 (by omega), he 45 (by omega), he (46 + s) (by omega)]
  exact r7 s hs2
theorem RR.scr {M M2 σ : Mem} (hR : RR M σ) (h1 : toH (M2 1) = toH (M 1)) (hs : ∀ c, solid c → M2 c = M c) (h3 : M2 0 3 = M 0 3) (h19 : M2 0 19 = M 0 19) : RR M2 σ := hR.house (fun _ _ => rfl) (by rw [h1]; exact hR.1) hs h3 h19
theorem RR.n {M σ : Mem} (hR : RR M σ) (hI : Inv σ) : M 1 2 = nI (nOf σ) := (hR.1.1 0 (by omega)).trans hI.nI
theorem RR.hour {M σ : Mem} (hR : RR M σ) : M 1 0 = σ 0 2 := hR.1.1 2 (by omega)
theorem RR.out {M σ : Mem} (hR : RR M σ) : M 1 1 = σ 0 1 := hR.1.1 1 (by omega)
theorem RR.z {M σ : Mem} (hR : RR M σ) : M 1 3 = σ 0 3 := hR.1.1 3 (by omega)
theorem RR.wall {M σ : Mem} (hR : RR M σ) (hI : Inv σ) : ∀ i, i < nOf σ → 0 < toH (M 1) 4 i := fun i hi => by rw [hR.1.f 4 (by omega) (by omega) hi]; exact hI.wall i hi
theorem sumN_up {f g : Nat → Int32} {k : Nat} (hk : g k = f k + 1) (hne : ∀ i, i ≠ k → g i = f i) : ∀ n, sumN g n = if k < n then sumN f n + 1 else sumN f n
  | 0 => by rw [if_neg (by omega)]; rfl
  | n + 1 => by
    show sumN g n + g n = _
    rw [sumN_up hk hne n]
    have e : sumN f (n + 1) = sumN f n + f n := rfl
    by_cases h : n = k
    · subst h
      rw [if_neg (by omega), if_pos (by omega), hk, e]
      grind
    · rw [hne n h]
      by_cases h2 : k < n
      · rw [if_pos h2, if_pos (by omega), e]; grind
      · rw [if_neg h2, if_neg (by omega), e]
theorem RR.tell {M σ : Mem} (hR : RR M σ) {k : Nat} (hk : k < 7) : RR (ups (ups M 4 (k + 1) (M 4 (k + 1) + 1)) 4 0 (M 4 0 + 1)) (ups σ 41 k (σ 41 k + 1)) := by
  obtain ⟨r1, r2, r3, r4, r5, r6, r7, r8⟩ := hR
  have em : ∀ c, c ≠ 4 → ups (ups M 4 (k + 1) (M 4 (k + 1) + 1)) 4 0 (M 4 0 + 1) c = M c := fun c hc => by rw [ups_cell hc, ups_cell hc]
  have es : ∀ c, c ≠ 41 → ups σ 41 k (σ 41 k + 1) c = σ c := fun c hc => ups_cell hc
  have hn : nOf (ups σ 41 k (σ 41 k + 1)) = nOf σ := nOf_ups (by decide)
  have hk2 : ∀ j, j < 11 → keptH (ups σ 41 k (σ 41 k + 1)) j = keptH σ j := fun j hj => es (20 + j) (by omega)
  have hn2 : nOf (keptH (ups σ 41 k (σ 41 k + 1))) = nOf (keptH σ) := by unfold nOf; rw [hk2 0 (by omega)]
  refine ⟨?_, ?_, by rw [em 0 (by omega), es 40 (by omega)]; exact r3, ⟨fun i hi => ?_, ?_⟩, by rw [em 12 (by omega), es 42 (by omega)]; exact r5, by rw [em 0 (by omega), es 43 (by omega)]; exact r6, fun s hs => ?_, by rw [em 5 (by omega), em 6 (by omega)]; exact r8⟩
  · rw [hn, em 1 (by omega)]
    exact r1.tr (HR.ofEq (fun j hj => (es j (by omega)).symm) (HR.rf _ _))
  · rw [hn2, em 2 (by omega), es 40 (by omega)]
    exact fun h => (r2 h).tr (HR.ofEq (fun j hj => (hk2 j hj).symm) (HR.rf _ _))
  · rw [ups_ne (by omega)]
    by_cases h : i = k
    · subst h; rw [ups_same, ups_same, r4.1 i hi]
    · rw [ups_ne (by omega), ups_ne (fun z => h z.2)]; exact r4.1 i hi
  · rw [ups_same, r4.2]
    have e := sumN_up (f := σ 41) (g := ups σ 41 k (σ 41 k + 1) 41) (k := k) (ups_same _ _ _ _) (fun i hi => ups_ne (fun z => hi z.2)) 7
    rw [if_pos hk] at e
    exact e.symm
  · rw [em 16 (by omega), em 17 (by omega), em 18 (by omega), es 44 (by omega), es 45 (by omega), es (46 + s) (by omega)]
    exact r7 s hs
set_option maxRecDepth 20000 in
theorem rf_finding {M σ : Mem} {k : Nat} (hR : RR M σ) (hk : k < 7) {Q : Option Value → Mem → Prop} (hQ : ∀ v M', PostR (tl σ k) v M' → Q v M') : CT mX5_finding shR 0 [.ref 0, .int (finI k)] M Q := by
  refine CT.mk [some (.ref 0), some (.int (finI k))] (by decide) (Nat.le_of_ble_eq_true rfl) rfl rfl ?_
  refine G_aload_n (K := mX5_finding) (i := 0) dX5_finding_0 rfl rfl ?_
  refine G_getr (K := mX5_finding) fX5_19 dX5_finding_1 rfl rfl ?_
  refine G_ldc (K := mX5_finding) dX5_finding_4 kX5_92 ?_
  refine G_iload_n (K := mX5_finding) (i := 1) dX5_finding_6 rfl rfl ?_
  refine G_isub (K := mX5_finding) dX5_finding_7 ?_
  rw [finI_sub]
  refine G_iconst (K := mX5_finding) (v := 1) dX5_finding_8 (by decide) ?_
  refine G_iadd (K := mX5_finding) dX5_finding_9 ?_
  rw [nI_1]
  refine G_dup2 (K := mX5_finding) dX5_finding_10 rfl rfl ?_
  refine G_ld (K := mX5_finding) (k + 1) dX5_finding_11 rfl rfl (by omega) (by decide) ?_
  refine G_iconst (K := mX5_finding) (v := 1) dX5_finding_12 (by decide) ?_
  refine G_iadd (K := mX5_finding) dX5_finding_13 ?_
  refine G_sto (K := mX5_finding) (k + 1) dX5_finding_14 rfl rfl (by omega) (by decide) ?_
  refine G_aload_n (K := mX5_finding) (i := 0) dX5_finding_15 rfl rfl ?_
  refine G_getr (K := mX5_finding) fX5_19 dX5_finding_16 rfl rfl ?_
  refine G_iconst (K := mX5_finding) (v := 0) dX5_finding_19 (by decide) ?_
  refine G_dup2 (K := mX5_finding) dX5_finding_20 rfl rfl ?_
  have e0 : ups M 4 (k + 1) (M 4 (k + 1) + 1) 4 0 = M 4 0 := ups_ne (by omega)
  refine G_ld (K := mX5_finding) 0 dX5_finding_21 rfl rfl (by omega) (by decide) ?_
  rw [e0]
  refine G_iconst (K := mX5_finding) (v := 1) dX5_finding_22 (by decide) ?_
  refine G_iadd (K := mX5_finding) dX5_finding_23 ?_
  refine G_sto (K := mX5_finding) 0 dX5_finding_24 rfl rfl (by omega) (by decide) ?_
  refine G_iload_n (K := mX5_finding) (i := 1) dX5_finding_25 rfl rfl ?_
  exact G_iret (st := []) (K := mX5_finding) dX5_finding_26 rfl (hQ _ _ ⟨rfl, hR.tell hk⟩)

theorem within_1 {a m : Int32} (h : bI (decide (1 ≤ a ∧ a ≤ m)) = 0) : a < 1 ∨ (¬ a < 1 ∧ m < a) := by
  have h2 := of_decide_eq_false (bI_0 h)
  by_cases h1 : a < 1
  · exact Or.inl h1
  · exact Or.inr ⟨h1, Int32.not_le.mp (fun z => h2 ⟨Int32.not_lt.mp h1, z⟩)⟩
theorem within_2 {a m l : Int32} (h : ¬ bI (decide (l ≤ a ∧ a ≤ m)) = 0) : ¬ a < l ∧ ¬ m < a := by
  have h2 := of_decide_eq_true (bI_1 h)
  exact ⟨Int32.not_lt.mpr h2.1, Int32.not_lt.mpr h2.2⟩
theorem within_3 {a m l : Int32} (h : bI (decide (l ≤ a ∧ a ≤ m)) = 0) : a < l ∨ (¬ a < l ∧ m < a) := by
  have h2 := of_decide_eq_false (bI_0 h)
  by_cases h1 : a < l
  · exact Or.inl h1
  · exact Or.inr ⟨h1, Int32.not_le.mp (fun z => h2 ⟨Int32.not_lt.mp h1, z⟩)⟩
theorem ite_fin {σ : Mem} {f : Int32} {k : Nat} {X : Int32 × Mem} (h : f = finI k) (hk : k < 7) : (if f = 0 then X else tlI σ f) = tl σ k := by
  subst h
  have h7 : k = 0 ∨ k = 1 ∨ k = 2 ∨ k = 3 ∨ k = 4 ∨ k = 5 ∨ k = 6 := by omega
  have hne : ¬ finI k = 0 := by rcases h7 with rfl | rfl | rfl | rfl | rfl | rfl | rfl <;> decide
  rw [if_neg hne]
  exact tlI_fin hk
theorem refH_b {σ : Mem} {a m : Int32} (h : bI (decide (1 ≤ a ∧ a ≤ m)) = 0) : refH σ a m = finI 0 := by
  unfold refH
  rcases within_1 h with h1 | ⟨h1, h2⟩
  · exact if_pos h1
  · exact (if_neg h1).trans (if_pos h2)
theorem refH_s {σ : Mem} {a m : Int32} (h : ¬ bI (decide (1 ≤ a ∧ a ≤ m)) = 0) (h2 : ¬ bI (decide (9999 < σ 0 2 + a)) = 0) : refH σ a m = finI 4 := by
  unfold refH
  exact (if_neg (within_2 h).1).trans ((if_neg (within_2 h).2).trans (if_pos (of_decide_eq_true (bI_1 h2))))
theorem refH_z {σ : Mem} {a m : Int32} (h : ¬ bI (decide (1 ≤ a ∧ a ≤ m)) = 0) (h2 : bI (decide (9999 < σ 0 2 + a)) = 0) : refH σ a m = 0 := by
  unfold refH
  exact (if_neg (within_2 h).1).trans ((if_neg (within_2 h).2).trans (if_neg (of_decide_eq_false (bI_0 h2))))
set_option maxRecDepth 20000 in
theorem rf_refHours {M σ : Mem} {a m : Int32} (hR : RR M σ) (hI : Inv σ) {Q : Option Value → Mem → Prop} (hQ : Q (some (.int (refH σ a m))) M) : CT mX5_refusesHours shR 1 [.ref 0, .int a, .int m] M Q := by
  refine CT.mk [some (.ref 0), some (.int a), some (.int m)] (by decide) (Nat.le_of_ble_eq_true rfl) rfl rfl ?_
  refine G_iload_n (K := mX5_refusesHours) (i := 1) dX5_refusesHours_0 rfl rfl ?_
  refine G_iconst (K := mX5_refusesHours) (v := 1) dX5_refusesHours_1 (by decide) ?_
  refine G_iload_n (K := mX5_refusesHours) (i := 2) dX5_refusesHours_2 rfl rfl ?_
  refine G_sv (K := mX5_refusesHours) (c_X5_within (v := a) (a := 1) (b := m) ⟨rfl, rfl⟩) sX5_within rfl lX5_97 dX5_refusesHours_3 (by decide) rfl (Nat.le_of_ble_eq_true rfl) ?_
  refine G_if_ne (K := mX5_refusesHours) (tgt := 14) dX5_refusesHours_6 (by decide) (fun c6 => ?_) (fun c6 => ?_)
  · skip
    refine G_aload_n (K := mX5_refusesHours) (i := 0) dX5_refusesHours_14 rfl rfl ?_
    refine G_iload_n (K := mX5_refusesHours) (i := 1) dX5_refusesHours_15 rfl rfl ?_
    refine G_cv (K := mX5_refusesHours) (c_X5_isTooLate (a := a) ⟨rfl, rfl⟩) vX5_isTooLate rfl lX5_160 dX5_refusesHours_16 ⟨_, _, _, rfl, rfl, rfl⟩ (by decide) rfl (Nat.le_of_ble_eq_true rfl) ?_
    rw [hR.hour]
    refine G_if_eq (K := mX5_refusesHours) (tgt := 27) dX5_refusesHours_19 (by decide) (fun c19 => ?_) (fun c19 => ?_)
    · skip
      refine G_iconst (K := mX5_refusesHours) (v := 0) dX5_refusesHours_27 (by decide) ?_
      exact G_irm (K := mX5_refusesHours) dX5_refusesHours_28 rfl (by first | exact (refH_b c6).symm | exact (refH_s c6 c19).symm | exact (refH_z c6 c19).symm) rfl hQ
    · skip
      refine G_ldc (K := mX5_refusesHours) dX5_refusesHours_22 kX5_163 ?_
      refine G_goto (K := mX5_refusesHours) (tgt := 28) dX5_refusesHours_24 (by decide) ?_
      exact G_irm (K := mX5_refusesHours) dX5_refusesHours_28 rfl (by first | exact (refH_b c6).symm | exact (refH_s c6 c19).symm | exact (refH_z c6 c19).symm) rfl hQ
  · skip
    refine G_ldc (K := mX5_refusesHours) dX5_refusesHours_9 kX5_92 ?_
    refine G_goto (K := mX5_refusesHours) (tgt := 28) dX5_refusesHours_11 (by decide) ?_
    exact G_irm (K := mX5_refusesHours) dX5_refusesHours_28 rfl (by first | exact (refH_b c6).symm | exact (refH_s c6 c19).symm | exact (refH_z c6 c19).symm) rfl hQ

set_option maxRecDepth 20000 in
theorem rf_refuses {M σ : Mem} {r a : Int32} (hR : RR M σ) (hI : Inv σ) {Q : Option Value → Mem → Prop} (hQ : Q (some (.int (refR σ r a))) M) : CT mX5_refuses shR 2 [.ref 0, .int r, .int a] M Q := by
  refine CT.mk [some (.ref 0), some (.int r), some (.int a)] (by decide) (Nat.le_of_ble_eq_true rfl) rfl rfl ?_
  refine G_aload_n (K := mX5_refuses) (i := 0) dX5_refuses_0 rfl rfl ?_
  refine G_iload_n (K := mX5_refuses) (i := 1) dX5_refuses_1 rfl rfl ?_
  refine G_cv (K := mX5_refuses) (c_X5_isRoom (r := r) (n := nOf σ) (hR.n hI) hI.n8 ⟨rfl, rfl⟩) vX5_isRoom rfl lX5_128 dX5_refuses_2 ⟨_, _, _, rfl, rfl, rfl⟩ (by decide) rfl (Nat.le_of_ble_eq_true rfl) ?_
  refine G_if_eq (K := mX5_refuses) (tgt := 18) dX5_refuses_5 (by decide) (fun c5 => ?_) (fun c5 => ?_)
  · skip
    refine G_ldc (K := mX5_refuses) dX5_refuses_18 kX5_92 ?_
    refine G_goto (K := mX5_refuses) (tgt := 37) dX5_refuses_20 (by decide) ?_
    exact G_irm (K := mX5_refuses) dX5_refuses_37 rfl (by unfold refR; first | exact (if_neg (by rw [bI_0 c5]; decide)).symm | exact ((if_pos (bI_1 c5)).trans (refH_b c15)).symm | exact ((if_pos (bI_1 c5)).trans (refH_s c15 c28)).symm | exact ((if_pos (bI_1 c5)).trans (refH_z c15 c28)).symm) rfl hQ
  · skip
    refine G_iload_n (K := mX5_refuses) (i := 2) dX5_refuses_8 rfl rfl ?_
    refine G_iconst (K := mX5_refuses) (v := 1) dX5_refuses_9 (by decide) ?_
    refine G_bipush (K := mX5_refuses) (v := 60) dX5_refuses_10 (by decide) ?_
    refine G_sv (K := mX5_refuses) (c_X5_within (v := a) (a := 1) (b := 60) ⟨rfl, rfl⟩) sX5_within rfl lX5_97 dX5_refuses_12 (by decide) rfl (Nat.le_of_ble_eq_true rfl) ?_
    refine G_if_ne (K := mX5_refuses) (tgt := 23) dX5_refuses_15 (by decide) (fun c15 => ?_) (fun c15 => ?_)
    · skip
      refine G_aload_n (K := mX5_refuses) (i := 0) dX5_refuses_23 rfl rfl ?_
      refine G_iload_n (K := mX5_refuses) (i := 2) dX5_refuses_24 rfl rfl ?_
      refine G_cv (K := mX5_refuses) (c_X5_isTooLate (a := a) ⟨rfl, rfl⟩) vX5_isTooLate rfl lX5_160 dX5_refuses_25 ⟨_, _, _, rfl, rfl, rfl⟩ (by decide) rfl (Nat.le_of_ble_eq_true rfl) ?_
      rw [hR.hour]
      refine G_if_eq (K := mX5_refuses) (tgt := 36) dX5_refuses_28 (by decide) (fun c28 => ?_) (fun c28 => ?_)
      · skip
        refine G_iconst (K := mX5_refuses) (v := 0) dX5_refuses_36 (by decide) ?_
        exact G_irm (K := mX5_refuses) dX5_refuses_37 rfl (by unfold refR; first | exact (if_neg (by rw [bI_0 c5]; decide)).symm | exact ((if_pos (bI_1 c5)).trans (refH_b c15)).symm | exact ((if_pos (bI_1 c5)).trans (refH_s c15 c28)).symm | exact ((if_pos (bI_1 c5)).trans (refH_z c15 c28)).symm) rfl hQ
      · skip
        refine G_ldc (K := mX5_refuses) dX5_refuses_31 kX5_163 ?_
        refine G_goto (K := mX5_refuses) (tgt := 37) dX5_refuses_33 (by decide) ?_
        exact G_irm (K := mX5_refuses) dX5_refuses_37 rfl (by unfold refR; first | exact (if_neg (by rw [bI_0 c5]; decide)).symm | exact ((if_pos (bI_1 c5)).trans (refH_b c15)).symm | exact ((if_pos (bI_1 c5)).trans (refH_s c15 c28)).symm | exact ((if_pos (bI_1 c5)).trans (refH_z c15 c28)).symm) rfl hQ
    · skip
      refine G_ldc (K := mX5_refuses) dX5_refuses_18 kX5_92 ?_
      refine G_goto (K := mX5_refuses) (tgt := 37) dX5_refuses_20 (by decide) ?_
      exact G_irm (K := mX5_refuses) dX5_refuses_37 rfl (by unfold refR; first | exact (if_neg (by rw [bI_0 c5]; decide)).symm | exact ((if_pos (bI_1 c5)).trans (refH_b c15)).symm | exact ((if_pos (bI_1 c5)).trans (refH_s c15 c28)).symm | exact ((if_pos (bI_1 c5)).trans (refH_z c15 c28)).symm) rfl hQ

set_option maxRecDepth 20000 in
theorem rf_refPairs {M σ : Mem} {a : Int32} (hR : RR M σ) (hI : Inv σ) {Q : Option Value → Mem → Prop} (hQ : Q (some (.int (refP σ a))) M) : CT mX5_refusesPairs shR 2 [.ref 0, .int a] M Q := by
  refine CT.mk [some (.ref 0), some (.int a), none] (by decide) (Nat.le_of_ble_eq_true rfl) rfl rfl ?_
  refine G_aload_n (K := mX5_refusesPairs) (i := 0) dX5_refusesPairs_0 rfl rfl ?_
  refine G_iload_n (K := mX5_refusesPairs) (i := 1) dX5_refusesPairs_1 rfl rfl ?_
  refine G_bipush (K := mX5_refusesPairs) (v := 24) dX5_refusesPairs_2 (by decide) ?_
  refine G_cv (K := mX5_refusesPairs) (rf_refHours (a := a) (m := 24) hR hI ⟨rfl, rfl⟩) vX5_refusesHours rfl lX5_208 dX5_refusesPairs_4 ⟨_, _, _, rfl, rfl, rfl⟩ (by decide) rfl (Nat.le_of_ble_eq_true rfl) ?_
  refine G_istore_n (K := mX5_refusesPairs) (i := 2) dX5_refusesPairs_7 rfl (by decide) ?_
  refine G_iload_n (K := mX5_refusesPairs) (i := 2) dX5_refusesPairs_8 rfl rfl ?_
  refine G_if_eq (K := mX5_refusesPairs) (tgt := 16) dX5_refusesPairs_9 (by decide) (fun c9 => ?_) (fun c9 => ?_)
  · skip
    refine G_aload_n (K := mX5_refusesPairs) (i := 0) dX5_refusesPairs_16 rfl rfl ?_
    refine G_getr (K := mX5_refusesPairs) fX5_9 dX5_refusesPairs_17 rfl rfl ?_
    refine G_iconst (K := mX5_refusesPairs) (v := 2) dX5_refusesPairs_20 (by decide) ?_
    refine G_ld (K := mX5_refusesPairs) 2 dX5_refusesPairs_21 rfl rfl (by omega) (by decide) ?_
    rw [show M 1 2 = σ 0 0 from hR.1.1 0 (by omega)]
    refine G_if_ne (K := mX5_refusesPairs) (tgt := 30) dX5_refusesPairs_22 (by decide) (fun c22 => ?_) (fun c22 => ?_)
    · skip
      refine G_iconst (K := mX5_refusesPairs) (v := 0) dX5_refusesPairs_30 (by decide) ?_
      exact G_irm (K := mX5_refusesPairs) dX5_refusesPairs_31 rfl (by unfold refP; first | exact (if_neg c9).symm | exact ((if_pos c9).trans (if_pos c22)).symm | exact ((if_pos c9).trans (if_neg c22)).symm) rfl hQ
    · skip
      refine G_ldc (K := mX5_refusesPairs) dX5_refusesPairs_25 kX5_163 ?_
      refine G_goto (K := mX5_refusesPairs) (tgt := 31) dX5_refusesPairs_27 (by decide) ?_
      exact G_irm (K := mX5_refusesPairs) dX5_refusesPairs_31 rfl (by unfold refP; first | exact (if_neg c9).symm | exact ((if_pos c9).trans (if_pos c22)).symm | exact ((if_pos c9).trans (if_neg c22)).symm) rfl hQ
  · skip
    refine G_iload_n (K := mX5_refusesPairs) (i := 2) dX5_refusesPairs_12 rfl rfl ?_
    refine G_goto (K := mX5_refusesPairs) (tgt := 31) dX5_refusesPairs_13 (by decide) ?_
    exact G_irm (K := mX5_refusesPairs) dX5_refusesPairs_31 rfl (by unfold refP; first | exact (if_neg c9).symm | exact ((if_pos c9).trans (if_pos c22)).symm | exact ((if_pos c9).trans (if_neg c22)).symm) rfl hQ

set_option maxRecDepth 20000 in
theorem rf_hours {M σ : Mem} {a : Int32} (hR : RR M σ) (hI : Inv σ) {Q : Option Value → Mem → Prop} (hQ : ∀ u' M', PostR (opHours σ a) u' M' → Q u' M') : CT mX5_hours shR 8 [.ref 0, .int a] M Q := by
  refine CT.mk [some (.ref 0), some (.int a)] (by decide) (Nat.le_of_ble_eq_true rfl) rfl rfl ?_
  refine G_iload_n (K := mX5_hours) (i := 1) dX5_hours_0 rfl rfl ?_
  refine G_iconst (K := mX5_hours) (v := 1) dX5_hours_1 (by decide) ?_
  refine G_bipush (K := mX5_hours) (v := 100) dX5_hours_2 (by decide) ?_
  refine G_sv (K := mX5_hours) (c_X5_within (v := a) (a := 1) (b := 100) ⟨rfl, rfl⟩) sX5_within rfl lX5_97 dX5_hours_4 (by decide) rfl (Nat.le_of_ble_eq_true rfl) ?_
  refine G_if_ne (K := mX5_hours) (tgt := 17) dX5_hours_7 (by decide) (fun c7 => ?_) (fun c7 => ?_)
  · skip
    refine G_aload_n (K := mX5_hours) (i := 0) dX5_hours_17 rfl rfl ?_
    refine G_iload_n (K := mX5_hours) (i := 1) dX5_hours_18 rfl rfl ?_
    refine G_cv (K := mX5_hours) (c_X5_isTooLate (a := a) ⟨rfl, rfl⟩) vX5_isTooLate rfl lX5_160 dX5_hours_19 ⟨_, _, _, rfl, rfl, rfl⟩ (by decide) rfl (Nat.le_of_ble_eq_true rfl) ?_
    rw [hR.hour]
    refine G_if_eq (K := mX5_hours) (tgt := 34) dX5_hours_22 (by decide) (fun c22 => ?_) (fun c22 => ?_)
    · skip
      obtain ⟨k, hk1, hk2, rfl⟩ := refH_nat (refH_z (m := 100) c7 c22)
      refine G_aload_n (K := mX5_hours) (i := 0) dX5_hours_34 rfl rfl ?_
      refine G_iload_n (K := mX5_hours) (i := 1) dX5_hours_35 rfl rfl ?_
      refine G_call0 (K := mX5_hours) (Q' := fun v Mz => v = some (.int (hoursSum (nOf σ) k (toH (M 1)))) ∧ toH (Mz 1) = hoursH (nOf σ) k (toH (M 1)) ∧ ∀ c, c ≠ 1 → c ≠ 7 → Mz c = M c) (c_X5_hoursGo (hR.n hI) hI.n8 (by omega) (hR.wall hI) (fun Mz h1 h2 => ⟨rfl, h1, h2⟩)) vX5_hoursGo rfl lX5_164 ⟨_, _, _, rfl, rfl, rfl⟩ (by decide) (Nat.le_of_ble_eq_true rfl) dX5_hours_36 rfl ?_
      rintro v M2 ⟨rfl, h21, h22⟩
      exact G_iret (st := []) (K := mX5_hours) dX5_hours_39 rfl (hQ _ _ (by rw [show opHours σ (nI k) = (hoursSum (nOf σ) (cut (nI k)) σ, hoursH (nOf σ) (cut (nI k)) σ) from if_pos (refH_z c7 c22), cut_nI hk2]; exact ⟨congrArg (fun z => some (Value.int z)) (hoursSum_congr hR.1 k), hR.house (fun c hc => hoursH_cell (by omega) k) (by rw [nOf_hours, h21]; exact hoursH_congr hR.1 k) (fun c hc => h22 c (by unfold solid at hc; omega) (by unfold solid at hc; omega)) (congrFun (h22 0 (by omega) (by omega)) 3) (congrFun (h22 0 (by omega) (by omega)) 19)⟩))
    · skip
      refine G_aload_n (K := mX5_hours) (i := 0) dX5_hours_25 rfl rfl ?_
      refine G_ldc (K := mX5_hours) dX5_hours_26 kX5_163 ?_
      refine G_call0 (K := mX5_hours) (Q' := PostR (tl σ 4)) (rf_finding hR (k := 4) (by omega) (fun _ _ h => h)) vX5_finding rfl lX5_109 ⟨_, _, _, rfl, rfl, rfl⟩ (by decide) (Nat.le_of_ble_eq_true rfl) dX5_hours_28 rfl ?_
      rintro v M1 ⟨rfl, hR1⟩
      refine G_goto (K := mX5_hours) (tgt := 39) dX5_hours_31 (by decide) ?_
      exact G_iret (st := []) (K := mX5_hours) dX5_hours_39 rfl (hQ _ _ (by rw [show opHours σ a = _ from (by unfold opHours; exact ite_fin (refH_s c7 c22) (by omega))]; exact ⟨rfl, hR1⟩))
  · skip
    refine G_aload_n (K := mX5_hours) (i := 0) dX5_hours_10 rfl rfl ?_
    refine G_ldc (K := mX5_hours) dX5_hours_11 kX5_92 ?_
    refine G_call0 (K := mX5_hours) (Q' := PostR (tl σ 0)) (rf_finding hR (k := 0) (by omega) (fun _ _ h => h)) vX5_finding rfl lX5_109 ⟨_, _, _, rfl, rfl, rfl⟩ (by decide) (Nat.le_of_ble_eq_true rfl) dX5_hours_13 rfl ?_
    rintro v M1 ⟨rfl, hR1⟩
    exact G_iret (st := []) (K := mX5_hours) dX5_hours_16 rfl (hQ _ _ (by rw [show opHours σ a = _ from (by unfold opHours; exact ite_fin (refH_b c7) (by omega))]; exact ⟨rfl, hR1⟩))
