theorem sumN_sub (x y : Nat → Int32) (r : Nat) : ∀ n, sumN (fun o => if o = r then 0 else x o - y o) n = if r < n then (sumN x n - sumN y n) - (x r - y r) else sumN x n - sumN y n
  | 0 => by rw [if_neg (by omega)]; show (0 : Int32) = 0 - 0; decide
  | n + 1 => by
    show sumN (fun o => if o = r then 0 else x o - y o) n + (if n = r then 0 else x n - y n) = _
    rw [sumN_sub x y r n]
    have ex : sumN x (n + 1) = sumN x n + x n := rfl
    have ey : sumN y (n + 1) = sumN y n + y n := rfl
    by_cases h : n = r
    · subst h
      rw [if_pos rfl, if_neg (by omega), if_pos (by omega), ex, ey]
      grind
    · rw [if_neg h]
      by_cases h2 : r < n
      · rw [if_pos h2, if_pos (by omega), ex, ey]
        grind
      · rw [if_neg h2, if_neg (by omega), ex, ey]
        grind
theorem tkF_eq {σ : Mem} {k r : Nat} (hr : r < nOf σ) : tkF σ k r = (sumN (aH σ k 2) (nOf σ) - sumN (wH σ k 5 r 1 2) (nOf σ)) - (aH σ k 2 r - wH σ k 5 r 1 2 r) := (sumN_sub _ _ r _).trans (if_pos hr)
theorem missN_pos (t : Nat → Int32) : ∀ n, n < 2147483648 → (n = 0 ∧ missN t n = (-1, 0)) ∨ ∃ j, j < n ∧ (missN t n).1 = nI j := by
  intro n
  induction n with
  | zero => intro _; exact Or.inl ⟨rfl, rfl⟩
  | succ n ih =>
    intro hn
    refine Or.inr ?_
    show ∃ j, j < n + 1 ∧ (if (missN t n).1 < 0 then (nI n, t n) else if (missN t n).2 < t n then (nI n, t n) else missN t n).1 = nI j
    by_cases h1 : (missN t n).1 < 0
    · exact ⟨n, by omega, by rw [if_pos h1]⟩
    · rw [if_neg h1]
      by_cases h2 : (missN t n).2 < t n
      · exact ⟨n, by omega, by rw [if_pos h2]⟩
      · rw [if_neg h2]
        rcases ih (by omega) with ⟨rfl, e⟩ | ⟨j, hj, e⟩
        · rw [e] at h1; exact absurd (by decide) h1
        · exact ⟨j, by omega, e⟩
theorem missN_s (t : Nat → Int32) {i : Nat} (hi : 0 < i) (hi2 : i < 2147483648) : missN t (i + 1) = if (missN t i).2 < t i then (nI i, t i) else missN t i := by
  rcases missN_pos t i hi2 with ⟨rfl, -⟩ | ⟨j, hj, e⟩
  · omega
  · exact if_neg (by rw [e]; exact nI_pos (by omega))
set_option maxRecDepth 20000 in
theorem cl_taken {M σ : Mem} {q k : Nat} (hq : q < nOf σ) (hk2 : k < 2147483648) (hA : HR (hof M 23) (aH σ k) (nOf σ)) (hR : RC M σ) (hI : Inv σ) {Q : Option Value → Mem → Prop} (hQ : ∀ h4, RC (hput M 12 h4) σ → Q (some (.int (tkF σ k q))) (hput M 12 h4)) : CT mX4_takenByAbsence shC 7 [.ref 0, .int (nI q), .int (nI k)] M Q := by
  refine CT.mk [some (.ref 0), some (.int (nI q)), some (.int (nI k)), none] (by decide) (Nat.le_of_ble_eq_true rfl) rfl rfl ?_
  have hn8 := hI.n8
  refine G_aload_n (K := mX4_takenByAbsence) (i := 0) dX4_takenByAbsence_0 rfl rfl ?_
  refine G_iload_n (K := mX4_takenByAbsence) (i := 1) dX4_takenByAbsence_1 rfl rfl ?_
  refine G_iconst (K := mX4_takenByAbsence) (v := 5) dX4_takenByAbsence_2 (by decide) ?_
  refine G_iconst (K := mX4_takenByAbsence) (v := 1) dX4_takenByAbsence_3 (by decide) ?_
  refine G_iload_n (K := mX4_takenByAbsence) (i := 2) dX4_takenByAbsence_4 rfl rfl ?_
  refine G_gw (K := mX4_takenByAbsence) (k := k) (r := q) (w := 5) (x := 1) hR hI (by omega) (by omega) (by decide) (ups_wall hI (by decide)) lX4_156 dX4_takenByAbsence_5 (by decide) (Nat.le_of_ble_eq_true rfl) (fun h4 hh4 hR4 => ?_)
  have hA4 : HR (hof (hput M 12 h4) 23) (aH σ k) (nOf σ) := HR.hpn hA (by unfold apart; omega)
  have hB4 : HR (hof (hput M 12 h4) 12) (wH σ k 5 q 1) (nOf σ) := HR.hp hh4
  have hnA : aH σ k 0 0 = nI (nOf σ) := (hoursH_0 _ _ k).trans hI.nI
  have hnB : wH σ k 5 q 1 0 0 = nI (nOf σ) := (hoursH_0 _ _ k).trans ((congrFun (ups_cell (by decide)) 0).trans hI.nI)
  refine G_aload_n (K := mX4_takenByAbsence) (i := 0) dX4_takenByAbsence_8 rfl rfl ?_
  refine G_getr (K := mX4_takenByAbsence) fX4_19 dX4_takenByAbsence_9 rfl rfl ?_
  refine G_aload_n (K := mX4_takenByAbsence) (i := 0) dX4_takenByAbsence_12 rfl rfl ?_
  refine G_getr (K := mX4_takenByAbsence) fX4_19 dX4_takenByAbsence_13 rfl rfl ?_
  refine G_getr (K := mX4_takenByAbsence) fX4_113 dX4_takenByAbsence_16 rfl rfl ?_
  refine G_hp (K := mX4_takenByAbsence) (b := 23) (by unfold isH; omega) (c_X0_sumOf (M := hof (hput M 12 h4) 23) (n := nOf σ) (c := 2) (by omega) (by omega) ((hA4.1 0 (by omega)).trans hnA) hI.n8 ⟨rfl, rfl⟩) vX0_sumOf rfl lX4_109 dX4_takenByAbsence_19 rfl (by decide) rfl (Nat.le_of_ble_eq_true rfl) ?_
  rw [sumN_congr (nOf σ) (fun i hi => hA4.f 2 (by omega) (by omega) hi)]
  refine G_aload_n (K := mX4_takenByAbsence) (i := 0) dX4_takenByAbsence_22 rfl rfl ?_
  refine G_getr (K := mX4_takenByAbsence) fX4_16 dX4_takenByAbsence_23 rfl rfl ?_
  refine G_aload_n (K := mX4_takenByAbsence) (i := 0) dX4_takenByAbsence_26 rfl rfl ?_
  refine G_getr (K := mX4_takenByAbsence) fX4_16 dX4_takenByAbsence_27 rfl rfl ?_
  refine G_getr (K := mX4_takenByAbsence) fX4_113 dX4_takenByAbsence_30 rfl rfl ?_
  refine G_hp (K := mX4_takenByAbsence) (b := 12) (by unfold isH; omega) (c_X0_sumOf (M := hof (hput M 12 h4) 12) (n := nOf σ) (c := 2) (by omega) (by omega) ((hB4.1 0 (by omega)).trans hnB) hI.n8 ⟨rfl, rfl⟩) vX0_sumOf rfl lX4_109 dX4_takenByAbsence_33 rfl (by decide) rfl (Nat.le_of_ble_eq_true rfl) ?_
  rw [sumN_congr (nOf σ) (fun i hi => hB4.f 2 (by omega) (by omega) hi)]
  refine G_isub (K := mX4_takenByAbsence) dX4_takenByAbsence_36 ?_
  refine G_istore_n (K := mX4_takenByAbsence) (i := 3) dX4_takenByAbsence_37 rfl (by decide) ?_
  refine G_iload_n (K := mX4_takenByAbsence) (i := 3) dX4_takenByAbsence_38 rfl rfl ?_
  refine G_aload_n (K := mX4_takenByAbsence) (i := 0) dX4_takenByAbsence_39 rfl rfl ?_
  refine G_getr (K := mX4_takenByAbsence) fX4_19 dX4_takenByAbsence_40 rfl rfl ?_
  refine G_getr (K := mX4_takenByAbsence) fX4_113 dX4_takenByAbsence_43 rfl rfl ?_
  refine G_iload_n (K := mX4_takenByAbsence) (i := 1) dX4_takenByAbsence_46 rfl rfl ?_
  refine G_ld (K := mX4_takenByAbsence) q dX4_takenByAbsence_47 rfl rfl (by omega) (by decide) ?_
  refine G_aload_n (K := mX4_takenByAbsence) (i := 0) dX4_takenByAbsence_48 rfl rfl ?_
  refine G_getr (K := mX4_takenByAbsence) fX4_16 dX4_takenByAbsence_49 rfl rfl ?_
  refine G_getr (K := mX4_takenByAbsence) fX4_113 dX4_takenByAbsence_52 rfl rfl ?_
  refine G_iload_n (K := mX4_takenByAbsence) (i := 1) dX4_takenByAbsence_55 rfl rfl ?_
  refine G_ld (K := mX4_takenByAbsence) q dX4_takenByAbsence_56 rfl rfl (by omega) (by decide) ?_
  refine G_isub (K := mX4_takenByAbsence) dX4_takenByAbsence_57 ?_
  refine G_isub (K := mX4_takenByAbsence) dX4_takenByAbsence_58 ?_
  exact G_irm (K := mX4_takenByAbsence) dX4_takenByAbsence_59 rfl (by
    have e1 : hput M 12 h4 25 q = aH σ k 2 q := hA4.f 2 (by omega) (by omega) hq
    have e2 : hput M 12 h4 14 q = wH σ k 5 q 1 2 q := hB4.f 2 (by omega) (by omega) hq
    rw [e1, e2, tkF_eq hq]) rfl (hQ h4 hR4)

set_option maxRecDepth 20000 in
theorem cl_missed {M σ : Mem} {a : Int32} (hR : RC M σ) (hI : Inv σ) {Q : Option Value → Mem → Prop} (hQ : ∀ u' M', PostC (opMissed σ a) u' M' → Q u' M') : CT mX4_missed shC 8 [.ref 0, .int a] M Q := by
  refine CT.mk [some (.ref 0), some (.int a), none, none, none, none, none] (by decide) (Nat.le_of_ble_eq_true rfl) rfl rfl ?_
  refine G_aload_n (K := mX4_missed) (i := 0) dX4_missed_0 rfl rfl ?_
  refine G_iload_n (K := mX4_missed) (i := 1) dX4_missed_1 rfl rfl ?_
  refine G_bipush (K := mX4_missed) (v := 60) dX4_missed_2 (by decide) ?_
  refine G_cv (K := mX4_missed) (cl_fHours (a := a) (most := 60) hR ⟨rfl, rfl⟩) vX4_findingOfHours rfl lX4_92 dX4_missed_4 ⟨_, _, _, rfl, rfl, rfl⟩ (by decide) rfl (Nat.le_of_ble_eq_true rfl) ?_
  refine G_istore_n (K := mX4_missed) (i := 2) dX4_missed_7 rfl (by decide) ?_
  refine G_iload_n (K := mX4_missed) (i := 2) dX4_missed_8 rfl rfl ?_
  refine G_if_ne (K := mX4_missed) (tgt := 25) dX4_missed_9 (by decide) (fun c9 => ?_) (fun c9 => ?_)
  · skip
    refine G_iload_n (K := mX4_missed) (i := 2) dX4_missed_25 rfl rfl ?_
    refine G_if_eq (K := mX4_missed) (tgt := 35) dX4_missed_26 (by decide) (fun c26 => ?_) (fun c26 => ?_)
    · skip
      exact absurd c26 c9
    · skip
      
      refine G_aload_n (K := mX4_missed) (i := 0) dX4_missed_29 rfl rfl ?_
      refine G_iload_n (K := mX4_missed) (i := 2) dX4_missed_30 rfl rfl ?_
      obtain ⟨q, hq, eq⟩ := refH_fin c9
      rw [eq]
      refine G_call0 (K := mX4_missed) (Q' := PostC (tl σ q)) (cl_tell hR (k := q) (by omega) (fun _ _ h => h)) vX4_tell rfl lX4_53 ⟨_, _, _, rfl, rfl, rfl⟩ (by decide) (Nat.le_of_ble_eq_true rfl) dX4_missed_31 rfl ?_
      rintro v M1 ⟨rfl, hR1⟩
      exact G_iret (st := []) (K := mX4_missed) dX4_missed_34 rfl (hQ _ _ (by rw [show opMissed σ a = _ from (by unfold opMissed; exact (if_neg c9).trans ((congrArg (tlI σ) eq).trans (tlI_fin hq)))]; exact ⟨rfl, hR1⟩))
  · skip
    refine G_aload_n (K := mX4_missed) (i := 0) dX4_missed_12 rfl rfl ?_
    refine G_getr (K := mX4_missed) fX4_12 dX4_missed_13 rfl rfl ?_
    refine G_geti (K := mX4_missed) fX4_57 dX4_missed_16 rfl rfl ?_
    rw [hR.n, hI.nI]
    have hn8 := hI.n8
    refine G_if_ne (K := mX4_missed) (tgt := 25) dX4_missed_19 (by decide) (fun c19 => ?_) (fun c19 => ?_)
    · skip
      have hn0 : 0 < nOf σ := by
        rcases Nat.eq_zero_or_pos (nOf σ) with h | h
        · rw [h] at c19; exact absurd rfl c19
        · exact h
      refine G_iload_n (K := mX4_missed) (i := 2) dX4_missed_25 rfl rfl ?_
      refine G_if_eq (K := mX4_missed) (tgt := 35) dX4_missed_26 (by decide) (fun c26 => ?_) (fun c26 => ?_)
      · skip
        obtain ⟨k, hk1, hk2, rfl⟩ := refH_nat c9
        refine G_aload_n (K := mX4_missed) (i := 0) dX4_missed_35 rfl rfl ?_
        refine G_iload_n (K := mX4_missed) (i := 1) dX4_missed_36 rfl rfl ?_
        refine G_ga (K := mX4_missed) (k := k) hR hI (by omega) lX4_141 dX4_missed_37 (by decide) (Nat.le_of_ble_eq_true rfl) (fun h3 hh3 hR23 => ?_)
        have hAi : HR (hof (hput M 23 h3) 23) (aH σ k) (nOf σ) := HR.hp hh3
        refine G_iconst (K := mX4_missed) (v := 0) dX4_missed_40 (by decide) ?_
        refine G_istore_n (K := mX4_missed) (i := 3) dX4_missed_41 rfl (by decide) ?_
        refine G_aload_n (K := mX4_missed) (i := 0) dX4_missed_42 rfl rfl ?_
        refine G_iconst (K := mX4_missed) (v := 0) dX4_missed_43 (by decide) ?_
        refine G_iload_n (K := mX4_missed) (i := 1) dX4_missed_44 rfl rfl ?_
        refine G_call0 (K := mX4_missed) (Q' := fun v M' => ∃ h4, v = some (.int (tkF σ k 0)) ∧ RC M' σ ∧ M' = hput (hput M 23 h3) 12 h4) (cl_taken (q := 0) (k := k) (by omega) hk2 hAi hR23 hI (fun h4 h => ⟨h4, rfl, h, rfl⟩)) vX4_takenByAbsence rfl lX4_173 ⟨_, _, _, rfl, rfl, rfl⟩ (by decide) (Nat.le_of_ble_eq_true rfl) dX4_missed_45 rfl ?_
        rintro v M' ⟨h4, rfl, hR4, rfl⟩
        refine G_istore (K := mX4_missed) dX4_missed_48 (by decide) ?_
        refine G_iconst (K := mX4_missed) (v := 1) dX4_missed_50 (by decide) ?_
        refine G_istore (K := mX4_missed) dX4_missed_51 (by decide) ?_
        have loop53 : ∀ i, i ≤ nOf σ → 0 < i → ∀ M1, RC M1 σ → HR (hof M1 23) (aH σ k) (nOf σ) → ∀ s t, (s, t) = missN (tkF σ k) i → ∀ y, G mX4_missed shC 8 Q 53 [some (.ref 0), some (.int (nI k)), some (.int (refH σ (nI k) 60)), some (.int s), some (.int t), some (.int (nI i)), y] [] M1 := by
          refine upto (nOf σ) (fun i hi ih => ?_)
          intro hi0 M1 hRi hAi s t hst y
          have hn1 : M1 1 0 = nI (nOf σ) := hRi.n.trans hI.nI
          refine G_iload (K := mX4_missed) dX4_missed_53 rfl ?_
          refine G_aload_n (K := mX4_missed) (i := 0) dX4_missed_55 rfl rfl ?_
          refine G_getr (K := mX4_missed) fX4_12 dX4_missed_56 rfl rfl ?_
          refine G_geti (K := mX4_missed) fX4_57 dX4_missed_59 rfl rfl ?_
          refine G_icmp_ge (K := mX4_missed) (tgt := 94) dX4_missed_62 (by decide) (fun c62 => ?_) (fun c62 => ?_)
          · skip
            rw [hn1, le_nn (by omega) (by omega)] at c62
            have hin : i = nOf σ := by omega
            refine G_iload_n (K := mX4_missed) (i := 3) dX4_missed_94 rfl rfl ?_
            exact G_iret (st := []) (K := mX4_missed) dX4_missed_95 rfl (hQ _ _ (by rw [show opMissed σ (nI k) = _ from (by unfold opMissed; exact (if_pos c9).trans (if_neg (by omega)))]; rw [cut_nI hk2, ← hin, ← hst]; exact ⟨rfl, hRi⟩))
          · skip
            rw [hn1, le_nn (by omega) (by omega)] at c62
            have hin : i < nOf σ := by omega
            refine G_aload_n (K := mX4_missed) (i := 0) dX4_missed_65 rfl rfl ?_
            refine G_iload (K := mX4_missed) dX4_missed_66 rfl ?_
            refine G_iload_n (K := mX4_missed) (i := 1) dX4_missed_68 rfl rfl ?_
            refine G_call0 (K := mX4_missed) (Q' := fun v M' => ∃ h4, v = some (.int (tkF σ k i)) ∧ RC M' σ ∧ M' = hput M1 12 h4) (cl_taken (q := i) (k := k) (by omega) hk2 hAi hRi hI (fun h4 h => ⟨h4, rfl, h, rfl⟩)) vX4_takenByAbsence rfl lX4_173 ⟨_, _, _, rfl, rfl, rfl⟩ (by decide) (Nat.le_of_ble_eq_true rfl) dX4_missed_69 rfl ?_
            rintro v M' ⟨h5, rfl, hR4, rfl⟩
            refine G_istore (K := mX4_missed) dX4_missed_72 (by decide) ?_
            refine G_iload (K := mX4_missed) dX4_missed_74 rfl ?_
            refine G_iload (K := mX4_missed) dX4_missed_76 rfl ?_
            refine G_icmp_le (K := mX4_missed) (tgt := 88) dX4_missed_78 (by decide) (fun c78 => ?_) (fun c78 => ?_)
            · skip
              refine G_iincN (K := mX4_missed) dX4_missed_88 (by decide) rfl ?_
              refine G_goto (K := mX4_missed) (tgt := 53) dX4_missed_91 (by decide) ?_
              refine ih (i + 1) (by omega) (by omega) (by omega) _ hR4 (HR.hpn hAi (by unfold apart; omega)) _ _ ?_ _
              rw [missN_s _ hi0 (by omega), ← hst, if_neg (Int32.not_lt.mpr c78)]
            · skip
              refine G_iload (K := mX4_missed) dX4_missed_81 rfl ?_
              refine G_istore (K := mX4_missed) dX4_missed_83 (by decide) ?_
              refine G_iload (K := mX4_missed) dX4_missed_85 rfl ?_
              refine G_istore_n (K := mX4_missed) (i := 3) dX4_missed_87 rfl (by decide) ?_
              refine G_iincN (K := mX4_missed) dX4_missed_88 (by decide) rfl ?_
              refine G_goto (K := mX4_missed) (tgt := 53) dX4_missed_91 (by decide) ?_
              refine ih (i + 1) (by omega) (by omega) (by omega) _ hR4 (HR.hpn hAi (by unfold apart; omega)) _ _ ?_ _
              rw [missN_s _ hi0 (by omega), ← hst, if_pos (Int32.not_le.mp c78)]
        exact loop53 1 (by omega) (by omega) _ hR4 (HR.hpn hAi (by unfold apart; omega)) _ _ rfl _
      · skip
        exact absurd c9 c26
    · skip
      have hn0 : nOf σ = 0 := (nI_eq (a := nOf σ) (b := 0) (by omega) (by decide)).mp c19
      refine G_ldc (K := mX4_missed) dX4_missed_22 kX4_137 ?_
      refine G_istore_n (K := mX4_missed) (i := 2) dX4_missed_24 rfl (by decide) ?_
      refine G_iload_n (K := mX4_missed) (i := 2) dX4_missed_25 rfl rfl ?_
      refine G_if_eq (K := mX4_missed) (tgt := 35) dX4_missed_26 (by decide) (fun c26 => ?_) (fun c26 => ?_)
      · skip
        exact absurd c26 (by decide)
      · skip
        
        refine G_aload_n (K := mX4_missed) (i := 0) dX4_missed_29 rfl rfl ?_
        refine G_iload_n (K := mX4_missed) (i := 2) dX4_missed_30 rfl rfl ?_
        refine G_call0 (K := mX4_missed) (Q' := PostC (tl σ 3)) (cl_tell hR (k := 3) (by omega) (fun _ _ h => h)) vX4_tell rfl lX4_53 ⟨_, _, _, rfl, rfl, rfl⟩ (by decide) (Nat.le_of_ble_eq_true rfl) dX4_missed_31 rfl ?_
        rintro v M1 ⟨rfl, hR1⟩
        exact G_iret (st := []) (K := mX4_missed) dX4_missed_34 rfl (hQ _ _ (by rw [show opMissed σ a = _ from (by unfold opMissed; exact (if_pos c9).trans (if_pos hn0))]; exact ⟨rfl, hR1⟩))
