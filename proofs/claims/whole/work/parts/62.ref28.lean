theorem ldS_s {σ : Mem} {q i : Nat} : ldS σ q (i + 1) = ups (ldS σ q i) 3 i (σ (46 + q) i) := by
  funext c j
  unfold ldS ups
  by_cases h : c = 3 ∧ j = i
  · rw [if_pos h, if_pos (by omega), h.2]
  · rw [if_neg h]
    show _ = (if c = 3 ∧ j < i then σ (46 + q) j else σ c j)
    by_cases h2 : c = 3 ∧ j < i
    · rw [if_pos h2, if_pos (by omega)]
    · rw [if_neg h2, if_neg (by omega)]
theorem ldS_0 {σ : Mem} {q : Nat} : ldS σ q 0 = σ := by
  funext c j
  exact if_neg (by omega)
theorem ldS_c {σ : Mem} {q m c : Nat} (hc : c ≠ 3) : ldS σ q m c = σ c := by
  funext j
  exact if_neg (fun z => hc z.1)
set_option maxRecDepth 20000 in
theorem rf_load {M σ : Mem} {s : Int32} (hR : RR M σ) (hI : Inv σ) {Q : Option Value → Mem → Prop} (hQ : ∀ u' M', PostR (opLoad σ s) u' M' → Q u' M') : CT mX5_load shR 8 [.ref 0, .int s] M Q := by
  refine CT.mk [some (.ref 0), some (.int s), none] (by decide) (Nat.le_of_ble_eq_true rfl) rfl rfl ?_
  refine G_iload_n (K := mX5_load) (i := 1) dX5_load_0 rfl rfl ?_
  refine G_sv (K := mX5_load) (c_X5_isSheet (x := s) ⟨rfl, rfl⟩) sX5_isSheet rfl lX5_341 dX5_load_1 (by decide) rfl (Nat.le_of_ble_eq_true rfl) ?_
  refine G_if_ne (K := mX5_load) (tgt := 14) dX5_load_4 (by decide) (fun c4 => ?_) (fun c4 => ?_)
  · skip
    obtain ⟨q, hq, rfl⟩ := within_i (m := 3) (by decide) c4
    have hB := roomB_nI (n := 4) (by decide) hq
    have hL := hI.len hq
    unfold rg at hL
    refine G_aload_n (K := mX5_load) (i := 0) dX5_load_14 rfl rfl ?_
    refine G_getr (K := mX5_load) fX5_80 dX5_load_15 rfl rfl ?_
    refine G_iload_n (K := mX5_load) (i := 1) dX5_load_18 rfl rfl ?_
    refine G_ld (K := mX5_load) q dX5_load_19 rfl rfl (by omega) (by decide) ?_
    rw [hR.s0 hq]
    refine G_if_ne (K := mX5_load) (tgt := 31) dX5_load_20 (by decide) (fun c20 => ?_) (fun c20 => ?_)
    · skip
      have hf : refS σ (nI q) = 0 := (if_pos hB).trans (if_neg (by rw [cut_nI (by omega)]; exact c20))
      have hn8 := hI.n8
      refine G_iconst (K := mX5_load) (v := 0) dX5_load_31 (by decide) ?_
      refine G_istore_n (K := mX5_load) (i := 2) dX5_load_32 rfl (by decide) ?_
      have loop33 : ∀ i, i ≤ 8 → ∀ M3 : Mem, HR (toH (M3 1)) (ldS σ q i) (nOf σ) → (∀ c, c ≠ 1 → M3 c = M c) → (∀ j, j < i → ldOK σ q j = true) → G mX5_load shR 8 Q 33 [some (.ref 0), some (.int (nI q)), some (.int (nI i))] [] M3 := by
        refine upto 8 (fun i hi ih => ?_)
        intro M3 hT h3c hok
        have hn3 : M3 1 2 = nI (nOf σ) := (hT.1 0 (by omega)).trans (by rw [ldS_c (by omega)]; exact hI.nI)
        refine G_iload_n (K := mX5_load) (i := 2) dX5_load_33 rfl rfl ?_
        refine G_aload_n (K := mX5_load) (i := 0) dX5_load_34 rfl rfl ?_
        refine G_getr (K := mX5_load) fX5_83 dX5_load_35 rfl rfl ?_
        refine G_iload_n (K := mX5_load) (i := 1) dX5_load_38 rfl rfl ?_
        refine G_ld (K := mX5_load) q dX5_load_39 rfl rfl (by omega) (by decide) ?_
        rw [h3c 17 (by decide), hR.s1 hq]
        refine G_icmp_ge (K := mX5_load) (tgt := 99) dX5_load_40 (by decide) (fun c40 => ?_) (fun c40 => ?_)
        · skip
          have hz : ldOK σ q i = false := by
            unfold ldOK
            rw [decide_eq_false (Int32.not_lt.mpr c40), Bool.false_and]
          refine G_iload_n (K := mX5_load) (i := 2) dX5_load_99 rfl rfl ?_
          have hM : ldM σ q = i := by
            unfold ldM
            rw [findF_0 (j := i) (by omega) (fun j hj => by rw [hok j hj]; rfl) (by rw [hz]; rfl)]
            rfl
          exact G_iret (st := []) (K := mX5_load) dX5_load_100 rfl (hQ _ _ (by
            rw [show opLoad σ (nI q) = (nI (ldM σ (cut (nI q))), ldS σ (cut (nI q)) (ldM σ (cut (nI q)))) from if_pos hf, cut_nI (by omega), hM]
            exact ⟨rfl, hR.house (fun c hc => ldS_c (by omega)) (by rw [ldS_n]; exact hT) (fun c hc => h3c c (by unfold solid at hc; omega)) (congrFun (h3c 0 (by omega)) 3) (congrFun (h3c 0 (by omega)) 19)⟩))
        · skip
          refine G_aload_n (K := mX5_load) (i := 0) dX5_load_43 rfl rfl ?_
          refine G_iload_n (K := mX5_load) (i := 2) dX5_load_44 rfl rfl ?_
          refine G_cv (K := mX5_load) (c_X5_isRoom (r := nI i) (n := nOf σ) hn3 hI.n8 ⟨rfl, rfl⟩) vX5_isRoom rfl lX5_128 dX5_load_45 ⟨_, _, _, rfl, rfl, rfl⟩ (by decide) rfl (Nat.le_of_ble_eq_true rfl) ?_
          refine G_if_eq (K := mX5_load) (tgt := 99) dX5_load_48 (by decide) (fun c48 => ?_) (fun c48 => ?_)
          · skip
            have hz : ldOK σ q i = false := by
              unfold ldOK fitB
              rw [bI_0 c48, Bool.false_and, Bool.and_false]
            refine G_iload_n (K := mX5_load) (i := 2) dX5_load_99 rfl rfl ?_
            have hM : ldM σ q = i := by
              unfold ldM
              rw [findF_0 (j := i) (by omega) (fun j hj => by rw [hok j hj]; rfl) (by rw [hz]; rfl)]
              rfl
            exact G_iret (st := []) (K := mX5_load) dX5_load_100 rfl (hQ _ _ (by
              rw [show opLoad σ (nI q) = (nI (ldM σ (cut (nI q))), ldS σ (cut (nI q)) (ldM σ (cut (nI q)))) from if_pos hf, cut_nI (by omega), hM]
              exact ⟨rfl, hR.house (fun c hc => ldS_c (by omega)) (by rw [ldS_n]; exact hT) (fun c hc => h3c c (by unfold solid at hc; omega)) (congrFun (h3c 0 (by omega)) 3) (congrFun (h3c 0 (by omega)) 19)⟩))
          · skip
            have hin : i < nOf σ := by
              have h := (of_decide_eq_true (bI_1 c48)).2
              rw [nI_toI (by omega)] at h
              omega
            refine G_aload_n (K := mX5_load) (i := 0) dX5_load_51 rfl rfl ?_
            refine G_getr (K := mX5_load) fX5_86 dX5_load_52 rfl rfl ?_
            refine G_bipush (K := mX5_load) (v := 40) dX5_load_55 (by decide) ?_
            refine G_iload_n (K := mX5_load) (i := 1) dX5_load_57 rfl rfl ?_
            refine G_imul (K := mX5_load) dX5_load_58 ?_
            refine G_iload_n (K := mX5_load) (i := 2) dX5_load_59 rfl rfl ?_
            refine G_iadd (K := mX5_load) dX5_load_60 ?_
            rw [nI_40 (by omega) (by omega)]
            refine G_ld (K := mX5_load) (40 * q + i) dX5_load_61 rfl rfl (by omega) (by decide) ?_
            rw [h3c 18 (by decide), hR.sn hq (by omega)]
            refine G_iconst (K := mX5_load) (v := 0) dX5_load_62 (by decide) ?_
            refine G_sipush (K := mX5_load) (v := 999) dX5_load_63 (by decide) ?_
            refine G_sv (K := mX5_load) (c_X5_within (v := (σ (46 + q) i)) (a := 0) (b := 999) ⟨rfl, rfl⟩) sX5_within rfl lX5_97 dX5_load_66 (by decide) rfl (Nat.le_of_ble_eq_true rfl) ?_
            refine G_if_eq (K := mX5_load) (tgt := 99) dX5_load_69 (by decide) (fun c69 => ?_) (fun c69 => ?_)
            · skip
              have hz : ldOK σ q i = false := by
                unfold ldOK fitB
                rw [show tLeast.getD (cut 2) 0 = 0 from rfl, show tMost.getD (cut 2) 0 = 999 from rfl, bI_0 c69, Bool.false_and, Bool.and_false, Bool.and_false, Bool.and_false]
              refine G_iload_n (K := mX5_load) (i := 2) dX5_load_99 rfl rfl ?_
              have hM : ldM σ q = i := by
                unfold ldM
                rw [findF_0 (j := i) (by omega) (fun j hj => by rw [hok j hj]; rfl) (by rw [hz]; rfl)]
                rfl
              exact G_iret (st := []) (K := mX5_load) dX5_load_100 rfl (hQ _ _ (by
                rw [show opLoad σ (nI q) = (nI (ldM σ (cut (nI q))), ldS σ (cut (nI q)) (ldM σ (cut (nI q)))) from if_pos hf, cut_nI (by omega), hM]
                exact ⟨rfl, hR.house (fun c hc => ldS_c (by omega)) (by rw [ldS_n]; exact hT) (fun c hc => h3c c (by unfold solid at hc; omega)) (congrFun (h3c 0 (by omega)) 3) (congrFun (h3c 0 (by omega)) 19)⟩))
            · skip
              have ho : ldOK σ q i = true := by
                unfold ldOK fitB
                rw [show tLeast.getD (cut 2) 0 = 0 from rfl, show tMost.getD (cut 2) 0 = 999 from rfl, bI_1 c69, bI_1 c48, decide_eq_true (Int32.not_le.mp c40)]
                rfl
              refine G_aload_n (K := mX5_load) (i := 0) dX5_load_72 rfl rfl ?_
              refine G_getr (K := mX5_load) fX5_9 dX5_load_73 rfl rfl ?_
              refine G_iload_n (K := mX5_load) (i := 2) dX5_load_76 rfl rfl ?_
              refine G_iconst (K := mX5_load) (v := 2) dX5_load_77 (by decide) ?_
              refine G_sv (K := mX5_load) (c_X5_at (i := i) (f := 2) (by omega) (by omega) ⟨rfl, rfl⟩) sX5_at rfl lX5_101 dX5_load_78 (by decide) rfl (Nat.le_of_ble_eq_true rfl) ?_
              refine G_aload_n (K := mX5_load) (i := 0) dX5_load_81 rfl rfl ?_
              refine G_getr (K := mX5_load) fX5_86 dX5_load_82 rfl rfl ?_
              refine G_bipush (K := mX5_load) (v := 40) dX5_load_85 (by decide) ?_
              refine G_iload_n (K := mX5_load) (i := 1) dX5_load_87 rfl rfl ?_
              refine G_imul (K := mX5_load) dX5_load_88 ?_
              refine G_iload_n (K := mX5_load) (i := 2) dX5_load_89 rfl rfl ?_
              refine G_iadd (K := mX5_load) dX5_load_90 ?_
              rw [nI_40 (by omega) (by omega)]
              refine G_ld (K := mX5_load) (40 * q + i) dX5_load_91 rfl rfl (by omega) (by decide) ?_
              rw [h3c 18 (by decide), hR.sn hq (by omega)]
              refine G_sto (K := mX5_load) (14 + 9 * i + 2) dX5_load_92 rfl rfl (by omega) (by decide) ?_
              refine G_iincN (K := mX5_load) dX5_load_93 (by decide) rfl ?_
              refine G_goto (K := mX5_load) (tgt := 33) dX5_load_96 (by decide) ?_
              refine ih (i + 1) (by omega) (by omega) _ (by rw [toH_ups (f := 2) (by omega) (by omega), ldS_s]; exact hT.upd1 (c := 3) (by omega) (by omega)) (fun c hc => by rw [ups_cell hc]; exact h3c c hc) (fun j hj => ?_)
              by_cases h : j = i
              · subst h; exact ho
              · exact hok j (by omega)
      exact loop33 0 (by omega) M (by rw [ldS_0]; exact hR.1) (fun _ _ => rfl) (fun j hj => absurd hj (by omega))
    · skip
      have hf : refS σ (nI q) = finI 5 := (if_pos hB).trans (if_pos (by rw [cut_nI (by omega)]; exact c20))
      refine G_aload_n (K := mX5_load) (i := 0) dX5_load_23 rfl rfl ?_
      refine G_ldcw (K := mX5_load) dX5_load_24 kX5_336 ?_
      refine G_call0 (K := mX5_load) (Q' := PostR (tl σ 5)) (rf_finding hR (k := 5) (by omega) (fun _ _ h => h)) vX5_finding rfl lX5_109 ⟨_, _, _, rfl, rfl, rfl⟩ (by decide) (Nat.le_of_ble_eq_true rfl) dX5_load_27 rfl ?_
      rintro v M1 ⟨rfl, hR1⟩
      exact G_iret (st := []) (K := mX5_load) dX5_load_30 rfl (hQ _ _ (by rw [show opLoad σ (nI q) = _ from (by unfold opLoad; exact (if_neg (by rw [hf]; decide)).trans ((congrArg (tlI σ) hf).trans (tlI_fin (k := 5) (by decide))))]; exact ⟨rfl, hR1⟩))
  · skip
    have hf : refS σ s = finI 0 := if_neg (within_o (m := 3) (by decide) c4)
    refine G_aload_n (K := mX5_load) (i := 0) dX5_load_7 rfl rfl ?_
    refine G_ldc (K := mX5_load) dX5_load_8 kX5_92 ?_
    refine G_call0 (K := mX5_load) (Q' := PostR (tl σ 0)) (rf_finding hR (k := 0) (by omega) (fun _ _ h => h)) vX5_finding rfl lX5_109 ⟨_, _, _, rfl, rfl, rfl⟩ (by decide) (Nat.le_of_ble_eq_true rfl) dX5_load_10 rfl ?_
    rintro v M1 ⟨rfl, hR1⟩
    exact G_iret (st := []) (K := mX5_load) dX5_load_13 rfl (hQ _ _ (by rw [show opLoad σ s = _ from (by unfold opLoad; exact (if_neg (by rw [hf]; decide)).trans ((congrArg (tlI σ) hf).trans (tlI_fin (k := 0) (by decide))))]; exact ⟨rfl, hR1⟩))

set_option maxRecDepth 20000 in
theorem rf_judge {M σ : Mem} {s r : Int32} (hR : RR M σ) (hI : Inv σ) {Q : Option Value → Mem → Prop} (hQ : ∀ u' M', PostR (opJudge σ s r) u' M' → Q u' M') : CT mX5_judge shR 8 [.ref 0, .int s, .int r] M Q := by
  refine CT.mk [some (.ref 0), some (.int s), some (.int r), none] (by decide) (Nat.le_of_ble_eq_true rfl) rfl rfl ?_
  refine G_iload_n (K := mX5_judge) (i := 1) dX5_judge_0 rfl rfl ?_
  refine G_sv (K := mX5_judge) (c_X5_isSheet (x := s) ⟨rfl, rfl⟩) sX5_isSheet rfl lX5_341 dX5_judge_1 (by decide) rfl (Nat.le_of_ble_eq_true rfl) ?_
  refine G_if_ne (K := mX5_judge) (tgt := 14) dX5_judge_4 (by decide) (fun c4 => ?_) (fun c4 => ?_)
  · skip
    obtain ⟨q, hq, rfl⟩ := within_i (m := 3) (by decide) c4
    have hB := roomB_nI (n := 4) (by decide) hq
    have hL := hI.len hq
    unfold rg at hL
    refine G_aload_n (K := mX5_judge) (i := 0) dX5_judge_14 rfl rfl ?_
    refine G_getr (K := mX5_judge) fX5_80 dX5_judge_15 rfl rfl ?_
    refine G_iload_n (K := mX5_judge) (i := 1) dX5_judge_18 rfl rfl ?_
    refine G_ld (K := mX5_judge) q dX5_judge_19 rfl rfl (by omega) (by decide) ?_
    rw [hR.s0 hq]
    refine G_if_ne (K := mX5_judge) (tgt := 31) dX5_judge_20 (by decide) (fun c20 => ?_) (fun c20 => ?_)
    · skip
      have hf : refS σ (nI q) = 0 := (if_pos hB).trans (if_neg (by rw [cut_nI (by omega)]; exact c20))
      have hn8 := hI.n8
      refine G_aload_n (K := mX5_judge) (i := 0) dX5_judge_31 rfl rfl ?_
      refine G_iload_n (K := mX5_judge) (i := 2) dX5_judge_32 rfl rfl ?_
      refine G_cv (K := mX5_judge) (c_X5_isRoom (r := r) (n := nOf σ) (hR.n hI) hI.n8 ⟨rfl, rfl⟩) vX5_isRoom rfl lX5_128 dX5_judge_33 ⟨_, _, _, rfl, rfl, rfl⟩ (by decide) rfl (Nat.le_of_ble_eq_true rfl) ?_
      refine G_if_ne (K := mX5_judge) (tgt := 46) dX5_judge_36 (by decide) (fun c36 => ?_) (fun c36 => ?_)
      · skip
        obtain ⟨w, hw, rfl⟩ := roomB_t (by have := hI.n8; omega) (bI_1 c36)
        have hB2 := roomB_nI (n := nOf σ) (by omega) hw
        obtain ⟨L, hL40, eL⟩ : ∃ L, L ≤ 40 ∧ σ 45 q = nI L := ⟨(σ 45 q).toInt.toNat, by omega, i32_ext (by rw [nI_toI (by omega)]; omega)⟩
        refine G_aload_n (K := mX5_judge) (i := 0) dX5_judge_46 rfl rfl ?_
        refine G_aload_n (K := mX5_judge) (i := 0) dX5_judge_47 rfl rfl ?_
        refine G_getr (K := mX5_judge) fX5_83 dX5_judge_48 rfl rfl ?_
        refine G_iload_n (K := mX5_judge) (i := 1) dX5_judge_51 rfl rfl ?_
        refine G_ld (K := mX5_judge) q dX5_judge_52 rfl rfl (by omega) (by decide) ?_
        rw [hR.s1 hq]
        refine G_cv (K := mX5_judge) (c_X5_isTooLate (a := (σ 45 q)) ⟨rfl, rfl⟩) vX5_isTooLate rfl lX5_160 dX5_judge_53 ⟨_, _, _, rfl, rfl, rfl⟩ (by decide) rfl (Nat.le_of_ble_eq_true rfl) ?_
        rw [hR.hour]
        refine G_if_eq (K := mX5_judge) (tgt := 66) dX5_judge_56 (by decide) (fun c56 => ?_) (fun c56 => ?_)
        · skip
          have hT := of_decide_eq_false (bI_0 c56)
          refine G_aload_n (K := mX5_judge) (i := 0) dX5_judge_66 rfl rfl ?_
          refine G_getr (K := mX5_judge) fX5_9 dX5_judge_67 rfl rfl ?_
          refine G_aload_n (K := mX5_judge) (i := 0) dX5_judge_70 rfl rfl ?_
          refine G_getr (K := mX5_judge) fX5_16 dX5_judge_71 rfl rfl ?_
          refine G_sn (K := mX5_judge) (c_X5_copyRow (a := 1) (b := 3) rfl rfl (by decide) ⟨rfl, rfl⟩) sX5_copyRow rfl lX5_93 dX5_judge_74 (by decide) rfl (Nat.le_of_ble_eq_true rfl) ?_
          refine G_iconst (K := mX5_judge) (v := 0) dX5_judge_77 (by decide) ?_
          refine G_istore_n (K := mX5_judge) (i := 3) dX5_judge_78 rfl (by decide) ?_
          have loop79 : ∀ i, i ≤ L → ∀ M3 : Mem, HR (toH (M3 1)) (hoursH (nOf σ) i σ) (nOf σ) → toH (M3 3) = toH (M 1) → (∀ z, z ≠ 1 → z ≠ 3 → z ≠ 7 → M3 z = M z) → (∀ j, j < i → jgB σ q w j = false) → G mX5_judge shR 8 Q 79 [some (.ref 0), some (.int (nI q)), some (.int (nI w)), some (.int (nI i))] [] M3 := by
            refine upto L (fun i hi ih => ?_)
            intro M3 hA3 h33 h3c hno
            have hn3 : M3 1 2 = nI (nOf σ) := (hA3.1 0 (by omega)).trans ((hoursH_0 _ _ _).trans hI.nI)
            refine G_iload_n (K := mX5_judge) (i := 3) dX5_judge_79 rfl rfl ?_
            refine G_aload_n (K := mX5_judge) (i := 0) dX5_judge_80 rfl rfl ?_
            refine G_getr (K := mX5_judge) fX5_83 dX5_judge_81 rfl rfl ?_
            refine G_iload_n (K := mX5_judge) (i := 1) dX5_judge_84 rfl rfl ?_
            refine G_ld (K := mX5_judge) q dX5_judge_85 rfl rfl (by omega) (by decide) ?_
            rw [h3c 17 (by decide) (by decide) (by decide), hR.s1 hq, eL]
            refine G_icmp_ge (K := mX5_judge) (tgt := 123) dX5_judge_86 (by decide) (fun c86 => ?_) (fun c86 => ?_)
            · skip
              rw [le_nn (by omega) (by omega)] at c86
              have hiL : i = L := by omega
              have hRb : RR (cpyM M3 3 1 86) σ := hR.back h33 (fun c a b d _ _ => h3c c a b d)
              refine G_aload_n (K := mX5_judge) (i := 0) dX5_judge_123 rfl rfl ?_
              refine G_iload_n (K := mX5_judge) (i := 3) dX5_judge_124 rfl rfl ?_
              refine G_aload_n (K := mX5_judge) (i := 0) dX5_judge_125 rfl rfl ?_
              refine G_getr (K := mX5_judge) fX5_83 dX5_judge_126 rfl rfl ?_
              refine G_iload_n (K := mX5_judge) (i := 1) dX5_judge_129 rfl rfl ?_
              refine G_ld (K := mX5_judge) q dX5_judge_130 rfl rfl (by omega) (by decide) ?_
              rw [h3c 17 (by decide) (by decide) (by decide), hR.s1 hq, eL]
              refine G_icmp_ne (K := mX5_judge) (tgt := 138) dX5_judge_131 (by decide) (fun c131 => ?_) (fun c131 => ?_)
              · skip
                exact absurd (by rw [hiL]) c131
              · skip
                refine G_iconst (K := mX5_judge) (v := 0) dX5_judge_134 (by decide) ?_
                refine G_goto (K := mX5_judge) (tgt := 141) dX5_judge_135 (by decide) ?_
                refine G_cv (K := mX5_judge) (c_X5_putBack (M := M3) (v := _) ⟨rfl, rfl⟩) vX5_putBack rfl lX5_179 dX5_judge_141 ⟨_, _, _, rfl, rfl, rfl⟩ (by decide) rfl (Nat.le_of_ble_eq_true rfl) ?_
                exact G_iret (st := []) (K := mX5_judge) dX5_judge_144 rfl (hQ _ _ (by rw [show opJudge σ (nI q) (nI w) = (jgV (findF (jgB σ (cut (nI q)) (cut (nI w))) 0 (cut (σ 45 (cut (nI q))))), σ) from (if_pos hf).trans ((if_pos hB2).trans (if_neg (by rw [cut_nI (by omega)]; exact hT))), cut_nI (k := q) (by omega), cut_nI (k := w) (by omega), eL, cut_nI (by omega), findF_n0 (fun z hz => hno z (by omega))]; exact ⟨rfl, hRb⟩))
            · skip
              rw [le_nn (by omega) (by omega)] at c86
              refine G_aload_n (K := mX5_judge) (i := 0) dX5_judge_89 rfl rfl ?_
              refine G_iconst (K := mX5_judge) (v := 1) dX5_judge_90 (by decide) ?_
              refine G_call0 (K := mX5_judge) (as := [.int (nI 1)]) (r := 0) (Q' := fun v Mz => v = some (.int (hoursSum (nOf σ) 1 (toH (M3 1)))) ∧ toH (Mz 1) = hoursH (nOf σ) 1 (toH (M3 1)) ∧ ∀ c, c ≠ 1 → c ≠ 7 → Mz c = M3 c) (c_X5_hoursGo (n := nOf σ) (k := 1) hn3 hI.n8 (by omega) (fun x hx => by rw [hA3.f 4 (by omega) (by omega) hx]; exact wall_hours hI (i) hx) (fun Mz h1 h2 => ⟨rfl, h1, h2⟩)) vX5_hoursGo rfl lX5_164 ⟨_, _, _, rfl, rfl, rfl⟩ (by decide) (Nat.le_of_ble_eq_true rfl) dX5_judge_91 rfl ?_
              rintro v M4 ⟨rfl, h41, h42⟩
              have hA4 : HR (toH (M4 1)) (hoursH (nOf σ) (i + 1) σ) (nOf σ) := by rw [h41]; exact hoursH_congr hA3 1
              have hn4 : M4 1 2 = nI (nOf σ) := (hA4.1 0 (by omega)).trans ((hoursH_0 _ _ _).trans hI.nI)
              have h43 : toH (M4 3) = toH (M 1) := by rw [h42 3 (by decide) (by decide)]; exact h33
              have h4c : ∀ z, z ≠ 1 → z ≠ 3 → z ≠ 7 → M4 z = M z := fun z a b d => by rw [h42 z a d]; exact h3c z a b d
              refine G_if_lt (K := mX5_judge) (tgt := 123) dX5_judge_94 (by decide) (fun c94 => ?_) (fun c94 => ?_)
              · skip
                exact absurd c94 (by
                    have h := hoursSum_rg (HJ.ofHR hA3 (hI.1.j.hours hI.n8 hI.1.2.2.1.1 i)) hI.n8 (by rw [hA3.1 1 (by omega), hoursH_out]; exact hI.1.2.2.1.1) 1 (by omega)
                    unfold rg at h
                    rw [i32_lt]
                    exact Int.not_lt.mpr h.1)
              · skip
                refine G_aload_n (K := mX5_judge) (i := 0) dX5_judge_97 rfl rfl ?_
                refine G_iload_n (K := mX5_judge) (i := 2) dX5_judge_98 rfl rfl ?_
                refine G_iconst (K := mX5_judge) (v := 1) dX5_judge_99 (by decide) ?_
                refine G_cv (K := mX5_judge) (c_X5_roomIs (M := M4) (i := w) (f := 1) (by omega) (by omega) ⟨rfl, rfl⟩) vX5_roomIs rfl lX5_120 dX5_judge_100 ⟨_, _, _, rfl, rfl, rfl⟩ (by decide) rfl (Nat.le_of_ble_eq_true rfl) ?_
                rw [show toH (M4 1) (1 + 1) w = hoursH (nOf σ) (i + 1) σ 2 w from hA4.f 2 (by omega) (by omega) hw]
                refine G_aload_n (K := mX5_judge) (i := 0) dX5_judge_103 rfl rfl ?_
                refine G_getr (K := mX5_judge) fX5_86 dX5_judge_104 rfl rfl ?_
                refine G_bipush (K := mX5_judge) (v := 40) dX5_judge_107 (by decide) ?_
                refine G_iload_n (K := mX5_judge) (i := 1) dX5_judge_109 rfl rfl ?_
                refine G_imul (K := mX5_judge) dX5_judge_110 ?_
                refine G_iload_n (K := mX5_judge) (i := 3) dX5_judge_111 rfl rfl ?_
                refine G_iadd (K := mX5_judge) dX5_judge_112 ?_
                rw [nI_40 (by omega) (by omega)]
                refine G_ld (K := mX5_judge) (40 * q + i) dX5_judge_113 rfl rfl (by omega) (by decide) ?_
                rw [h4c 18 (by decide) (by decide) (by decide), hR.sn hq (by omega)]
                refine G_icmp_ne (K := mX5_judge) (tgt := 123) dX5_judge_114 (by decide) (fun c114 => ?_) (fun c114 => ?_)
                · skip
                  have hj : jgB σ q w i = true := decide_eq_true c114
                  have hRb : RR (cpyM M4 3 1 86) σ := hR.back h43 (fun c a b d _ _ => h4c c a b d)
                  refine G_aload_n (K := mX5_judge) (i := 0) dX5_judge_123 rfl rfl ?_
                  refine G_iload_n (K := mX5_judge) (i := 3) dX5_judge_124 rfl rfl ?_
                  refine G_aload_n (K := mX5_judge) (i := 0) dX5_judge_125 rfl rfl ?_
                  refine G_getr (K := mX5_judge) fX5_83 dX5_judge_126 rfl rfl ?_
                  refine G_iload_n (K := mX5_judge) (i := 1) dX5_judge_129 rfl rfl ?_
                  refine G_ld (K := mX5_judge) q dX5_judge_130 rfl rfl (by omega) (by decide) ?_
                  rw [h4c 17 (by decide) (by decide) (by decide), hR.s1 hq, eL]
                  refine G_icmp_ne (K := mX5_judge) (tgt := 138) dX5_judge_131 (by decide) (fun c131 => ?_) (fun c131 => ?_)
                  · skip
                    refine G_iconst (K := mX5_judge) (v := 1) dX5_judge_138 (by decide) ?_
                    refine G_iload_n (K := mX5_judge) (i := 3) dX5_judge_139 rfl rfl ?_
                    refine G_iadd (K := mX5_judge) dX5_judge_140 ?_
                    rw [show (1 : Int32) + nI i = nI (i + 1) from by rw [← nI_1]; grind]
                    refine G_cv (K := mX5_judge) (c_X5_putBack (M := M4) (v := _) ⟨rfl, rfl⟩) vX5_putBack rfl lX5_179 dX5_judge_141 ⟨_, _, _, rfl, rfl, rfl⟩ (by decide) rfl (Nat.le_of_ble_eq_true rfl) ?_
                    exact G_iret (st := []) (K := mX5_judge) dX5_judge_144 rfl (hQ _ _ (by rw [show opJudge σ (nI q) (nI w) = (jgV (findF (jgB σ (cut (nI q)) (cut (nI w))) 0 (cut (σ 45 (cut (nI q))))), σ) from (if_pos hf).trans ((if_pos hB2).trans (if_neg (by rw [cut_nI (by omega)]; exact hT))), cut_nI (k := q) (by omega), cut_nI (k := w) (by omega), eL, cut_nI (by omega), findF_0 (j := i) (by omega) hno hj]; exact ⟨rfl, hRb⟩))
                  · skip
                    exact absurd ((nI_eqI (by omega) (by omega)).mp c131) (by omega)
                · skip
                  have hj : jgB σ q w i = false := decide_eq_false (fun z => z c114)
                  refine G_iincN (K := mX5_judge) dX5_judge_117 (by decide) rfl ?_
                  refine G_goto (K := mX5_judge) (tgt := 79) dX5_judge_120 (by decide) ?_
                  refine ih (i + 1) (by omega) (by omega) M4 hA4 h43 h4c (fun j hj2 => ?_)
                  by_cases h : j = i
                  · subst h; exact hj
                  · exact hno j (by omega)
          exact loop79 0 (by omega) _ (by rw [cpyM_c (by decide)]; exact hR.1) toH_cpy (fun z h1 h3 _ => cpyM_c h3) (fun j hj => absurd hj (by omega))
        · skip
          have hT := of_decide_eq_true (bI_1 c56)
          refine G_aload_n (K := mX5_judge) (i := 0) dX5_judge_59 rfl rfl ?_
          refine G_ldc (K := mX5_judge) dX5_judge_60 kX5_163 ?_
          refine G_call0 (K := mX5_judge) (Q' := PostR (tl σ 4)) (rf_finding hR (k := 4) (by omega) (fun _ _ h => h)) vX5_finding rfl lX5_109 ⟨_, _, _, rfl, rfl, rfl⟩ (by decide) (Nat.le_of_ble_eq_true rfl) dX5_judge_62 rfl ?_
          rintro v M1 ⟨rfl, hR1⟩
          exact G_iret (st := []) (K := mX5_judge) dX5_judge_65 rfl (hQ _ _ (by rw [show opJudge σ (nI q) (nI w) = _ from (by unfold opJudge; exact (if_pos hf).trans ((if_pos hB2).trans (if_pos (by rw [cut_nI (by omega)]; exact hT))))]; exact ⟨rfl, hR1⟩))
      · skip
        refine G_aload_n (K := mX5_judge) (i := 0) dX5_judge_39 rfl rfl ?_
        refine G_ldc (K := mX5_judge) dX5_judge_40 kX5_92 ?_
        refine G_call0 (K := mX5_judge) (Q' := PostR (tl σ 0)) (rf_finding hR (k := 0) (by omega) (fun _ _ h => h)) vX5_finding rfl lX5_109 ⟨_, _, _, rfl, rfl, rfl⟩ (by decide) (Nat.le_of_ble_eq_true rfl) dX5_judge_42 rfl ?_
        rintro v M1 ⟨rfl, hR1⟩
        exact G_iret (st := []) (K := mX5_judge) dX5_judge_45 rfl (hQ _ _ (by rw [show opJudge σ (nI q) r = _ from (by unfold opJudge; exact (if_pos hf).trans (if_neg (by rw [bI_0 c36]; decide)))]; exact ⟨rfl, hR1⟩))
    · skip
      have hf : refS σ (nI q) = finI 5 := (if_pos hB).trans (if_pos (by rw [cut_nI (by omega)]; exact c20))
      refine G_aload_n (K := mX5_judge) (i := 0) dX5_judge_23 rfl rfl ?_
      refine G_ldcw (K := mX5_judge) dX5_judge_24 kX5_336 ?_
      refine G_call0 (K := mX5_judge) (Q' := PostR (tl σ 5)) (rf_finding hR (k := 5) (by omega) (fun _ _ h => h)) vX5_finding rfl lX5_109 ⟨_, _, _, rfl, rfl, rfl⟩ (by decide) (Nat.le_of_ble_eq_true rfl) dX5_judge_27 rfl ?_
      rintro v M1 ⟨rfl, hR1⟩
      exact G_iret (st := []) (K := mX5_judge) dX5_judge_30 rfl (hQ _ _ (by rw [show opJudge σ (nI q) r = _ from (by unfold opJudge; exact (if_neg (by rw [hf]; decide)).trans ((congrArg (tlI σ) hf).trans (tlI_fin (k := 5) (by decide))))]; exact ⟨rfl, hR1⟩))
  · skip
    have hf : refS σ s = finI 0 := if_neg (within_o (m := 3) (by decide) c4)
    refine G_aload_n (K := mX5_judge) (i := 0) dX5_judge_7 rfl rfl ?_
    refine G_ldc (K := mX5_judge) dX5_judge_8 kX5_92 ?_
    refine G_call0 (K := mX5_judge) (Q' := PostR (tl σ 0)) (rf_finding hR (k := 0) (by omega) (fun _ _ h => h)) vX5_finding rfl lX5_109 ⟨_, _, _, rfl, rfl, rfl⟩ (by decide) (Nat.le_of_ble_eq_true rfl) dX5_judge_10 rfl ?_
    rintro v M1 ⟨rfl, hR1⟩
    exact G_iret (st := []) (K := mX5_judge) dX5_judge_13 rfl (hQ _ _ (by rw [show opJudge σ s r = _ from (by unfold opJudge; exact (if_neg (by rw [hf]; decide)).trans ((congrArg (tlI σ) hf).trans (tlI_fin (k := 0) (by decide))))]; exact ⟨rfl, hR1⟩))

theorem RR.tape {M σ : Mem} {L : Nat} {x y : Int32} (hR : RR M σ) : RR (ups (ups M 12 L x) 0 19 y) (ups (ups σ 42 L x) 43 0 y) := by
  have em : ∀ c, c ≠ 0 → c ≠ 12 → ups (ups M 12 L x) 0 19 y c = M c := fun c h1 h2 => by rw [ups_cell h1, ups_cell h2]
  have es : ∀ c, c ≠ 42 → c ≠ 43 → ups (ups σ 42 L x) 43 0 y c = σ c := fun c h1 h2 => by rw [ups_cell h2, ups_cell h1]
  obtain ⟨r1, r2, r3, r4, r5, r6, r7, r8⟩ := id hR
  refine ⟨hR.one (by rw [em 1 (by decide) (by decide)]) (fun j hj => es j (by omega) (by omega)), hR.two (by rw [em 2 (by decide) (by decide)]) (fun j hj => es _ (by omega) (by omega)) (by rw [es 40 (by omega) (by omega)]), by rw [ups_ne (by omega), ups_cell (by decide), es 40 (by omega) (by omega)]; exact r3, by rw [em 4 (by decide) (by decide), es 41 (by omega) (by omega)]; exact r4, fun i hi => ?_, by rw [ups_same, ups_same], fun s hs => ?_, by rw [em 5 (by decide) (by decide), em 6 (by decide) (by decide)]; exact r8⟩
  · rw [ups_cell (show 12 ≠ 0 by decide), ups_cell (show 42 ≠ 43 by omega)]
    by_cases h : i = L
    · subst h; rw [ups_same, ups_same]
    · rw [ups_ne (fun z => h z.2), ups_ne (fun z => h z.2)]; exact r5 i hi
  · rw [em 16 (by decide) (by decide), em 17 (by decide) (by decide), em 18 (by decide) (by decide), es 44 (by omega) (by omega), es 45 (by omega) (by omega), es (46 + s) (by omega) (by omega)]
    exact r7 s hs
theorem byte_bv (x : BitVec 32) : x.sshiftRight 8 &&& 255#32 = x >>> 8 &&& 255#32 ∧ x.sshiftRight 16 &&& 255#32 = x >>> 16 &&& 255#32 ∧ x.sshiftRight 24 &&& 255#32 = x >>> 24 &&& 255#32 := by
  refine ⟨?_, ?_, ?_⟩
  all_goals
    apply BitVec.eq_of_getLsbD_eq
    intro i hi
    rw [BitVec.getLsbD_and, BitVec.getLsbD_and, BitVec.getLsbD_sshiftRight, BitVec.getLsbD_ushiftRight]
    by_cases h : i < 8
    · simp [show ¬ 32 ≤ i by omega, show 8 + i < 32 by omega, show 16 + i < 32 by omega, show 24 + i < 32 by omega]
    · have e : (255#32).getLsbD i = false := by
        have : ∀ j : Fin 32, ¬ j.1 < 8 → (255#32).getLsbD j.1 = false := by decide
        exact this ⟨i, hi⟩ h
      rw [e, Bool.and_false, Bool.and_false]
theorem byte_eq (b : Int32) {m : Nat} (hm : m < 4) : (b >>> ((8 : Int32) * nI m &&& 31)) &&& 255 = byteF b m := by
  have h4 : m = 0 ∨ m = 1 ∨ m = 2 ∨ m = 3 := by omega
  unfold byteF
  obtain ⟨h1, h2, h3⟩ := byte_bv b.toBitVec
  rcases h4 with rfl | rfl | rfl | rfl
  · have e : ((8 : Int32) * nI 0 &&& 31) = 0 := by decide
    have e2 : (((8 : Int32) * nI 0).toUInt32 &&& Int32.toUInt32 31) = 0 := by decide
    rw [e, e2]
    simp
  · have e : ((8 : Int32) * nI 1 &&& 31) = 8 := by decide
    have e2 : (((8 : Int32) * nI 1).toUInt32 &&& Int32.toUInt32 31) = 8 := by decide
    rw [e, e2]
    exact Int32.toBitVec_inj.mp h1
  · have e : ((8 : Int32) * nI 2 &&& 31) = 16 := by decide
    have e2 : (((8 : Int32) * nI 2).toUInt32 &&& Int32.toUInt32 31) = 16 := by decide
    rw [e, e2]
    exact Int32.toBitVec_inj.mp h2
  · have e : ((8 : Int32) * nI 3 &&& 31) = 24 := by decide
    have e2 : (((8 : Int32) * nI 3).toUInt32 &&& Int32.toUInt32 31) = 24 := by decide
    rw [e, e2]
    exact Int32.toBitVec_inj.mp h3
set_option maxRecDepth 20000 in
theorem rf_feed {M σ : Mem} {b a : Int32} (hR : RR M σ) (hI : Inv σ) {Q : Option Value → Mem → Prop} (hQ : ∀ u' M', PostR (opFeed σ b a) u' M' → Q u' M') : CT mX5_feed shR 8 [.ref 0, .int b, .int a] M Q := by
  refine CT.mk [some (.ref 0), some (.int b), some (.int a), none] (by decide) (Nat.le_of_ble_eq_true rfl) rfl rfl ?_
  refine G_iload_n (K := mX5_feed) (i := 2) dX5_feed_0 rfl rfl ?_
  refine G_iconst (K := mX5_feed) (v := 1) dX5_feed_1 (by decide) ?_
  refine G_iconst (K := mX5_feed) (v := 4) dX5_feed_2 (by decide) ?_
  refine G_sv (K := mX5_feed) (c_X5_within (v := a) (a := 1) (b := 4) ⟨rfl, rfl⟩) sX5_within rfl lX5_97 dX5_feed_3 (by decide) rfl (Nat.le_of_ble_eq_true rfl) ?_
  refine G_if_ne (K := mX5_feed) (tgt := 16) dX5_feed_6 (by decide) (fun c6 => ?_) (fun c6 => ?_)
  · skip
    obtain ⟨kk1, kk2⟩ := within_2 c6
    have htp : rg (σ 43 0) 0 120 := hI.2.2.2.2.2.1
    refine G_aload_n (K := mX5_feed) (i := 0) dX5_feed_16 rfl rfl ?_
    refine G_geti (K := mX5_feed) fX5_260 dX5_feed_17 rfl rfl ?_
    rw [hR.2.2.2.2.2.1]
    refine G_iload_n (K := mX5_feed) (i := 2) dX5_feed_20 rfl rfl ?_
    refine G_iadd (K := mX5_feed) dX5_feed_21 ?_
    refine G_bipush (K := mX5_feed) (v := 120) dX5_feed_22 (by decide) ?_
    refine G_icmp_le (K := mX5_feed) (tgt := 34) dX5_feed_24 (by decide) (fun c24 => ?_) (fun c24 => ?_)
    · skip
      obtain ⟨k, hk2, rfl⟩ := nat_of (a := a) (fun z => kk1 (by rw [i32_lt] at z ⊢; have z2 : a.toInt < 0 := z; show a.toInt < 1; omega))
      obtain ⟨L0, hL120, eL0⟩ : ∃ L : Nat, L ≤ 120 ∧ σ 43 0 = nI L := by
        unfold rg at htp
        refine ⟨(σ 43 0).toInt.toNat, by omega, i32_ext ?_⟩
        rw [nI_toI (by omega)]
        omega
      have hk4 : k ≤ 4 := (le_nn (n := k) (i := 4) (by omega) (by omega)).mp (Int32.not_lt.mp kk2)
      have hLk : L0 + k ≤ 120 := (le_nn (n := L0 + k) (i := 120) (by omega) (by omega)).mp (by rw [← nI_add, ← eL0]; exact c24)
      refine G_iload_n (K := mX5_feed) (i := 2) dX5_feed_34 rfl rfl ?_
      refine G_iconst (K := mX5_feed) (v := 1) dX5_feed_35 (by decide) ?_
      refine G_isub (K := mX5_feed) dX5_feed_36 ?_
      refine G_istore_n (K := mX5_feed) (i := 3) dX5_feed_37 rfl (by decide) ?_
      have loop38 : ∀ i, i ≤ k → ∀ (y : Nat) (M3 σ3 : Mem) (L : Nat), y = k - i → RR M3 σ3 → σ3 43 0 = nI L → L + y ≤ 120 → fedS b y σ3 = fedS b k σ → G mX5_feed shR 8 Q 38 [some (.ref 0), some (.int b), some (.int (nI k)), some (.int (nI y - 1))] [] M3 := by
        refine upto k (fun i hi ih => ?_)
        intro y M3 σ3 L hy hR3 eL3 hLy hfe
        refine G_iload_n (K := mX5_feed) (i := 3) dX5_feed_38 rfl rfl ?_
        refine G_if_lt (K := mX5_feed) (tgt := 77) dX5_feed_39 (by decide) (fun c39 => ?_) (fun c39 => ?_)
        · skip
          have hm0 : y = 0 := by
            rcases y with _ | w
            · rfl
            · rw [show nI (w + 1) - 1 = nI w from by rw [← nI_1]; grind] at c39
              exact absurd c39 (nI_pos (by omega))
          subst hm0
          refine G_aload_n (K := mX5_feed) (i := 0) dX5_feed_77 rfl rfl ?_
          refine G_geti (K := mX5_feed) fX5_260 dX5_feed_78 rfl rfl ?_
          rw [hR3.2.2.2.2.2.1]
          have hfe2 : σ3 = fedS b k σ := hfe
          exact G_iret (st := []) (K := mX5_feed) dX5_feed_81 rfl (hQ _ _ (by rw [show opFeed σ b (nI k) = (fedS b (cut (nI k)) σ 43 0, fedS b (cut (nI k)) σ) from (if_neg kk1).trans ((if_neg kk2).trans (if_neg (Int32.not_lt.mpr c24))), cut_nI hk2, ← hfe2]; exact ⟨rfl, hR3⟩))
        · skip
          obtain ⟨w, rfl⟩ : ∃ w, y = w + 1 := by
            rcases y with _ | w
            · exact absurd (by decide) c39
            · exact ⟨w, rfl⟩
          rw [show nI (w + 1) - 1 = nI w from by rw [← nI_1]; grind]
          refine G_aload_n (K := mX5_feed) (i := 0) dX5_feed_42 rfl rfl ?_
          refine G_getr (K := mX5_feed) fX5_43 dX5_feed_43 rfl rfl ?_
          refine G_aload_n (K := mX5_feed) (i := 0) dX5_feed_46 rfl rfl ?_
          refine G_geti (K := mX5_feed) fX5_260 dX5_feed_47 rfl rfl ?_
          rw [hR3.2.2.2.2.2.1, eL3]
          refine G_iload_n (K := mX5_feed) (i := 1) dX5_feed_50 rfl rfl ?_
          refine G_bipush (K := mX5_feed) (v := 8) dX5_feed_51 (by decide) ?_
          refine G_iload_n (K := mX5_feed) (i := 3) dX5_feed_53 rfl rfl ?_
          refine G_imul (K := mX5_feed) dX5_feed_54 ?_
          refine G_ishr (K := mX5_feed) dX5_feed_55 ?_
          refine G_sipush (K := mX5_feed) (v := 255) dX5_feed_56 (by decide) ?_
          refine G_iand (K := mX5_feed) dX5_feed_59 ?_
          rw [byte_eq b (by omega)]
          refine G_sto (K := mX5_feed) L dX5_feed_60 rfl rfl (by omega) (by decide) ?_
          refine G_aload_n (K := mX5_feed) (i := 0) dX5_feed_61 rfl rfl ?_
          refine G_dup (K := mX5_feed) dX5_feed_62 rfl ?_
          refine G_geti (K := mX5_feed) fX5_260 dX5_feed_63 rfl rfl ?_
          rw [ups_cell (show (0 : Nat) ≠ 12 by decide), hR3.2.2.2.2.2.1]
          refine G_iconst (K := mX5_feed) (v := 1) dX5_feed_66 (by decide) ?_
          refine G_iadd (K := mX5_feed) dX5_feed_67 ?_
          refine G_puti (K := mX5_feed) fX5_260 w5_19 dX5_feed_68 rfl rfl ?_
          refine G_iinc (K := mX5_feed) (v := nI w - 1) dX5_feed_71 (by decide) rfl (by show nI w + (-1) = nI w - 1; grind) ?_
          refine G_goto (K := mX5_feed) (tgt := 38) dX5_feed_74 (by decide) ?_
          have e1 : fed1 b w σ3 = ups (ups σ3 42 L (byteF b w)) 43 0 (σ3 43 0 + 1) := by unfold fed1; rw [eL3, cut_nI (by omega)]
          exact ih (i + 1) (by omega) (by omega) w _ (fed1 b w σ3) (L + 1) (by omega) (by rw [e1]; exact hR3.tape) (by rw [e1, ups_same, eL3, nI_1]) (by omega) hfe
      exact loop38 0 (by omega) k M σ L0 (by omega) hR eL0 hLk rfl
    · skip
      refine G_aload_n (K := mX5_feed) (i := 0) dX5_feed_27 rfl rfl ?_
      refine G_ldc (K := mX5_feed) dX5_feed_28 kX5_113 ?_
      refine G_call0 (K := mX5_feed) (Q' := PostR (tl σ 1)) (rf_finding hR (k := 1) (by omega) (fun _ _ h => h)) vX5_finding rfl lX5_109 ⟨_, _, _, rfl, rfl, rfl⟩ (by decide) (Nat.le_of_ble_eq_true rfl) dX5_feed_30 rfl ?_
      rintro v M1 ⟨rfl, hR1⟩
      exact G_iret (st := []) (K := mX5_feed) dX5_feed_33 rfl (hQ _ _ (by rw [show opFeed σ b a = _ from (by unfold opFeed; exact (if_neg kk1).trans ((if_neg kk2).trans (if_pos (Int32.not_le.mp c24))))]; exact ⟨rfl, hR1⟩))
  · skip
    refine G_aload_n (K := mX5_feed) (i := 0) dX5_feed_9 rfl rfl ?_
    refine G_ldc (K := mX5_feed) dX5_feed_10 kX5_92 ?_
    refine G_call0 (K := mX5_feed) (Q' := PostR (tl σ 0)) (rf_finding hR (k := 0) (by omega) (fun _ _ h => h)) vX5_finding rfl lX5_109 ⟨_, _, _, rfl, rfl, rfl⟩ (by decide) (Nat.le_of_ble_eq_true rfl) dX5_feed_12 rfl ?_
    rintro v M1 ⟨rfl, hR1⟩
    exact G_iret (st := []) (K := mX5_feed) dX5_feed_15 rfl (hQ _ _ (by rw [show opFeed σ b a = _ from (by unfold opFeed; exact ((within_3 c6).elim (fun h => if_pos h) (fun h => (if_neg h.1).trans (if_pos h.2))))]; exact ⟨rfl, hR1⟩))
