theorem hput2_hof2 {M : Mem} {b c : Nat} (hbc : apart b c) : hput2 M b c (hof2 M b c) = M := by
  unfold apart at hbc
  unfold hput2
  funext q
  by_cases hq : c ≤ q ∧ q < c + 11
  · have e : hput (hput M b (hof2 M b c)) c (fun j => hof2 M b c (j + 11)) q = hof2 M b c (q - c + 11) := if_pos hq
    rw [e]
    unfold hof2
    rw [if_neg (by omega), show c + (q - c + 11 - 11) = q by omega]
  · have e : hput (hput M b (hof2 M b c)) c (fun j => hof2 M b c (j + 11)) q = hput M b (hof2 M b c) q := if_neg hq
    rw [e]
    by_cases hb : b ≤ q ∧ q < b + 11
    · have e2 : hput M b (hof2 M b c) q = hof2 M b c (q - b) := if_pos hb
      rw [e2]
      unfold hof2
      rw [if_pos (by omega), show b + (q - b) = q by omega]
    · exact if_neg hb
section CallW
variable {K : MI} {d : Nat} {Q : Option Value → Mem → Prop} {pc : Nat} {ls : List (Option Value)} {rest : List Value} {M σ : Mem} {idx : Nat}
theorem G_st12 (hR : RC M σ) (hI : Inv σ) (hlink : Cond.methodLink K.1.cls idx yX4_startTrial ∈ gtbl) (hd : decode K.2.1 pc = .ok (.invokevirtual idx, 3)) (hd1 : 3 ≤ d) (hrest : (rest.map fun v => v.category).sum ≤ 8)
    (kk : ∀ h', HR h' σ (nOf σ) → RC (hput M 12 h') σ → G K shC d Q (pc + 3) ls rest (hput M 12 h')) : G K shC d Q pc ls (.ref 0 :: rest) M := by
  refine G_call0 (as := []) (Q' := fun v M' => v = none ∧ ∃ h', HR h' (hof M 1) 8 ∧ M' = hput M 12 h') (cl_start (fun h' hh' => ⟨rfl, h', hh', rfl⟩)) vX4_startTrial rfl hlink ⟨_, _, _, rfl, rfl, rfl⟩ hd1 hrest hd rfl ?_
  rintro v M1 ⟨rfl, h1, hh1, rfl⟩
  exact kk h1 ((hh1.le hI.n8).tr hR.1) (hR.scr (Or.inl rfl))
theorem G_ga {k : Nat} (hR : RC M σ) (hI : Inv σ) (hk : k < 2147483648) (hlink : Cond.methodLink K.1.cls idx yX4_goAsItGoes ∈ gtbl) (hd : decode K.2.1 pc = .ok (.invokevirtual idx, 3)) (hd1 : 6 ≤ d) (hrest : (rest.map fun v => v.category).sum ≤ 8)
    (kk : ∀ h', HR h' (hoursH (nOf σ) k σ) (nOf σ) → RC (hput M 23 h') σ → G K shC d Q (pc + 3) ls rest (hput M 23 h')) : G K shC d Q pc ls (.int (nI k) :: .ref 0 :: rest) M := by
  refine G_call0 (as := [.int (nI k)]) (Q' := fun v M' => v = none ∧ ∃ h', HR h' (hoursH (nOf σ) k σ) (nOf σ) ∧ M' = hput M 23 h') (cl_asItGoes hR.1 hI.nI hI.n8 hk hI.wall (fun h' hh' => ⟨rfl, h', hh', rfl⟩)) vX4_goAsItGoes rfl hlink ⟨_, _, _, rfl, rfl, rfl⟩ hd1 hrest hd rfl ?_
  rintro v M1 ⟨rfl, h1, hh1, rfl⟩
  exact kk h1 hh1 (hR.scr (Or.inr (Or.inl rfl)))
theorem G_gw {k r w : Nat} {x : Int32} (hR : RC M σ) (hI : Inv σ) (hk : k < 2147483648) (hr : r < nOf σ) (hw9 : w < 9) (hwall : ∀ i, i < nOf σ → 0 < ups σ (1 + w) r x 4 i) (hlink : Cond.methodLink K.1.cls idx yX4_goWith ∈ gtbl) (hd : decode K.2.1 pc = .ok (.invokevirtual idx, 3)) (hd1 : 6 ≤ d) (hrest : (rest.map fun v => v.category).sum ≤ 8)
    (kk : ∀ h', HR h' (hoursH (nOf σ) k (ups σ (1 + w) r x)) (nOf σ) → RC (hput M 12 h') σ → G K shC d Q (pc + 3) ls rest (hput M 12 h')) : G K shC d Q pc ls (.int (nI k) :: .int x :: .int (nI w) :: .int (nI r) :: .ref 0 :: rest) M := by
  refine G_call0 (as := [.int (nI r), .int (nI w), .int x, .int (nI k)]) (Q' := fun v M' => v = none ∧ ∃ h', HR h' (hoursH (nOf σ) k (ups σ (1 + w) r x)) (nOf σ) ∧ M' = hput M 12 h') (cl_goWith hR.1 hI.nI hI.n8 hk hr hw9 hwall (fun h' hh' => ⟨rfl, h', hh', rfl⟩)) vX4_goWith rfl hlink ⟨_, _, _, rfl, rfl, rfl⟩ hd1 hrest hd rfl ?_
  rintro v M1 ⟨rfl, h1, hh1, rfl⟩
  exact kk h1 hh1 (hR.scr (Or.inl rfl))
theorem G_gm {k i j : Nat} (hR : RC M σ) (hI : Inv σ) (hk : k < 2147483648) (hi : i < nOf σ) (hj : j < nOf σ) (hlink : Cond.methodLink K.1.cls idx yX4_goWithMove ∈ gtbl) (hd : decode K.2.1 pc = .ok (.invokevirtual idx, 3)) (hd1 : 6 ≤ d) (hrest : (rest.map fun v => v.category).sum ≤ 8)
    (kk : ∀ h', HR h' (hoursH (nOf σ) k (chgH σ i j)) (nOf σ) → RC (hput M 12 h') σ → G K shC d Q (pc + 3) ls rest (hput M 12 h')) : G K shC d Q pc ls (.int (nI k) :: .int (nI j) :: .int (nI i) :: .ref 0 :: rest) M := by
  refine G_call0 (as := [.int (nI i), .int (nI j), .int (nI k)]) (Q' := fun v M' => v = none ∧ ∃ h', HR h' (hoursH (nOf σ) k (chgH σ i j)) (nOf σ) ∧ M' = hput M 12 h') (cl_goWithMove hR.1 hI.nI hI.n8 hk hi hj hI.wall (fun h' hh' => ⟨rfl, h', hh', rfl⟩)) vX4_goWithMove rfl hlink ⟨_, _, _, rfl, rfl, rfl⟩ hd1 hrest hd rfl ?_
  rintro v M1 ⟨rfl, h1, hh1, rfl⟩
  exact kk h1 hh1 (hR.scr (Or.inl rfl))
end CallW
theorem ups_wall {σ : Mem} {w r : Nat} {x : Int32} (hI : Inv σ) (hw : w ≠ 3) : ∀ i, i < nOf σ → 0 < ups σ (1 + w) r x 4 i := fun i hi => by
  rw [ups_cell (by omega)]
  exact hI.wall i hi
theorem hoursH_w {h : Mem} {n : Nat} (hw : ∀ i, i < n → 0 < h 4 i) (k : Nat) : ∀ i, i < n → 0 < hoursH n k h 4 i := by
  rw [hoursH_wall]
  exact hw
set_option maxRecDepth 20000 in
theorem cl_firstBelow {M σ : Mem} {r what bound : Int32} {c : Nat} (hwc : (what = 1 ∧ c = 2) ∨ (what = 2 ∧ c = 3)) (hR : RC M σ) (hI : Inv σ) {Q : Option Value → Mem → Prop} (hQ : ∀ u' M', PostC (opFirst σ r c bound) u' M' → Q u' M') : CT mX4_firstBelow shC 5 [.ref 0, .int r, .int what, .int bound] M Q := by
  refine CT.mk [some (.ref 0), some (.int r), some (.int what), some (.int bound), none, none] (by decide) (Nat.le_of_ble_eq_true rfl) rfl rfl ?_
  refine G_aload_n (K := mX4_firstBelow) (i := 0) dX4_firstBelow_0 rfl rfl ?_
  refine G_getr (K := mX4_firstBelow) fX4_12 dX4_firstBelow_1 rfl rfl ?_
  refine G_iload_n (K := mX4_firstBelow) (i := 1) dX4_firstBelow_4 rfl rfl ?_
  refine G_hp (K := mX4_firstBelow) (b := 1) (by unfold isH; omega) (c_X0_has (M := hof M 1) (r := r) ⟨rfl, rfl⟩) vX0_has rfl lX4_65 dX4_firstBelow_5 rfl (by decide) rfl (Nat.le_of_ble_eq_true rfl) ?_
  rw [hasI_B (hR.nI hI) hI.n8]
  refine G_if_ne (K := mX4_firstBelow) (tgt := 18) dX4_firstBelow_8 (by decide) (fun c8 => ?_) (fun c8 => ?_)
  · skip
    obtain ⟨q, hq, rfl⟩ := roomB_t (by have := hI.n8; omega) (bI_1 c8)
    refine G_aload_n (K := mX4_firstBelow) (i := 0) dX4_firstBelow_18 rfl rfl ?_
    refine G_cv (K := mX4_firstBelow) (cl_late hR ⟨rfl, rfl⟩) vX4_isLate rfl lX4_130 dX4_firstBelow_19 ⟨_, _, _, rfl, rfl, rfl⟩ (by decide) rfl (Nat.le_of_ble_eq_true rfl) ?_
    refine G_if_eq (K := mX4_firstBelow) (tgt := 32) dX4_firstBelow_22 (by decide) (fun c22 => ?_) (fun c22 => ?_)
    · skip
      refine G_aload_n (K := mX4_firstBelow) (i := 0) dX4_firstBelow_32 rfl rfl ?_
      refine G_st12 (K := mX4_firstBelow) hR hI lX4_120 dX4_firstBelow_33 (by decide) (Nat.le_of_ble_eq_true rfl) (fun h1 hh1 hR12 => ?_)
      refine G_iload_n (K := mX4_firstBelow) (i := 2) dX4_firstBelow_36 rfl rfl ?_
      refine G_iconst (K := mX4_firstBelow) (v := 1) dX4_firstBelow_37 (by decide) ?_
      refine G_icmp_ne (K := mX4_firstBelow) (tgt := 51) dX4_firstBelow_38 (by decide) (fun c38 => ?_) (fun c38 => ?_)
      · skip
        obtain ⟨-, rfl⟩ : what = 2 ∧ c = 3 := by
          rcases hwc with ⟨rfl, rfl⟩ | h
          · exact absurd rfl c38
          · exact h
        refine G_aload_n (K := mX4_firstBelow) (i := 0) dX4_firstBelow_51 rfl rfl ?_
        refine G_getr (K := mX4_firstBelow) fX4_16 dX4_firstBelow_52 rfl rfl ?_
        refine G_getr (K := mX4_firstBelow) fX4_106 dX4_firstBelow_55 rfl rfl ?_
        refine G_astore (K := mX4_firstBelow) dX4_firstBelow_58 (by decide) ?_
        refine G_iconst (K := mX4_firstBelow) (v := 0) dX4_firstBelow_60 (by decide) ?_
        refine G_istore (K := mX4_firstBelow) dX4_firstBelow_61 (by decide) ?_
        have loop63 : ∀ i, i ≤ 101 → ∀ M1, RC M1 σ → HR (hof M1 12) (hoursH (nOf σ) i σ) (nOf σ) → (∀ j, j < i → decide (hoursH (nOf σ) j σ 3 (cut (nI q)) < bound) = false) → G mX4_firstBelow shC 5 Q 63 [some (.ref 0), some (.int (nI q)), some (.int what), some (.int bound), some (.ref 15), some (.int (nI i))] [] M1 := by
          refine upto 101 (fun i hi ih => ?_)
          intro M1 hRi hT hno
          refine G_iload (K := mX4_firstBelow) dX4_firstBelow_63 rfl ?_
          refine G_bipush (K := mX4_firstBelow) (v := 100) dX4_firstBelow_65 (by decide) ?_
          refine G_icmp_gt (K := mX4_firstBelow) (tgt := 95) dX4_firstBelow_67 (by decide) (fun c67 => ?_) (fun c67 => ?_)
          · skip
            have hi101 : i = 101 := by
              have h : ¬ i ≤ 100 := fun z => Int32.not_le.mpr c67 ((le_nn (n := i) (i := 100) (by omega) (by omega)).mpr z)
              omega
            subst hi101
            refine G_aload_n (K := mX4_firstBelow) (i := 0) dX4_firstBelow_95 rfl rfl ?_
            refine G_ldc (K := mX4_firstBelow) dX4_firstBelow_96 kX4_137 ?_
            refine G_call0 (K := mX4_firstBelow) (Q' := PostC (tl σ 3)) (cl_tell hRi (k := 3) (by omega) (fun _ _ h => h)) vX4_tell rfl lX4_53 ⟨_, _, _, rfl, rfl, rfl⟩ (by decide) (Nat.le_of_ble_eq_true rfl) dX4_firstBelow_98 rfl ?_
            rintro v M1 ⟨rfl, hR1⟩
            exact G_iret (st := []) (K := mX4_firstBelow) dX4_firstBelow_101 rfl (hQ _ _ (by rw [show opFirst σ (nI q) 3 bound = _ from (if_pos (bI_1 c8)).trans ((if_neg (by rw [bI_0 c22]; decide)).trans rfl), findF_n0 hno]; exact ⟨rfl, hR1⟩))
          · skip
            have hi100 : i ≤ 100 := (le_nn (n := i) (i := 100) (by omega) (by omega)).mp (Int32.not_lt.mp c67)
            refine G_aload (K := mX4_firstBelow) dX4_firstBelow_70 rfl ?_
            refine G_iload_n (K := mX4_firstBelow) (i := 1) dX4_firstBelow_72 rfl rfl ?_
            refine G_ld (K := mX4_firstBelow) q dX4_firstBelow_73 rfl rfl (by have := hI.n8; omega) (by decide) ?_
            refine G_iload_n (K := mX4_firstBelow) (i := 3) dX4_firstBelow_74 rfl rfl ?_
            refine G_icmp_ge (K := mX4_firstBelow) (tgt := 81) dX4_firstBelow_75 (by decide) (fun c75 => ?_) (fun c75 => ?_)
            · skip
              refine G_aload_n (K := mX4_firstBelow) (i := 0) dX4_firstBelow_81 rfl rfl ?_
              refine G_getr (K := mX4_firstBelow) fX4_16 dX4_firstBelow_82 rfl rfl ?_
              refine G_hr1 (K := mX4_firstBelow) (b := 12) (n := nOf σ) (h := hoursH (nOf σ) i σ) (by unfold isH; omega) (hT) ((hoursH_0 σ (nOf σ) i).trans hI.nI) hI.n8 (hoursH_w hI.wall i) lX4_134 dX4_firstBelow_85 (by decide) (Nat.le_of_ble_eq_true rfl) (fun h2 hh2 => ?_)
              refine G_pop (K := mX4_firstBelow) dX4_firstBelow_88 rfl ?_
              refine G_iincN (K := mX4_firstBelow) dX4_firstBelow_89 (by decide) rfl ?_
              refine G_goto (K := mX4_firstBelow) (tgt := 63) dX4_firstBelow_92 (by decide) ?_
              refine ih (i + 1) (by omega) (by omega) _ (hRi.scr (Or.inl rfl)) (HR.hp hh2) (fun j hj => ?_)
              by_cases hji : j = i
              · subst hji
                refine decide_eq_false ?_
                rw [cut_nI (by have := hI.n8; omega), ← hT.f 3 (by omega) (by omega) hq]
                exact Int32.not_lt.mpr c75
              · exact hno j (by omega)
            · skip
              refine G_iload (K := mX4_firstBelow) dX4_firstBelow_78 rfl ?_
              exact G_iret (st := []) (K := mX4_firstBelow) dX4_firstBelow_80 rfl (hQ _ _ (by rw [show opFirst σ (nI q) 3 bound = _ from (if_pos (bI_1 c8)).trans ((if_neg (by rw [bI_0 c22]; decide)).trans rfl), findF_0 (j := i) (by omega) hno (decide_eq_true (by rw [cut_nI (by have := hI.n8; omega), ← hT.f 3 (by omega) (by omega) hq]; exact Int32.not_le.mp c75))]; exact ⟨rfl, hRi⟩))
        exact loop63 0 (by omega) _ hR12 (HR.hp hh1) (fun j hj => absurd hj (by omega))
      · skip
        obtain ⟨-, rfl⟩ : what = 1 ∧ c = 2 := by
          rcases hwc with h | ⟨rfl, -⟩
          · exact h
          · exact absurd c38 (by decide)
        refine G_aload_n (K := mX4_firstBelow) (i := 0) dX4_firstBelow_41 rfl rfl ?_
        refine G_getr (K := mX4_firstBelow) fX4_16 dX4_firstBelow_42 rfl rfl ?_
        refine G_getr (K := mX4_firstBelow) fX4_113 dX4_firstBelow_45 rfl rfl ?_
        refine G_goto (K := mX4_firstBelow) (tgt := 58) dX4_firstBelow_48 (by decide) ?_
        refine G_astore (K := mX4_firstBelow) dX4_firstBelow_58 (by decide) ?_
        refine G_iconst (K := mX4_firstBelow) (v := 0) dX4_firstBelow_60 (by decide) ?_
        refine G_istore (K := mX4_firstBelow) dX4_firstBelow_61 (by decide) ?_
        have loop63 : ∀ i, i ≤ 101 → ∀ M1, RC M1 σ → HR (hof M1 12) (hoursH (nOf σ) i σ) (nOf σ) → (∀ j, j < i → decide (hoursH (nOf σ) j σ 2 (cut (nI q)) < bound) = false) → G mX4_firstBelow shC 5 Q 63 [some (.ref 0), some (.int (nI q)), some (.int what), some (.int bound), some (.ref 14), some (.int (nI i))] [] M1 := by
          refine upto 101 (fun i hi ih => ?_)
          intro M1 hRi hT hno
          refine G_iload (K := mX4_firstBelow) dX4_firstBelow_63 rfl ?_
          refine G_bipush (K := mX4_firstBelow) (v := 100) dX4_firstBelow_65 (by decide) ?_
          refine G_icmp_gt (K := mX4_firstBelow) (tgt := 95) dX4_firstBelow_67 (by decide) (fun c67 => ?_) (fun c67 => ?_)
          · skip
            have hi101 : i = 101 := by
              have h : ¬ i ≤ 100 := fun z => Int32.not_le.mpr c67 ((le_nn (n := i) (i := 100) (by omega) (by omega)).mpr z)
              omega
            subst hi101
            refine G_aload_n (K := mX4_firstBelow) (i := 0) dX4_firstBelow_95 rfl rfl ?_
            refine G_ldc (K := mX4_firstBelow) dX4_firstBelow_96 kX4_137 ?_
            refine G_call0 (K := mX4_firstBelow) (Q' := PostC (tl σ 3)) (cl_tell hRi (k := 3) (by omega) (fun _ _ h => h)) vX4_tell rfl lX4_53 ⟨_, _, _, rfl, rfl, rfl⟩ (by decide) (Nat.le_of_ble_eq_true rfl) dX4_firstBelow_98 rfl ?_
            rintro v M1 ⟨rfl, hR1⟩
            exact G_iret (st := []) (K := mX4_firstBelow) dX4_firstBelow_101 rfl (hQ _ _ (by rw [show opFirst σ (nI q) 2 bound = _ from (if_pos (bI_1 c8)).trans ((if_neg (by rw [bI_0 c22]; decide)).trans rfl), findF_n0 hno]; exact ⟨rfl, hR1⟩))
          · skip
            have hi100 : i ≤ 100 := (le_nn (n := i) (i := 100) (by omega) (by omega)).mp (Int32.not_lt.mp c67)
            refine G_aload (K := mX4_firstBelow) dX4_firstBelow_70 rfl ?_
            refine G_iload_n (K := mX4_firstBelow) (i := 1) dX4_firstBelow_72 rfl rfl ?_
            refine G_ld (K := mX4_firstBelow) q dX4_firstBelow_73 rfl rfl (by have := hI.n8; omega) (by decide) ?_
            refine G_iload_n (K := mX4_firstBelow) (i := 3) dX4_firstBelow_74 rfl rfl ?_
            refine G_icmp_ge (K := mX4_firstBelow) (tgt := 81) dX4_firstBelow_75 (by decide) (fun c75 => ?_) (fun c75 => ?_)
            · skip
              refine G_aload_n (K := mX4_firstBelow) (i := 0) dX4_firstBelow_81 rfl rfl ?_
              refine G_getr (K := mX4_firstBelow) fX4_16 dX4_firstBelow_82 rfl rfl ?_
              refine G_hr1 (K := mX4_firstBelow) (b := 12) (n := nOf σ) (h := hoursH (nOf σ) i σ) (by unfold isH; omega) (hT) ((hoursH_0 σ (nOf σ) i).trans hI.nI) hI.n8 (hoursH_w hI.wall i) lX4_134 dX4_firstBelow_85 (by decide) (Nat.le_of_ble_eq_true rfl) (fun h2 hh2 => ?_)
              refine G_pop (K := mX4_firstBelow) dX4_firstBelow_88 rfl ?_
              refine G_iincN (K := mX4_firstBelow) dX4_firstBelow_89 (by decide) rfl ?_
              refine G_goto (K := mX4_firstBelow) (tgt := 63) dX4_firstBelow_92 (by decide) ?_
              refine ih (i + 1) (by omega) (by omega) _ (hRi.scr (Or.inl rfl)) (HR.hp hh2) (fun j hj => ?_)
              by_cases hji : j = i
              · subst hji
                refine decide_eq_false ?_
                rw [cut_nI (by have := hI.n8; omega), ← hT.f 2 (by omega) (by omega) hq]
                exact Int32.not_lt.mpr c75
              · exact hno j (by omega)
            · skip
              refine G_iload (K := mX4_firstBelow) dX4_firstBelow_78 rfl ?_
              exact G_iret (st := []) (K := mX4_firstBelow) dX4_firstBelow_80 rfl (hQ _ _ (by rw [show opFirst σ (nI q) 2 bound = _ from (if_pos (bI_1 c8)).trans ((if_neg (by rw [bI_0 c22]; decide)).trans rfl), findF_0 (j := i) (by omega) hno (decide_eq_true (by rw [cut_nI (by have := hI.n8; omega), ← hT.f 2 (by omega) (by omega) hq]; exact Int32.not_le.mp c75))]; exact ⟨rfl, hRi⟩))
        exact loop63 0 (by omega) _ hR12 (HR.hp hh1) (fun j hj => absurd hj (by omega))
    · skip
      refine G_aload_n (K := mX4_firstBelow) (i := 0) dX4_firstBelow_25 rfl rfl ?_
      refine G_ldc (K := mX4_firstBelow) dX4_firstBelow_26 kX4_119 ?_
      refine G_call0 (K := mX4_firstBelow) (Q' := PostC (tl σ 4)) (cl_tell hR (k := 4) (by omega) (fun _ _ h => h)) vX4_tell rfl lX4_53 ⟨_, _, _, rfl, rfl, rfl⟩ (by decide) (Nat.le_of_ble_eq_true rfl) dX4_firstBelow_28 rfl ?_
      rintro v M1 ⟨rfl, hR1⟩
      exact G_iret (st := []) (K := mX4_firstBelow) dX4_firstBelow_31 rfl (hQ _ _ (by rw [show opFirst σ (nI q) c bound = _ from (by unfold opFirst; exact (if_pos (bI_1 c8)).trans (if_pos (bI_1 c22)))]; exact ⟨rfl, hR1⟩))
  · skip
    refine G_aload_n (K := mX4_firstBelow) (i := 0) dX4_firstBelow_11 rfl rfl ?_
    refine G_ldc (K := mX4_firstBelow) dX4_firstBelow_12 kX4_52 ?_
    refine G_call0 (K := mX4_firstBelow) (Q' := PostC (tl σ 0)) (cl_tell hR (k := 0) (by omega) (fun _ _ h => h)) vX4_tell rfl lX4_53 ⟨_, _, _, rfl, rfl, rfl⟩ (by decide) (Nat.le_of_ble_eq_true rfl) dX4_firstBelow_14 rfl ?_
    rintro v M1 ⟨rfl, hR1⟩
    exact G_iret (st := []) (K := mX4_firstBelow) dX4_firstBelow_17 rfl (hQ _ _ (by rw [show opFirst σ r c bound = _ from (by unfold opFirst; exact if_neg (by rw [bI_0 c8]; decide))]; exact ⟨rfl, hR1⟩))

set_option maxRecDepth 20000 in
theorem cl_cold {M σ : Mem} {r : Int32} (hR : RC M σ) (hI : Inv σ) {Q : Option Value → Mem → Prop} (hQ : ∀ u' M', PostC (opFirst σ r 2 60) u' M' → Q u' M') : CT mX4_cold shC 8 [.ref 0, .int r] M Q := by
  refine CT.mk [some (.ref 0), some (.int r)] (by decide) (Nat.le_of_ble_eq_true rfl) rfl rfl ?_
  refine G_aload_n (K := mX4_cold) (i := 0) dX4_cold_0 rfl rfl ?_
  refine G_iload_n (K := mX4_cold) (i := 1) dX4_cold_1 rfl rfl ?_
  refine G_iconst (K := mX4_cold) (v := 1) dX4_cold_2 (by decide) ?_
  refine G_bipush (K := mX4_cold) (v := 60) dX4_cold_3 (by decide) ?_
  refine G_call0 (K := mX4_cold) (Q' := PostC (opFirst σ r 2 60)) (cl_firstBelow (r := r) (what := 1) (bound := 60) (c := 2) (Or.inl ⟨rfl, rfl⟩) hR hI (fun _ _ h => h)) vX4_firstBelow rfl lX4_126 ⟨_, _, _, rfl, rfl, rfl⟩ (by decide) (Nat.le_of_ble_eq_true rfl) dX4_cold_5 rfl ?_
  rintro v M1 ⟨rfl, hR1⟩
  exact G_iret (st := []) (K := mX4_cold) dX4_cold_8 rfl (hQ _ _ ⟨rfl, hR1⟩)

set_option maxRecDepth 20000 in
theorem cl_spent {M σ : Mem} {r : Int32} (hR : RC M σ) (hI : Inv σ) {Q : Option Value → Mem → Prop} (hQ : ∀ u' M', PostC (opFirst σ r 3 1) u' M' → Q u' M') : CT mX4_spent shC 8 [.ref 0, .int r] M Q := by
  refine CT.mk [some (.ref 0), some (.int r)] (by decide) (Nat.le_of_ble_eq_true rfl) rfl rfl ?_
  refine G_aload_n (K := mX4_spent) (i := 0) dX4_spent_0 rfl rfl ?_
  refine G_iload_n (K := mX4_spent) (i := 1) dX4_spent_1 rfl rfl ?_
  refine G_iconst (K := mX4_spent) (v := 2) dX4_spent_2 (by decide) ?_
  refine G_iconst (K := mX4_spent) (v := 1) dX4_spent_3 (by decide) ?_
  refine G_call0 (K := mX4_spent) (Q' := PostC (opFirst σ r 3 1)) (cl_firstBelow (r := r) (what := 2) (bound := 1) (c := 3) (Or.inr ⟨rfl, rfl⟩) hR hI (fun _ _ h => h)) vX4_firstBelow rfl lX4_126 ⟨_, _, _, rfl, rfl, rfl⟩ (by decide) (Nat.le_of_ble_eq_true rfl) dX4_spent_4 rfl ?_
  rintro v M1 ⟨rfl, hR1⟩
  exact G_iret (st := []) (K := mX4_spent) dX4_spent_7 rfl (hQ _ _ ⟨rfl, hR1⟩)

def opRest (σ : Mem) : Int32 × Mem := if late σ = true then tl σ 4 else orNone σ (findF (fun j => restB (hoursH (nOf σ) j σ) (nOf σ)) 0 60) (fun j => nI (j + 1))
theorem restB_congr {M h : Mem} {n : Nat} (H : HR M h n) : restB M n = restB h n := allB_congr n (fun i hi => by rw [stokeH_congr H hi, H.f 9 (by omega) (by omega) hi])
theorem likeB_congr {M h M2 h2 : Mem} {n : Nat} (H : HR M h n) (H2 : HR M2 h2 n) : likeB M M2 n = likeB h h2 n := allB_congr n (fun i hi => by rw [H.f 8 (by omega) (by omega) hi, H.f 9 (by omega) (by omega) hi, H2.f 8 (by omega) (by omega) hi, H2.f 9 (by omega) (by omega) hi])
def likeP (h : Mem) (n p : Nat) : Bool := decide (remI (hoursH n p h 0 2 - h 0 2) 2 = 0) && likeB (hoursH n p h) h n
def opCircle (σ : Mem) : Int32 × Mem := if late σ = true then tl σ 4 else orNone σ (findF (fun j => likeP (hoursH (nOf σ) 24 σ) (nOf σ) (j + 1)) 0 12) (fun j => nI (j + 1))
set_option maxRecDepth 20000 in
theorem cl_rest {M σ : Mem}  (hR : RC M σ) (hI : Inv σ) {Q : Option Value → Mem → Prop} (hQ : ∀ u' M', PostC (opRest σ) u' M' → Q u' M') : CT mX4_rest shC 8 [.ref 0] M Q := by
  refine CT.mk [some (.ref 0), none] (by decide) (Nat.le_of_ble_eq_true rfl) rfl rfl ?_
  refine G_aload_n (K := mX4_rest) (i := 0) dX4_rest_0 rfl rfl ?_
  refine G_cv (K := mX4_rest) (cl_late hR ⟨rfl, rfl⟩) vX4_isLate rfl lX4_130 dX4_rest_1 ⟨_, _, _, rfl, rfl, rfl⟩ (by decide) rfl (Nat.le_of_ble_eq_true rfl) ?_
  refine G_if_eq (K := mX4_rest) (tgt := 14) dX4_rest_4 (by decide) (fun c4 => ?_) (fun c4 => ?_)
  · skip
    refine G_aload_n (K := mX4_rest) (i := 0) dX4_rest_14 rfl rfl ?_
    refine G_st12 (K := mX4_rest) hR hI lX4_120 dX4_rest_15 (by decide) (Nat.le_of_ble_eq_true rfl) (fun h1 hh1 hR12 => ?_)
    refine G_iconst (K := mX4_rest) (v := 1) dX4_rest_18 (by decide) ?_
    refine G_istore_n (K := mX4_rest) (i := 1) dX4_rest_19 rfl (by decide) ?_
    have loop20 : ∀ i, i ≤ 60 → ∀ M1, RC M1 σ → HR (hof M1 12) (hoursH (nOf σ) i σ) (nOf σ) → (∀ j, j < i → restB (hoursH (nOf σ) j σ) (nOf σ) = false) → G mX4_rest shC 8 Q 20 [some (.ref 0), some (.int (nI (i + 1)))] [] M1 := by
      refine upto 60 (fun i hi ih => ?_)
      intro M1 hRi hT hno
      refine G_iload_n (K := mX4_rest) (i := 1) dX4_rest_20 rfl rfl ?_
      refine G_bipush (K := mX4_rest) (v := 60) dX4_rest_21 (by decide) ?_
      refine G_icmp_gt (K := mX4_rest) (tgt := 52) dX4_rest_23 (by decide) (fun c23 => ?_) (fun c23 => ?_)
      · skip
        have hiN : i = 60 := by
          have h : ¬ i + 1 ≤ 60 := fun z => Int32.not_le.mpr c23 ((le_nn (n := i + 1) (i := 60) (by omega) (by omega)).mpr z)
          omega
        subst hiN
        refine G_aload_n (K := mX4_rest) (i := 0) dX4_rest_52 rfl rfl ?_
        refine G_ldc (K := mX4_rest) dX4_rest_53 kX4_137 ?_
        refine G_call0 (K := mX4_rest) (Q' := PostC (tl σ 3)) (cl_tell hRi (k := 3) (by omega) (fun _ _ h => h)) vX4_tell rfl lX4_53 ⟨_, _, _, rfl, rfl, rfl⟩ (by decide) (Nat.le_of_ble_eq_true rfl) dX4_rest_55 rfl ?_
        rintro v M1 ⟨rfl, hR1⟩
        exact G_iret (st := []) (K := mX4_rest) dX4_rest_58 rfl (hQ _ _ (by rw [show opRest σ = _ from (if_neg (by rw [bI_0 c4]; decide)).trans rfl, findF_n0 hno]; exact ⟨rfl, hR1⟩))
      · skip
        have hiN : i < 60 := (le_nn (n := i + 1) (i := 60) (by omega) (by omega)).mp (Int32.not_lt.mp c23)
        refine G_aload_n (K := mX4_rest) (i := 0) dX4_rest_26 rfl rfl ?_
        refine G_getr (K := mX4_rest) fX4_16 dX4_rest_27 rfl rfl ?_
        refine G_hp (K := mX4_rest) (b := 12) (by unfold isH; omega) (c_X0_nextIsRest (M := hof M1 12) (n := nOf σ) (by rw [hT.1 0 (by omega), hoursH_0]; exact hI.nI) hI.n8 ⟨rfl, rfl⟩) vX0_nextIsRest rfl lX4_138 dX4_rest_30 rfl (by decide) rfl (Nat.le_of_ble_eq_true rfl) ?_
        rw [restB_congr hT]
        refine G_if_eq (K := mX4_rest) (tgt := 38) dX4_rest_33 (by decide) (fun c33 => ?_) (fun c33 => ?_)
        · skip
          refine G_aload_n (K := mX4_rest) (i := 0) dX4_rest_38 rfl rfl ?_
          refine G_getr (K := mX4_rest) fX4_16 dX4_rest_39 rfl rfl ?_
          refine G_hr1 (K := mX4_rest) (b := 12) (n := nOf σ) (h := hoursH (nOf σ) i σ) (by unfold isH; omega) (hT) ((hoursH_0 σ (nOf σ) i).trans hI.nI) hI.n8 (hoursH_w hI.wall i) lX4_134 dX4_rest_42 (by decide) (Nat.le_of_ble_eq_true rfl) (fun h2 hh2 => ?_)
          refine G_pop (K := mX4_rest) dX4_rest_45 rfl ?_
          refine G_iincN (K := mX4_rest) dX4_rest_46 (by decide) rfl ?_
          refine G_goto (K := mX4_rest) (tgt := 20) dX4_rest_49 (by decide) ?_
          refine ih (i + 1) (by omega) (by omega) _ (hRi.scr (Or.inl rfl)) (HR.hp hh2) (fun j hj => ?_)
          by_cases hji : j = i
          · subst hji; exact bI_0 c33
          · exact hno j (by omega)
        · skip
          refine G_iload_n (K := mX4_rest) (i := 1) dX4_rest_36 rfl rfl ?_
          exact G_iret (st := []) (K := mX4_rest) dX4_rest_37 rfl (hQ _ _ (by rw [show opRest σ = _ from (if_neg (by rw [bI_0 c4]; decide)).trans rfl, findF_0 (j := i) (by omega) hno (bI_1 c33)]; exact ⟨rfl, hRi⟩))
    exact loop20 0 (by omega) _ hR12 (HR.hp hh1) (fun j hj => absurd hj (by omega))
  · skip
    refine G_aload_n (K := mX4_rest) (i := 0) dX4_rest_7 rfl rfl ?_
    refine G_ldc (K := mX4_rest) dX4_rest_8 kX4_119 ?_
    refine G_call0 (K := mX4_rest) (Q' := PostC (tl σ 4)) (cl_tell hR (k := 4) (by omega) (fun _ _ h => h)) vX4_tell rfl lX4_53 ⟨_, _, _, rfl, rfl, rfl⟩ (by decide) (Nat.le_of_ble_eq_true rfl) dX4_rest_10 rfl ?_
    rintro v M1 ⟨rfl, hR1⟩
    exact G_iret (st := []) (K := mX4_rest) dX4_rest_13 rfl (hQ _ _ (by rw [show opRest σ = _ from (by unfold opRest; exact if_pos (bI_1 c4))]; exact ⟨rfl, hR1⟩))

set_option maxRecDepth 20000 in
theorem cl_circle {M σ : Mem}  (hR : RC M σ) (hI : Inv σ) {Q : Option Value → Mem → Prop} (hQ : ∀ u' M', PostC (opCircle σ) u' M' → Q u' M') : CT mX4_circle shC 8 [.ref 0] M Q := by
  refine CT.mk [some (.ref 0), none] (by decide) (Nat.le_of_ble_eq_true rfl) rfl rfl ?_
  refine G_aload_n (K := mX4_circle) (i := 0) dX4_circle_0 rfl rfl ?_
  refine G_cv (K := mX4_circle) (cl_late hR ⟨rfl, rfl⟩) vX4_isLate rfl lX4_130 dX4_circle_1 ⟨_, _, _, rfl, rfl, rfl⟩ (by decide) rfl (Nat.le_of_ble_eq_true rfl) ?_
  refine G_if_eq (K := mX4_circle) (tgt := 14) dX4_circle_4 (by decide) (fun c4 => ?_) (fun c4 => ?_)
  · skip
    refine G_aload_n (K := mX4_circle) (i := 0) dX4_circle_14 rfl rfl ?_
    refine G_bipush (K := mX4_circle) (v := 24) dX4_circle_15 (by decide) ?_
    refine G_ga (K := mX4_circle) (k := 24) hR hI (by omega) lX4_141 dX4_circle_17 (by decide) (Nat.le_of_ble_eq_true rfl) (fun h3 hh3 hR23 => ?_)
    refine G_aload_n (K := mX4_circle) (i := 0) dX4_circle_20 rfl rfl ?_
    refine G_getr (K := mX4_circle) fX4_16 dX4_circle_21 rfl rfl ?_
    refine G_aload_n (K := mX4_circle) (i := 0) dX4_circle_24 rfl rfl ?_
    refine G_getr (K := mX4_circle) fX4_19 dX4_circle_25 rfl rfl ?_
    refine G_bec (K := mX4_circle) (b := 12) (c := 23) (by unfold isH; omega) (by unfold isH; omega) (by unfold apart; omega) lX4_145 dX4_circle_28 (by decide) (Nat.le_of_ble_eq_true rfl) (fun h' hh' => ?_)
    have hRb := hR23.scr (b := 12) (h := h') (Or.inl rfl)
    have hT0 : HR h' (hoursH (nOf σ) 24 σ) (nOf σ) := (hh'.le hI.n8).tr (HR.hp hh3)
    have hA0 : HR (hof (hput (hput M 23 h3) 12 h') 23) (hoursH (nOf σ) 24 σ) (nOf σ) := HR.hpn (HR.hp hh3) (by unfold apart; omega)
    refine G_iconst (K := mX4_circle) (v := 1) dX4_circle_31 (by decide) ?_
    refine G_istore_n (K := mX4_circle) (i := 1) dX4_circle_32 rfl (by decide) ?_
    have loop33 : ∀ i, i ≤ 12 → ∀ M1, RC M1 σ → HR (hof M1 12) (hoursH (nOf σ) i (hoursH (nOf σ) 24 σ)) (nOf σ) → HR (hof M1 23) (hoursH (nOf σ) 24 σ) (nOf σ) → (∀ j, j < i → likeP (hoursH (nOf σ) 24 σ) (nOf σ) (j + 1) = false) → G mX4_circle shC 8 Q 33 [some (.ref 0), some (.int (nI (i + 1)))] [] M1 := by
      refine upto 12 (fun i hi ih => ?_)
      intro M1 hRi hT hAi hno
      refine G_iload_n (K := mX4_circle) (i := 1) dX4_circle_33 rfl rfl ?_
      refine G_bipush (K := mX4_circle) (v := 12) dX4_circle_34 (by decide) ?_
      refine G_icmp_gt (K := mX4_circle) (tgt := 69) dX4_circle_36 (by decide) (fun c36 => ?_) (fun c36 => ?_)
      · skip
        have hiN : i = 12 := by
          have h : ¬ i + 1 ≤ 12 := fun z => Int32.not_le.mpr c36 ((le_nn (n := i + 1) (i := 12) (by omega) (by omega)).mpr z)
          omega
        subst hiN
        refine G_aload_n (K := mX4_circle) (i := 0) dX4_circle_69 rfl rfl ?_
        refine G_ldc (K := mX4_circle) dX4_circle_70 kX4_137 ?_
        refine G_call0 (K := mX4_circle) (Q' := PostC (tl σ 3)) (cl_tell hRi (k := 3) (by omega) (fun _ _ h => h)) vX4_tell rfl lX4_53 ⟨_, _, _, rfl, rfl, rfl⟩ (by decide) (Nat.le_of_ble_eq_true rfl) dX4_circle_72 rfl ?_
        rintro v M1 ⟨rfl, hR1⟩
        exact G_iret (st := []) (K := mX4_circle) dX4_circle_75 rfl (hQ _ _ (by rw [show opCircle σ = _ from (if_neg (by rw [bI_0 c4]; decide)).trans rfl, findF_n0 hno]; exact ⟨rfl, hR1⟩))
      · skip
        have hiN : i < 12 := (le_nn (n := i + 1) (i := 12) (by omega) (by omega)).mp (Int32.not_lt.mp c36)
        refine G_aload_n (K := mX4_circle) (i := 0) dX4_circle_39 rfl rfl ?_
        refine G_getr (K := mX4_circle) fX4_16 dX4_circle_40 rfl rfl ?_
        refine G_hr1 (K := mX4_circle) (b := 12) (n := nOf σ) (h := hoursH (nOf σ) i (hoursH (nOf σ) 24 σ)) (by unfold isH; omega) (hT) ((hoursH_0 _ _ i).trans ((hoursH_0 _ _ 24).trans hI.nI)) hI.n8 (hoursH_w (hoursH_w hI.wall 24) i) lX4_134 dX4_circle_43 (by decide) (Nat.le_of_ble_eq_true rfl) (fun h2 hh2 => ?_)
        refine G_pop (K := mX4_circle) dX4_circle_46 rfl ?_
        refine G_aload_n (K := mX4_circle) (i := 0) dX4_circle_47 rfl rfl ?_
        refine G_getr (K := mX4_circle) fX4_16 dX4_circle_48 rfl rfl ?_
        refine G_aload_n (K := mX4_circle) (i := 0) dX4_circle_51 rfl rfl ?_
        refine G_getr (K := mX4_circle) fX4_19 dX4_circle_52 rfl rfl ?_
        refine G_callH2 (K := mX4_circle) (b := 12) (c := 23) (by unfold isH; omega) (by unfold isH; omega) (by unfold apart; omega) (as := [.ref 11]) (Q' := fun v M' => v = some (.int (bI (likeP (hoursH (nOf σ) 24 σ) (nOf σ) (i + 1)))) ∧ M' = hof2 (hput M1 12 h2) 12 23) (c_X0_stokesLike (M := hof2 (hput M1 12 h2) 12 23) (n := nOf σ) ?_ hI.n8 ⟨?_, rfl⟩) vX0_stokesLike rfl lX4_149 rfl (by decide) (Nat.le_of_ble_eq_true rfl) dX4_circle_55 rfl ?_
        · show hput M1 12 h2 12 0 = _
          have e := hof_hput M1 h2 12 0 (by omega)
          exact (congrFun e 0).trans ((hh2.1 0 (by omega)).trans ((hoursH_0 _ _ (i + 1)).trans ((hoursH_0 _ _ 24).trans hI.nI)))
        · have hX : HR (hof2 (hput M1 12 h2) 12 23) (hoursH (nOf σ) (i + 1) (hoursH (nOf σ) 24 σ)) (nOf σ) := HR.ofEq (fun j hj => (if_pos hj).trans (hof_hput M1 h2 12 j hj)) hh2
          have hY : HR (fun c => hof2 (hput M1 12 h2) 12 23 (c + 11)) (hoursH (nOf σ) 24 σ) (nOf σ) := HR.ofEq (fun j hj => by
            show hof2 (hput M1 12 h2) 12 23 (j + 11) = hof M1 23 j
            unfold hof2 hof
            rw [if_neg (by omega), hput_out (by omega), show 23 + (j + 11 - 11) = 23 + j by omega]) hAi
          have e1 : hof2 (hput M1 12 h2) 12 23 0 2 = hoursH (nOf σ) (i + 1) (hoursH (nOf σ) 24 σ) 0 2 := hX.1 2 (by omega)
          have e2 : hof2 (hput M1 12 h2) 12 23 11 2 = (hoursH (nOf σ) 24 σ) 0 2 := hY.1 2 (by omega)
          rw [e1, e2, likeB_congr hX hY]
          unfold likeP
          by_cases hz : remI (hoursH (nOf σ) (i + 1) (hoursH (nOf σ) 24 σ) 0 2 - (hoursH (nOf σ) 24 σ) 0 2) 2 = 0
          · rw [if_pos hz, decide_eq_true hz, Bool.true_and]
          · rw [if_neg hz, decide_eq_false hz, Bool.false_and]; rfl
        rintro v M' ⟨rfl, rfl⟩
        have e : hput2 (hput M1 12 h2) 12 23 (hof2 (hput M1 12 h2) 12 23) = hput M1 12 h2 := hput2_hof2 (by unfold apart; omega)
        rw [e]
        have hRi2 := hRi.scr (b := 12) (h := h2) (Or.inl rfl)
        refine G_if_eq (K := mX4_circle) (tgt := 63) dX4_circle_58 (by decide) (fun c58 => ?_) (fun c58 => ?_)
        · skip
          refine G_iincN (K := mX4_circle) dX4_circle_63 (by decide) rfl ?_
          refine G_goto (K := mX4_circle) (tgt := 33) dX4_circle_66 (by decide) ?_
          refine ih (i + 1) (by omega) (by omega) _ hRi2 (HR.hp hh2) (HR.hpn hAi (by unfold apart; omega)) (fun j hj => ?_)
          by_cases hji : j = i
          · subst hji; exact bI_0 c58
          · exact hno j (by omega)
        · skip
          refine G_iload_n (K := mX4_circle) (i := 1) dX4_circle_61 rfl rfl ?_
          exact G_iret (st := []) (K := mX4_circle) dX4_circle_62 rfl (hQ _ _ (by rw [show opCircle σ = _ from (if_neg (by rw [bI_0 c4]; decide)).trans rfl, findF_0 (j := i) (by omega) hno (bI_1 c58)]; exact ⟨rfl, hRi2⟩))
    exact loop33 0 (by omega) _ hRb (HR.hp hT0) hA0 (fun j hj => absurd hj (by omega))
  · skip
    refine G_aload_n (K := mX4_circle) (i := 0) dX4_circle_7 rfl rfl ?_
    refine G_ldc (K := mX4_circle) dX4_circle_8 kX4_119 ?_
    refine G_call0 (K := mX4_circle) (Q' := PostC (tl σ 4)) (cl_tell hR (k := 4) (by omega) (fun _ _ h => h)) vX4_tell rfl lX4_53 ⟨_, _, _, rfl, rfl, rfl⟩ (by decide) (Nat.le_of_ble_eq_true rfl) dX4_circle_10 rfl ?_
    rintro v M1 ⟨rfl, hR1⟩
    exact G_iret (st := []) (K := mX4_circle) dX4_circle_13 rfl (hQ _ _ (by rw [show opCircle σ = _ from (by unfold opCircle; exact if_pos (bI_1 c4))]; exact ⟨rfl, hR1⟩))
