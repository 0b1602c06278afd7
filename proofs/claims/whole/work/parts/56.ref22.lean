def dealOK (σ : Mem) (k : Nat) (pr : Int32) (z : Nat) : Prop := (pr = -1 ∧ ∀ y, y < z → dealB σ k y = false) ∨ ∃ y, y < 64 ∧ pr = pairV y ∧ dealB σ k y = true ∧ ∀ w, w < y → dealB σ k w = false
theorem dealB_no {σ : Mem} {k z : Nat} (h : ¬ (z / 8 < z % 8 ∧ z % 8 < nOf σ)) : dealB σ k z = false := by
  unfold dealB
  rw [okP_f h, Bool.false_and]
theorem dealOK.skip {σ : Mem} {k : Nat} {pr : Int32} {a b : Nat} (h : dealOK σ k pr a) (hz : ∀ z, a ≤ z → z < b → ¬ (z / 8 < z % 8 ∧ z % 8 < nOf σ)) : dealOK σ k pr b := by
  rcases h with ⟨h1, h2⟩ | h
  · refine Or.inl ⟨h1, fun y hy => ?_⟩
    by_cases hya : y < a
    · exact h2 y hya
    · exact dealB_no (hz y (by omega) hy)
  · exact Or.inr h
theorem dealOK.found {σ : Mem} {k : Nat} {pr : Int32} {a b : Nat} (h : dealOK σ k pr a) (hp : 0 ≤ pr) : dealOK σ k pr b := by
  rcases h with ⟨h1, -⟩ | h
  · rw [h1] at hp; exact absurd hp (by decide)
  · exact Or.inr h
theorem pairV_nn {y : Nat} (hy : y < 64) : 0 ≤ pairV y := by
  unfold pairV
  rw [i32_le, nI_toI (by omega)]
  show (0 : Int) ≤ _
  omega
set_option maxRecDepth 20000 in
theorem rf_deal {M σ : Mem} {a : Int32} (hR : RR M σ) (hI : Inv σ) {Q : Option Value → Mem → Prop} (hQ : ∀ u' M', PostR (opDeal σ a) u' M' → Q u' M') : CT mX5_deal shR 8 [.ref 0, .int a] M Q := by
  refine CT.mk [some (.ref 0), some (.int a), none, none, none, none, none, none] (by decide) (Nat.le_of_ble_eq_true rfl) rfl rfl ?_
  refine G_aload_n (K := mX5_deal) (i := 0) dX5_deal_0 rfl rfl ?_
  refine G_iload_n (K := mX5_deal) (i := 1) dX5_deal_1 rfl rfl ?_
  refine G_cv (K := mX5_deal) (rf_refPairs (a := a) hR hI ⟨rfl, rfl⟩) vX5_refusesPairs rfl lX5_221 dX5_deal_2 ⟨_, _, _, rfl, rfl, rfl⟩ (by decide) rfl (Nat.le_of_ble_eq_true rfl) ?_
  refine G_istore_n (K := mX5_deal) (i := 2) dX5_deal_5 rfl (by decide) ?_
  refine G_iload_n (K := mX5_deal) (i := 2) dX5_deal_6 rfl rfl ?_
  refine G_if_eq (K := mX5_deal) (tgt := 16) dX5_deal_7 (by decide) (fun c7 => ?_) (fun c7 => ?_)
  · skip
    obtain ⟨k, hk2, rfl⟩ := refP_0 c7
    have hn8 := hI.n8
    have hk24 : k ≤ 24 := refH_24 hk2 (refP_H c7)
    refine G_aload_n (K := mX5_deal) (i := 0) dX5_deal_16 rfl rfl ?_
    refine G_iload_n (K := mX5_deal) (i := 1) dX5_deal_17 rfl rfl ?_
    refine G_call0 (K := mX5_deal) (as := [.int (nI k)]) (r := 0) (Q' := fun u Mz => u = none ∧ toH (Mz 1) = toH (M 1) ∧ toH (Mz 3) = toH (M 1) ∧ (∀ r, r < nOf σ → Mz 10 r = aH σ k 2 r) ∧ ∀ c, c ≠ 1 → c ≠ 3 → c ≠ 7 → c ≠ 9 → c ≠ 10 → Mz c = M c) (c_X5_liveAnyhow (n := nOf σ) (k := k) (hR.n hI) hI.n8 (by omega) (hR.hj hI) (hR.ho hI) (fun Mz h1 h2 h3 h4 h5 => ⟨rfl, h1, h2, fun r hr => by rw [h4 r (by have := hI.n8; omega), h3 r hr]; exact (hoursH_congr hR.1 k).f 2 (by omega) (by omega) hr, h5⟩)) vX5_liveAnyhow rfl lX5_201 ⟨_, _, _, rfl, rfl, rfl⟩ (by decide) (Nat.le_of_ble_eq_true rfl) dX5_deal_18 rfl ?_
    rintro v M2 ⟨rfl, h21, h23, h2A, h2c⟩
    refine G_iconst (K := mX5_deal) (v := -1) dX5_deal_21 (by decide) ?_
    refine G_istore_n (K := mX5_deal) (i := 3) dX5_deal_22 rfl (by decide) ?_
    refine G_iconst (K := mX5_deal) (v := 0) dX5_deal_23 (by decide) ?_
    refine G_istore (K := mX5_deal) dX5_deal_24 (by decide) ?_
    have loop26 : ∀ i, i ≤ nOf σ → ∀ (pr : Int32) (M3 : Mem) (x5 x6 x7 : Option Value), toH (M3 1) = toH (M 1) → toH (M3 3) = toH (M 1) → (∀ r, r < nOf σ → M3 10 r = aH σ k 2 r) → (∀ c, c ≠ 1 → c ≠ 3 → c ≠ 7 → c ≠ 9 → c ≠ 10 → M3 c = M c) → dealOK σ k pr (8 * i) → G mX5_deal shR 8 Q 26 [some (.ref 0), some (.int (nI k)), some (.int (refP σ (nI k))), some (.int pr), some (.int (nI i)), x5, x6, x7] [] M3 := by
      refine upto (nOf σ) (fun i hi ih => ?_)
      intro pr M3 x5 x6 x7 h31 h33 h3A h3c hp0
      have hn3 : M3 1 2 = nI (nOf σ) := by rw [← toH_n (M3 1), h31]; exact hR.n hI
      have hR3 : RR M3 σ := hR.scr4 h31 h3c
      refine G_iload (K := mX5_deal) dX5_deal_26 rfl ?_
      refine G_aload_n (K := mX5_deal) (i := 0) dX5_deal_28 rfl rfl ?_
      refine G_getr (K := mX5_deal) fX5_9 dX5_deal_29 rfl rfl ?_
      refine G_iconst (K := mX5_deal) (v := 2) dX5_deal_32 (by decide) ?_
      refine G_ld (K := mX5_deal) 2 dX5_deal_33 rfl rfl (by omega) (by decide) ?_
      refine G_icmp_ge (K := mX5_deal) (tgt := 150) dX5_deal_34 (by decide) (fun c34 => ?_) (fun c34 => ?_)
      · skip
        rw [hn3, le_nn (by have := hI.n8; omega) (by have := hI.n8; omega)] at c34
        have hin : i = nOf σ := by omega
        refine G_iload_n (K := mX5_deal) (i := 3) dX5_deal_150 rfl rfl ?_
        refine G_if_ge (K := mX5_deal) (tgt := 163) dX5_deal_151 (by decide) (fun c151 => ?_) (fun c151 => ?_)
        · skip
          obtain ⟨y, hy, hyv, hyB, hyn⟩ := hp0.resolve_left (fun z => by rw [z.1] at c151; exact absurd c151 (by decide))
          refine G_iload_n (K := mX5_deal) (i := 3) dX5_deal_163 rfl rfl ?_
          exact G_iret (st := []) (K := mX5_deal) dX5_deal_164 rfl (hQ _ _ (by rw [show opDeal σ (nI k) = orNone σ (findF (dealB σ (cut (nI k))) 0 64) pairV from if_pos c7, cut_nI hk2, findF_0 hy hyn hyB, hyv]; exact ⟨rfl, hR3⟩))
        · skip
          have hno : ∀ y, y < 64 → dealB σ k y = false := by
            rcases hp0 with ⟨-, h⟩ | ⟨y, hy, h, -⟩
            · intro y hy
              by_cases hyi : y < 8 * i
              · exact h y hyi
              · exact dealB_no (by omega)
            · rw [h] at c151; exact absurd (pairV_nn hy) c151
          refine G_aload_n (K := mX5_deal) (i := 0) dX5_deal_154 rfl rfl ?_
          refine G_ldc (K := mX5_deal) dX5_deal_155 kX5_186 ?_
          refine G_call0 (K := mX5_deal) (Q' := PostR (tl σ 3)) (rf_finding hR3 (k := 3) (by omega) (fun _ _ h => h)) vX5_finding rfl lX5_109 ⟨_, _, _, rfl, rfl, rfl⟩ (by decide) (Nat.le_of_ble_eq_true rfl) dX5_deal_157 rfl ?_
          rintro v M1 ⟨rfl, hR1⟩
          refine G_goto (K := mX5_deal) (tgt := 164) dX5_deal_160 (by decide) ?_
          exact G_iret (st := []) (K := mX5_deal) dX5_deal_164 rfl (hQ _ _ (by rw [show opDeal σ (nI k) = orNone σ (findF (dealB σ (cut (nI k))) 0 64) pairV from if_pos c7, cut_nI hk2, findF_n0 hno]; exact ⟨rfl, hR1⟩))
      · skip
        rw [hn3, le_nn (by have := hI.n8; omega) (by have := hI.n8; omega)] at c34
        have hn8 := hI.n8
        refine G_iload (K := mX5_deal) dX5_deal_37 rfl ?_
        refine G_iconst (K := mX5_deal) (v := 1) dX5_deal_39 (by decide) ?_
        refine G_iadd (K := mX5_deal) dX5_deal_40 ?_
        rw [nI_1]
        refine G_istore (K := mX5_deal) dX5_deal_41 (by decide) ?_
        have loop43 : ∀ j, j ≤ nOf σ → i < j → ∀ (pr : Int32) (M3 : Mem) (x6 x7 : Option Value), toH (M3 1) = toH (M 1) → toH (M3 3) = toH (M 1) → (∀ r, r < nOf σ → M3 10 r = aH σ k 2 r) → (∀ c, c ≠ 1 → c ≠ 3 → c ≠ 7 → c ≠ 9 → c ≠ 10 → M3 c = M c) → dealOK σ k pr (8 * i + j) → G mX5_deal shR 8 Q 43 [some (.ref 0), some (.int (nI k)), some (.int (refP σ (nI k))), some (.int pr), some (.int (nI i)), some (.int (nI j)), x6, x7] [] M3 := by
          refine upto (nOf σ) (fun j hj jh => ?_)
          intro hij pr M3 x6 x7 h31 h33 h3A h3c hpr
          have hn4 : M3 1 2 = nI (nOf σ) := by rw [← toH_n (M3 1), h31]; exact hR.n hI
          refine G_iload (K := mX5_deal) dX5_deal_43 rfl ?_
          refine G_aload_n (K := mX5_deal) (i := 0) dX5_deal_45 rfl rfl ?_
          refine G_getr (K := mX5_deal) fX5_9 dX5_deal_46 rfl rfl ?_
          refine G_iconst (K := mX5_deal) (v := 2) dX5_deal_49 (by decide) ?_
          refine G_ld (K := mX5_deal) 2 dX5_deal_50 rfl rfl (by omega) (by decide) ?_
          refine G_icmp_ge (K := mX5_deal) (tgt := 144) dX5_deal_51 (by decide) (fun c51 => ?_) (fun c51 => ?_)
          · skip
            rw [hn4, le_nn (by omega) (by omega)] at c51
            have hjn : j = nOf σ := by omega
            refine G_iincN (K := mX5_deal) dX5_deal_144 (by decide) rfl ?_
            refine G_goto (K := mX5_deal) (tgt := 26) dX5_deal_147 (by decide) ?_
            exact ih (i + 1) (by omega) (by omega) _ M3 _ _ _ h31 h33 h3A h3c (hpr.skip (fun z h1 h2 => by omega))
          · skip
            rw [hn4, le_nn (by omega) (by omega)] at c51
            refine G_iload_n (K := mX5_deal) (i := 3) dX5_deal_54 rfl rfl ?_
            refine G_if_ge (K := mX5_deal) (tgt := 144) dX5_deal_55 (by decide) (fun c55 => ?_) (fun c55 => ?_)
            · skip
              refine G_iincN (K := mX5_deal) dX5_deal_144 (by decide) rfl ?_
              refine G_goto (K := mX5_deal) (tgt := 26) dX5_deal_147 (by decide) ?_
              exact ih (i + 1) (by omega) (by omega) _ M3 _ _ _ h31 h33 h3A h3c (hpr.found c55)
            · skip
              refine G_aload_n (K := mX5_deal) (i := 0) dX5_deal_58 rfl rfl ?_
              refine G_iload (K := mX5_deal) dX5_deal_59 rfl ?_
              refine G_iload (K := mX5_deal) dX5_deal_61 rfl ?_
              refine G_call0 (K := mX5_deal) (as := [.int (nI i), .int (nI j)]) (r := 0) (Q' := fun u Mz => u = some (.int 1) ∧ toH (Mz 1) = chgH (toH (M3 1)) i j ∧ ∀ z, z ≠ 1 → Mz z = M3 z) (c_X5_moved (M := M3) (i := i) (j := j) (by omega) (by omega) (fun Mz h1 h2 => ⟨rfl, h1, h2⟩)) vX5_moved rfl lX5_148 ⟨_, _, _, rfl, rfl, rfl⟩ (by decide) (Nat.le_of_ble_eq_true rfl) dX5_deal_63 rfl ?_
              rintro u M5 ⟨rfl, h51, h5z⟩
              refine G_istore (K := mX5_deal) dX5_deal_66 (by decide) ?_
              refine G_aload_n (K := mX5_deal) (i := 0) dX5_deal_68 rfl rfl ?_
              refine G_iload_n (K := mX5_deal) (i := 1) dX5_deal_69 rfl rfl ?_
              have eT : toH (M5 1) = chgH (toH (M 1)) i j := by rw [h51, h31]
              have hnW : M5 1 2 = nI (nOf σ) := by rw [← toH_n (M5 1), eT, chgH_cell (by decide) (by decide) (by decide)]; exact hR.n hI
              have hJW : HJ (toH (M5 1)) (nOf σ) := by rw [eT]; exact (hR.hj hI).chg (by omega) (by omega)
              have hoW : 0 ≤ (toH (M5 1) 0 1).toInt := by rw [eT, chgH_cell (by decide) (by decide) (by decide)]; exact hR.ho hI
              refine G_call0 (K := mX5_deal) (as := [.int (nI k)]) (r := 0) (Q' := fun u Mz => u = none ∧ toH (Mz 1) = toH (M5 3) ∧ (∀ r, r < nOf σ → Mz 9 r = hoursH (nOf σ) k (toH (M5 1)) 2 r) ∧ ∀ c, c ≠ 1 → c ≠ 7 → c ≠ 9 → Mz c = M5 c) (c_X5_live (M := M5) (n := nOf σ) (k := k) hnW hI.n8 (by omega) hJW hoW (fun Mz h1 h2 h3 => ⟨rfl, h1, h2, h3⟩)) vX5_live rfl lX5_194 ⟨_, _, _, rfl, rfl, rfl⟩ (by decide) (Nat.le_of_ble_eq_true rfl) dX5_deal_70 rfl ?_
              rintro z M4 ⟨rfl, h41, h42, h43⟩
              rw [h5z 3 (by decide), h33] at h41
              have f9 : ∀ r, r < nOf σ → M4 9 r = mH σ k i j 2 r := fun r hr => by rw [h42 r hr, eT]; exact (hoursH_congr (chgH_congr hR.1 (by omega) (by omega)) k).f 2 (by omega) (by omega) hr
              have h44 : toH (M4 3) = toH (M 1) := by rw [h43 3 (by decide) (by decide) (by decide), h5z 3 (by decide)]; exact h33
              have h4A : ∀ r, r < nOf σ → M4 10 r = aH σ k 2 r := by rw [h43 10 (by decide) (by decide) (by decide), h5z 10 (by decide)]; exact h3A
              have h4c : ∀ c, c ≠ 1 → c ≠ 3 → c ≠ 7 → c ≠ 9 → c ≠ 10 → M4 c = M c := fun c a b d e f => by rw [h43 c a d e, h5z c a]; exact h3c c a b d e f
              have eij : (8 * i + j) / 8 = i := by omega
              have eij2 : (8 * i + j) % 8 = j := by omega
              refine G_iload (K := mX5_deal) dX5_deal_73 rfl ?_
              refine G_iconst (K := mX5_deal) (v := 1) dX5_deal_75 (by decide) ?_
              refine G_icmp_ne (K := mX5_deal) (tgt := 117) dX5_deal_76 (by decide) (fun c76 => ?_) (fun c76 => ?_)
              · skip
                exact absurd rfl c76
              · skip
                refine G_aload_n (K := mX5_deal) (i := 0) dX5_deal_79 rfl rfl ?_
                refine G_getr (K := mX5_deal) fX5_34 dX5_deal_80 rfl rfl ?_
                refine G_iload (K := mX5_deal) dX5_deal_83 rfl ?_
                refine G_ld (K := mX5_deal) _ dX5_deal_85 rfl rfl (by omega) (by decide) ?_
                refine G_aload_n (K := mX5_deal) (i := 0) dX5_deal_86 rfl rfl ?_
                refine G_getr (K := mX5_deal) fX5_37 dX5_deal_87 rfl rfl ?_
                refine G_iload (K := mX5_deal) dX5_deal_90 rfl ?_
                refine G_ld (K := mX5_deal) _ dX5_deal_92 rfl rfl (by omega) (by decide) ?_
                rw [f9 j (by omega), h4A i (by omega)]
                refine G_icmp_le (K := mX5_deal) (tgt := 117) dX5_deal_93 (by decide) (fun c93 => ?_) (fun c93 => ?_)
                · skip
                  have hB : dealB σ k (8 * i + j) = false := by
                    unfold dealB
                    rw [eij, eij2, Bool.and_eq_false_iff]
                    exact Or.inr (decide_eq_false (fun z => Int32.not_lt.mpr c93 z.1))
                  refine G_iconst (K := mX5_deal) (v := 0) dX5_deal_117 (by decide) ?_
                  refine G_istore (K := mX5_deal) dX5_deal_118 (by decide) ?_
                  refine G_iload (K := mX5_deal) dX5_deal_120 rfl ?_
                  refine G_if_eq (K := mX5_deal) (tgt := 136) dX5_deal_122 (by decide) (fun c122 => ?_) (fun c122 => ?_)
                  · skip
                    refine G_iload_n (K := mX5_deal) (i := 3) dX5_deal_136 rfl rfl ?_
                    refine G_istore_n (K := mX5_deal) (i := 3) dX5_deal_137 rfl (by decide) ?_
                    refine G_iincN (K := mX5_deal) dX5_deal_138 (by decide) rfl ?_
                    refine G_goto (K := mX5_deal) (tgt := 43) dX5_deal_141 (by decide) ?_
                    refine jh (j + 1) (by omega) (by omega) (by omega) _ M4 _ _ h41 h44 h4A h4c ?_
                    have hno : pr = -1 ∧ ∀ y, y < 8 * i + j → dealB σ k y = false := by
                      rcases hpr with h | ⟨y, hy, h, -⟩
                      · exact h
                      · rw [h] at c55; exact absurd (pairV_nn hy) c55
                    exact Or.inl ⟨hno.1, fun y hy => by
                      by_cases h : y = 8 * i + j
                      · rw [h]; exact hB
                      · exact hno.2 y (by omega)⟩
                  · skip
                    exact absurd rfl c122
                · skip
                  refine G_aload_n (K := mX5_deal) (i := 0) dX5_deal_96 rfl rfl ?_
                  refine G_getr (K := mX5_deal) fX5_34 dX5_deal_97 rfl rfl ?_
                  refine G_iload (K := mX5_deal) dX5_deal_100 rfl ?_
                  refine G_ld (K := mX5_deal) _ dX5_deal_102 rfl rfl (by omega) (by decide) ?_
                  refine G_aload_n (K := mX5_deal) (i := 0) dX5_deal_103 rfl rfl ?_
                  refine G_getr (K := mX5_deal) fX5_37 dX5_deal_104 rfl rfl ?_
                  refine G_iload (K := mX5_deal) dX5_deal_107 rfl ?_
                  refine G_ld (K := mX5_deal) _ dX5_deal_109 rfl rfl (by omega) (by decide) ?_
                  rw [f9 i (by omega), h4A j (by omega)]
                  refine G_icmp_le (K := mX5_deal) (tgt := 117) dX5_deal_110 (by decide) (fun c110 => ?_) (fun c110 => ?_)
                  · skip
                    have hB : dealB σ k (8 * i + j) = false := by
                      unfold dealB
                      rw [eij, eij2, Bool.and_eq_false_iff]
                      exact Or.inr (decide_eq_false (fun z => Int32.not_lt.mpr c110 z.2))
                    refine G_iconst (K := mX5_deal) (v := 0) dX5_deal_117 (by decide) ?_
                    refine G_istore (K := mX5_deal) dX5_deal_118 (by decide) ?_
                    refine G_iload (K := mX5_deal) dX5_deal_120 rfl ?_
                    refine G_if_eq (K := mX5_deal) (tgt := 136) dX5_deal_122 (by decide) (fun c122 => ?_) (fun c122 => ?_)
                    · skip
                      refine G_iload_n (K := mX5_deal) (i := 3) dX5_deal_136 rfl rfl ?_
                      refine G_istore_n (K := mX5_deal) (i := 3) dX5_deal_137 rfl (by decide) ?_
                      refine G_iincN (K := mX5_deal) dX5_deal_138 (by decide) rfl ?_
                      refine G_goto (K := mX5_deal) (tgt := 43) dX5_deal_141 (by decide) ?_
                      refine jh (j + 1) (by omega) (by omega) (by omega) _ M4 _ _ h41 h44 h4A h4c ?_
                      have hno : pr = -1 ∧ ∀ y, y < 8 * i + j → dealB σ k y = false := by
                        rcases hpr with h | ⟨y, hy, h, -⟩
                        · exact h
                        · rw [h] at c55; exact absurd (pairV_nn hy) c55
                      exact Or.inl ⟨hno.1, fun y hy => by
                        by_cases h : y = 8 * i + j
                        · rw [h]; exact hB
                        · exact hno.2 y (by omega)⟩
                    · skip
                      exact absurd rfl c122
                  · skip
                    have hB : dealB σ k (8 * i + j) = true := by
                      unfold dealB
                      rw [eij, eij2, okP_t (by omega) (by omega) hn8, decide_eq_true (show aH σ k 2 i < mH σ k i j 2 j ∧ aH σ k 2 j < mH σ k i j 2 i from ⟨Int32.not_le.mp c93, Int32.not_le.mp c110⟩)]
                      rfl
                    refine G_iconst (K := mX5_deal) (v := 1) dX5_deal_113 (by decide) ?_
                    refine G_goto (K := mX5_deal) (tgt := 118) dX5_deal_114 (by decide) ?_
                    refine G_istore (K := mX5_deal) dX5_deal_118 (by decide) ?_
                    refine G_iload (K := mX5_deal) dX5_deal_120 rfl ?_
                    refine G_if_eq (K := mX5_deal) (tgt := 136) dX5_deal_122 (by decide) (fun c122 => ?_) (fun c122 => ?_)
                    · skip
                      exact absurd c122 (by decide)
                    · skip
                      refine G_bipush (K := mX5_deal) (v := 10) dX5_deal_125 (by decide) ?_
                      refine G_iload (K := mX5_deal) dX5_deal_127 rfl ?_
                      refine G_imul (K := mX5_deal) dX5_deal_129 ?_
                      refine G_iload (K := mX5_deal) dX5_deal_130 rfl ?_
                      refine G_iadd (K := mX5_deal) dX5_deal_132 ?_
                      rw [nI_lin (by omega) (by omega)]
                      refine G_goto (K := mX5_deal) (tgt := 137) dX5_deal_133 (by decide) ?_
                      refine G_istore_n (K := mX5_deal) (i := 3) dX5_deal_137 rfl (by decide) ?_
                      refine G_iincN (K := mX5_deal) dX5_deal_138 (by decide) rfl ?_
                      refine G_goto (K := mX5_deal) (tgt := 43) dX5_deal_141 (by decide) ?_
                      refine jh (j + 1) (by omega) (by omega) (by omega) _ M4 _ _ h41 h44 h4A h4c ?_
                      have hno : pr = -1 ∧ ∀ y, y < 8 * i + j → dealB σ k y = false := by
                        rcases hpr with h | ⟨y, hy, h, -⟩
                        · exact h
                        · rw [h] at c55; exact absurd (pairV_nn hy) c55
                      exact Or.inr ⟨8 * i + j, by omega, (pairV_ij (by omega)).symm, hB, hno.2⟩
        exact loop43 (i + 1) (by omega) (by omega) _ M3 _ _ h31 h33 h3A h3c (hp0.skip (fun z h1 h2 => by omega))
    exact loop26 0 (by omega) _ M2 _ _ _ h21 h23 h2A h2c (Or.inl ⟨rfl, fun y hy => absurd hy (by omega)⟩)
  · skip
    refine G_aload_n (K := mX5_deal) (i := 0) dX5_deal_10 rfl rfl ?_
    refine G_iload_n (K := mX5_deal) (i := 2) dX5_deal_11 rfl rfl ?_
    obtain ⟨q, hq, eq⟩ := refP_fin c7
    rw [eq]
    refine G_call0 (K := mX5_deal) (Q' := PostR (tl σ q)) (rf_finding hR (k := q) (by omega) (fun _ _ h => h)) vX5_finding rfl lX5_109 ⟨_, _, _, rfl, rfl, rfl⟩ (by decide) (Nat.le_of_ble_eq_true rfl) dX5_deal_12 rfl ?_
    rintro v M1 ⟨rfl, hR1⟩
    exact G_iret (st := []) (K := mX5_deal) dX5_deal_15 rfl (hQ _ _ (by rw [show opDeal σ a = _ from (by unfold opDeal; exact (if_neg c7).trans ((congrArg (tlI σ) eq).trans (tlI_fin hq)))]; exact ⟨rfl, hR1⟩))
