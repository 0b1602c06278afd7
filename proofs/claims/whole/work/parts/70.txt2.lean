def TP (T : Nat → Int32) (L : Nat) (M : Mem) : Prop := (∀ k, k < 120 → M 47 k = T k) ∧ M 46 1 = nI L
def TH (T : Nat → Int32) (L : Nat) : Prop := L ≤ 120 ∧ ∀ k, k < L → 0 ≤ T k
/-- the reader stands at the TOKEN behind e -/
def TK (T : Nat → Int32) (L e : Nat) (M : Mem) : Prop := M 45 2 = tS T L e ∧ M 45 3 = nI (tB T L e) ∧ M 45 4 = nI (tE T L e) ∧ M 45 5 = tV T L e
set_option maxRecDepth 20000 in
theorem cl_byteAt {T : Nat → Int32} {L k : Nat} {M : Mem} (hT : TP T L M) (hL : L ≤ 120) (hk : k < 2147483648) {Q : Option Value → Mem → Prop} (hQ : Q (some (.int (byt T L k))) M) : CT mX2_byteAt shC 0 [.ref 46, .int (nI k)] M Q := by
  refine CT.mk [some (.ref 46), some (.int (nI k))] (by decide) (Nat.le_of_ble_eq_true rfl) rfl rfl ?_
  refine G_iload_n (K := mX2_byteAt) (i := 1) dX2_byteAt_0 rfl rfl ?_
  refine G_if_lt (K := mX2_byteAt) (tgt := 27) dX2_byteAt_1 (by decide) (fun c1 => ?_) (fun c1 => ?_)
  · skip
    exact absurd c1 (nI_pos hk)
  · skip
    refine G_iload_n (K := mX2_byteAt) (i := 1) dX2_byteAt_4 rfl rfl ?_
    refine G_aload_n (K := mX2_byteAt) (i := 0) dX2_byteAt_5 rfl rfl ?_
    refine G_geti (K := mX2_byteAt) fX2_15 dX2_byteAt_6 rfl rfl ?_
    refine G_icmp_ge (K := mX2_byteAt) (tgt := 27) dX2_byteAt_9 (by decide) (fun c9 => ?_) (fun c9 => ?_)
    · skip
      rw [hT.2, le_nn (by omega) (by omega)] at c9
      refine G_iconst (K := mX2_byteAt) (v := -1) dX2_byteAt_27 (by decide) ?_
      exact G_irm (K := mX2_byteAt) dX2_byteAt_28 rfl (byt_out c9).symm rfl hQ
    · skip
      rw [hT.2, le_nn (by omega) (by omega)] at c9
      refine G_iload_n (K := mX2_byteAt) (i := 1) dX2_byteAt_12 rfl rfl ?_
      refine G_bipush (K := mX2_byteAt) (v := 120) dX2_byteAt_13 (by decide) ?_
      refine G_icmp_ge (K := mX2_byteAt) (tgt := 27) dX2_byteAt_15 (by decide) (fun c15 => ?_) (fun c15 => ?_)
      · skip
        exact absurd ((le_nn (i := k) (n := 120) (by omega) (by omega)).mp c15) (by omega)
      · skip
        refine G_aload_n (K := mX2_byteAt) (i := 0) dX2_byteAt_18 rfl rfl ?_
        refine G_getr (K := mX2_byteAt) fX2_9 dX2_byteAt_19 rfl rfl ?_
        refine G_iload_n (K := mX2_byteAt) (i := 1) dX2_byteAt_22 rfl rfl ?_
        refine G_ld (K := mX2_byteAt) k dX2_byteAt_23 rfl rfl (by omega) (by decide) ?_
        refine G_goto (K := mX2_byteAt) (tgt := 28) dX2_byteAt_24 (by decide) ?_
        exact G_irm (K := mX2_byteAt) dX2_byteAt_28 rfl ((hT.1 k (by omega)).trans (byt_in (by omega)).symm) rfl hQ

set_option maxRecDepth 20000 in
theorem cl_tokenBegunBy {M : Mem} {x : Int32} {Q : Option Value → Mem → Prop} (hQ : Q (some (.int (srt x))) M) : CT mX3_tokenBegunBy shC 0 [.int x] M Q := by
  refine CT.mk [some (.int x)] (by decide) (Nat.le_of_ble_eq_true rfl) rfl rfl ?_
  refine G_iload_n (K := mX3_tokenBegunBy) (i := 0) dX3_tokenBegunBy_0 rfl rfl ?_
  refine G_if_ge (K := mX3_tokenBegunBy) (tgt := 6) dX3_tokenBegunBy_1 (by decide) (fun c1 => ?_) (fun c1 => ?_)
  · skip
    refine G_iload_n (K := mX3_tokenBegunBy) (i := 0) dX3_tokenBegunBy_6 rfl rfl ?_
    refine G_bipush (K := mX3_tokenBegunBy) (v := 97) dX3_tokenBegunBy_7 (by decide) ?_
    refine G_icmp_lt (K := mX3_tokenBegunBy) (tgt := 20) dX3_tokenBegunBy_9 (by decide) (fun c9 => ?_) (fun c9 => ?_)
    · skip
      refine G_iload_n (K := mX3_tokenBegunBy) (i := 0) dX3_tokenBegunBy_20 rfl rfl ?_
      refine G_bipush (K := mX3_tokenBegunBy) (v := 48) dX3_tokenBegunBy_21 (by decide) ?_
      refine G_icmp_lt (K := mX3_tokenBegunBy) (tgt := 34) dX3_tokenBegunBy_23 (by decide) (fun c23 => ?_) (fun c23 => ?_)
      · skip
        refine G_iload_n (K := mX3_tokenBegunBy) (i := 0) dX3_tokenBegunBy_34 rfl rfl ?_
        refine G_bipush (K := mX3_tokenBegunBy) (v := 59) dX3_tokenBegunBy_35 (by decide) ?_
        refine G_icmp_ne (K := mX3_tokenBegunBy) (tgt := 44) dX3_tokenBegunBy_37 (by decide) (fun c37 => ?_) (fun c37 => ?_)
        · skip
          refine G_iconst (K := mX3_tokenBegunBy) (v := 4) dX3_tokenBegunBy_44 (by decide) ?_
          exact G_irm (K := mX3_tokenBegunBy) dX3_tokenBegunBy_45 rfl (show _ = srt x from ((if_neg (Int32.not_lt.mpr c1)).trans ((if_neg (show ¬ (97 ≤ x ∧ x ≤ 122) from fun z => Int32.not_le.mpr c9 z.1)).trans ((if_neg (show ¬ (48 ≤ x ∧ x ≤ 57) from fun z => Int32.not_le.mpr c23 z.1)).trans (if_neg c37)))).symm) rfl hQ
        · skip
          refine G_iconst (K := mX3_tokenBegunBy) (v := 3) dX3_tokenBegunBy_40 (by decide) ?_
          refine G_goto (K := mX3_tokenBegunBy) (tgt := 45) dX3_tokenBegunBy_41 (by decide) ?_
          exact G_irm (K := mX3_tokenBegunBy) dX3_tokenBegunBy_45 rfl (show _ = srt x from ((if_neg (Int32.not_lt.mpr c1)).trans ((if_neg (show ¬ (97 ≤ x ∧ x ≤ 122) from fun z => Int32.not_le.mpr c9 z.1)).trans ((if_neg (show ¬ (48 ≤ x ∧ x ≤ 57) from fun z => Int32.not_le.mpr c23 z.1)).trans (if_pos c37)))).symm) rfl hQ
      · skip
        refine G_iload_n (K := mX3_tokenBegunBy) (i := 0) dX3_tokenBegunBy_26 rfl rfl ?_
        refine G_bipush (K := mX3_tokenBegunBy) (v := 57) dX3_tokenBegunBy_27 (by decide) ?_
        refine G_icmp_gt (K := mX3_tokenBegunBy) (tgt := 34) dX3_tokenBegunBy_29 (by decide) (fun c29 => ?_) (fun c29 => ?_)
        · skip
          refine G_iload_n (K := mX3_tokenBegunBy) (i := 0) dX3_tokenBegunBy_34 rfl rfl ?_
          refine G_bipush (K := mX3_tokenBegunBy) (v := 59) dX3_tokenBegunBy_35 (by decide) ?_
          refine G_icmp_ne (K := mX3_tokenBegunBy) (tgt := 44) dX3_tokenBegunBy_37 (by decide) (fun c37 => ?_) (fun c37 => ?_)
          · skip
            refine G_iconst (K := mX3_tokenBegunBy) (v := 4) dX3_tokenBegunBy_44 (by decide) ?_
            exact G_irm (K := mX3_tokenBegunBy) dX3_tokenBegunBy_45 rfl (show _ = srt x from ((if_neg (Int32.not_lt.mpr c1)).trans ((if_neg (show ¬ (97 ≤ x ∧ x ≤ 122) from fun z => Int32.not_le.mpr c9 z.1)).trans ((if_neg (show ¬ (48 ≤ x ∧ x ≤ 57) from fun z => Int32.not_le.mpr c29 z.2)).trans (if_neg c37)))).symm) rfl hQ
          · skip
            refine G_iconst (K := mX3_tokenBegunBy) (v := 3) dX3_tokenBegunBy_40 (by decide) ?_
            refine G_goto (K := mX3_tokenBegunBy) (tgt := 45) dX3_tokenBegunBy_41 (by decide) ?_
            exact G_irm (K := mX3_tokenBegunBy) dX3_tokenBegunBy_45 rfl (show _ = srt x from ((if_neg (Int32.not_lt.mpr c1)).trans ((if_neg (show ¬ (97 ≤ x ∧ x ≤ 122) from fun z => Int32.not_le.mpr c9 z.1)).trans ((if_neg (show ¬ (48 ≤ x ∧ x ≤ 57) from fun z => Int32.not_le.mpr c29 z.2)).trans (if_pos c37)))).symm) rfl hQ
        · skip
          refine G_iconst (K := mX3_tokenBegunBy) (v := 2) dX3_tokenBegunBy_32 (by decide) ?_
          exact G_irm (K := mX3_tokenBegunBy) dX3_tokenBegunBy_33 rfl (show _ = srt x from ((if_neg (Int32.not_lt.mpr c1)).trans ((if_neg (show ¬ (97 ≤ x ∧ x ≤ 122) from fun z => Int32.not_le.mpr c9 z.1)).trans (if_pos ⟨Int32.not_lt.mp c23, Int32.not_lt.mp c29⟩))).symm) rfl hQ
    · skip
      refine G_iload_n (K := mX3_tokenBegunBy) (i := 0) dX3_tokenBegunBy_12 rfl rfl ?_
      refine G_bipush (K := mX3_tokenBegunBy) (v := 122) dX3_tokenBegunBy_13 (by decide) ?_
      refine G_icmp_gt (K := mX3_tokenBegunBy) (tgt := 20) dX3_tokenBegunBy_15 (by decide) (fun c15 => ?_) (fun c15 => ?_)
      · skip
        refine G_iload_n (K := mX3_tokenBegunBy) (i := 0) dX3_tokenBegunBy_20 rfl rfl ?_
        refine G_bipush (K := mX3_tokenBegunBy) (v := 48) dX3_tokenBegunBy_21 (by decide) ?_
        refine G_icmp_lt (K := mX3_tokenBegunBy) (tgt := 34) dX3_tokenBegunBy_23 (by decide) (fun c23 => ?_) (fun c23 => ?_)
        · skip
          refine G_iload_n (K := mX3_tokenBegunBy) (i := 0) dX3_tokenBegunBy_34 rfl rfl ?_
          refine G_bipush (K := mX3_tokenBegunBy) (v := 59) dX3_tokenBegunBy_35 (by decide) ?_
          refine G_icmp_ne (K := mX3_tokenBegunBy) (tgt := 44) dX3_tokenBegunBy_37 (by decide) (fun c37 => ?_) (fun c37 => ?_)
          · skip
            refine G_iconst (K := mX3_tokenBegunBy) (v := 4) dX3_tokenBegunBy_44 (by decide) ?_
            exact G_irm (K := mX3_tokenBegunBy) dX3_tokenBegunBy_45 rfl (show _ = srt x from ((if_neg (Int32.not_lt.mpr c1)).trans ((if_neg (show ¬ (97 ≤ x ∧ x ≤ 122) from fun z => Int32.not_le.mpr c15 z.2)).trans ((if_neg (show ¬ (48 ≤ x ∧ x ≤ 57) from fun z => Int32.not_le.mpr c23 z.1)).trans (if_neg c37)))).symm) rfl hQ
          · skip
            refine G_iconst (K := mX3_tokenBegunBy) (v := 3) dX3_tokenBegunBy_40 (by decide) ?_
            refine G_goto (K := mX3_tokenBegunBy) (tgt := 45) dX3_tokenBegunBy_41 (by decide) ?_
            exact G_irm (K := mX3_tokenBegunBy) dX3_tokenBegunBy_45 rfl (show _ = srt x from ((if_neg (Int32.not_lt.mpr c1)).trans ((if_neg (show ¬ (97 ≤ x ∧ x ≤ 122) from fun z => Int32.not_le.mpr c15 z.2)).trans ((if_neg (show ¬ (48 ≤ x ∧ x ≤ 57) from fun z => Int32.not_le.mpr c23 z.1)).trans (if_pos c37)))).symm) rfl hQ
        · skip
          refine G_iload_n (K := mX3_tokenBegunBy) (i := 0) dX3_tokenBegunBy_26 rfl rfl ?_
          refine G_bipush (K := mX3_tokenBegunBy) (v := 57) dX3_tokenBegunBy_27 (by decide) ?_
          refine G_icmp_gt (K := mX3_tokenBegunBy) (tgt := 34) dX3_tokenBegunBy_29 (by decide) (fun c29 => ?_) (fun c29 => ?_)
          · skip
            refine G_iload_n (K := mX3_tokenBegunBy) (i := 0) dX3_tokenBegunBy_34 rfl rfl ?_
            refine G_bipush (K := mX3_tokenBegunBy) (v := 59) dX3_tokenBegunBy_35 (by decide) ?_
            refine G_icmp_ne (K := mX3_tokenBegunBy) (tgt := 44) dX3_tokenBegunBy_37 (by decide) (fun c37 => ?_) (fun c37 => ?_)
            · skip
              refine G_iconst (K := mX3_tokenBegunBy) (v := 4) dX3_tokenBegunBy_44 (by decide) ?_
              exact G_irm (K := mX3_tokenBegunBy) dX3_tokenBegunBy_45 rfl (show _ = srt x from ((if_neg (Int32.not_lt.mpr c1)).trans ((if_neg (show ¬ (97 ≤ x ∧ x ≤ 122) from fun z => Int32.not_le.mpr c15 z.2)).trans ((if_neg (show ¬ (48 ≤ x ∧ x ≤ 57) from fun z => Int32.not_le.mpr c29 z.2)).trans (if_neg c37)))).symm) rfl hQ
            · skip
              refine G_iconst (K := mX3_tokenBegunBy) (v := 3) dX3_tokenBegunBy_40 (by decide) ?_
              refine G_goto (K := mX3_tokenBegunBy) (tgt := 45) dX3_tokenBegunBy_41 (by decide) ?_
              exact G_irm (K := mX3_tokenBegunBy) dX3_tokenBegunBy_45 rfl (show _ = srt x from ((if_neg (Int32.not_lt.mpr c1)).trans ((if_neg (show ¬ (97 ≤ x ∧ x ≤ 122) from fun z => Int32.not_le.mpr c15 z.2)).trans ((if_neg (show ¬ (48 ≤ x ∧ x ≤ 57) from fun z => Int32.not_le.mpr c29 z.2)).trans (if_pos c37)))).symm) rfl hQ
          · skip
            refine G_iconst (K := mX3_tokenBegunBy) (v := 2) dX3_tokenBegunBy_32 (by decide) ?_
            exact G_irm (K := mX3_tokenBegunBy) dX3_tokenBegunBy_33 rfl (show _ = srt x from ((if_neg (Int32.not_lt.mpr c1)).trans ((if_neg (show ¬ (97 ≤ x ∧ x ≤ 122) from fun z => Int32.not_le.mpr c15 z.2)).trans (if_pos ⟨Int32.not_lt.mp c23, Int32.not_lt.mp c29⟩))).symm) rfl hQ
      · skip
        refine G_iconst (K := mX3_tokenBegunBy) (v := 1) dX3_tokenBegunBy_18 (by decide) ?_
        exact G_irm (K := mX3_tokenBegunBy) dX3_tokenBegunBy_19 rfl (show _ = srt x from ((if_neg (Int32.not_lt.mpr c1)).trans (if_pos ⟨Int32.not_lt.mp c9, Int32.not_lt.mp c15⟩)).symm) rfl hQ
  · skip
    refine G_iconst (K := mX3_tokenBegunBy) (v := 0) dX3_tokenBegunBy_4 (by decide) ?_
    exact G_irm (K := mX3_tokenBegunBy) dX3_tokenBegunBy_5 rfl (show _ = srt x from (if_pos (Int32.not_le.mp c1)).symm) rfl hQ

set_option maxRecDepth 20000 in
theorem cl_step {T : Nat → Int32} {L e : Nat} {M : Mem} (hH : TH T L) (hT : TP T L M) (he : M 45 4 = nI e) (hel : e ≤ L) {Q : Option Value → Mem → Prop} (hQ : ∀ M2 : Mem, TK T L e M2 → (∀ c, c ≠ 45 → M2 c = M c) → Q none M2) : CT mX3_step shC 1 [.ref 45] M Q := by
  refine CT.mk [some (.ref 45)] (by decide) (Nat.le_of_ble_eq_true rfl) rfl rfl ?_
  have hL := hH.1
  refine G_aload_n (K := mX3_step) (i := 0) dX3_step_0 rfl rfl ?_
  refine G_aload_n (K := mX3_step) (i := 0) dX3_step_1 rfl rfl ?_
  refine G_geti (K := mX3_step) fX3_29 dX3_step_2 rfl rfl ?_
  refine G_puti (K := mX3_step) fX3_43 w3_3 dX3_step_5 rfl rfl ?_
  have loop8 : ∀ b, b ≤ L → e ≤ b → ∀ M3 : Mem, M3 45 3 = nI b → (∀ c, c ≠ 45 → M3 c = M c) → (∀ k, e ≤ k → k < b → spP (byt T L k) = true) → G mX3_step shC 1 Q 8 [some (.ref 45)] [] M3 := by
    refine upto L (fun b hb ih => ?_)
    intro heb M3 h33 h3c hk
    have hT3 : TP T L M3 := ⟨fun k hk => by rw [h3c 47 (by decide)]; exact hT.1 k hk, by rw [h3c 46 (by decide)]; exact hT.2⟩
    refine G_aload_n (K := mX3_step) (i := 0) dX3_step_8 rfl rfl ?_
    refine G_geti (K := mX3_step) fX3_43 dX3_step_9 rfl rfl ?_
    refine G_aload_n (K := mX3_step) (i := 0) dX3_step_12 rfl rfl ?_
    refine G_getr (K := mX3_step) fX3_12 dX3_step_13 rfl rfl ?_
    refine G_geti (K := mX3_step) fX3_141 dX3_step_16 rfl rfl ?_
    rw [h33, hT3.2]
    refine G_icmp_ge (K := mX3_step) (tgt := 51) dX3_step_19 (by decide) (fun c19 => ?_) (fun c19 => ?_)
    · skip
      rw [le_nn (by omega) (by omega)] at c19
      have hsp : spP (byt T L b) = false := by rw [byt_out (by omega)]; decide
      refine G_aload_n (K := mX3_step) (i := 0) dX3_step_51 rfl rfl ?_
      refine G_aload_n (K := mX3_step) (i := 0) dX3_step_52 rfl rfl ?_
      refine G_getr (K := mX3_step) fX3_12 dX3_step_53 rfl rfl ?_
      refine G_aload_n (K := mX3_step) (i := 0) dX3_step_56 rfl rfl ?_
      refine G_geti (K := mX3_step) fX3_43 dX3_step_57 rfl rfl ?_
      rw [h33]
      refine G_cv (K := mX3_step) (cl_byteAt (T := T) (L := L) (k := b) (M := M3) hT3 hH.1 (by omega) ⟨rfl, rfl⟩) vX2_byteAt rfl lX3_134 dX3_step_60 ⟨_, _, _, rfl, rfl, rfl⟩ (by decide) rfl (Nat.le_of_ble_eq_true rfl) ?_
      refine G_sv (K := mX3_step) (cl_tokenBegunBy (M := M3) (x := (byt T L b)) ⟨rfl, rfl⟩) sX3_tokenBegunBy rfl lX3_143 dX3_step_63 (by decide) rfl (Nat.le_of_ble_eq_true rfl) ?_
      refine G_puti (K := mX3_step) fX3_40 w3_2 dX3_step_66 rfl rfl ?_
      refine G_aload_n (K := mX3_step) (i := 0) dX3_step_69 rfl rfl ?_
      refine G_aload_n (K := mX3_step) (i := 0) dX3_step_70 rfl rfl ?_
      refine G_geti (K := mX3_step) fX3_43 dX3_step_71 rfl rfl ?_
      refine G_puti (K := mX3_step) fX3_29 w3_4 dX3_step_74 rfl rfl ?_
      refine G_aload_n (K := mX3_step) (i := 0) dX3_step_77 rfl rfl ?_
      refine G_iconst (K := mX3_step) (v := 0) dX3_step_78 (by decide) ?_
      refine G_puti (K := mX3_step) fX3_95 w3_5 dX3_step_79 rfl rfl ?_
      have loop82 : ∀ x, x ≤ L → b ≤ x → ∀ (M4 : Mem) (v : Int32), M4 45 2 = srt (byt T L b) → M4 45 3 = nI b → M4 45 4 = nI x → M4 45 5 = v → (∀ c, c ≠ 45 → M4 c = M c) → (∀ k, b ≤ k → k < x → skP (srt (byt T L b)) (byt T L k) = true) → (srt (byt T L b) = 3 → x ≤ b + 1) → (¬ srt (byt T L b) = 2 → v = 0) → (srt (byt T L b) = 2 → valE T L (121 - (x - b)) x v = valE T L 121 b 0) → G mX3_step shC 1 Q 82 [some (.ref 45)] [] M4 := by
        refine upto L (fun x hx xh => ?_)
        intro hbx M4 v h42 h43 h44 h45 h4c hsk h3s hv0 hv2
        have hT3 : TP T L M4 := ⟨fun k hk => by rw [h4c 47 (by decide)]; exact hT.1 k hk, by rw [h4c 46 (by decide)]; exact hT.2⟩
        refine G_aload_n (K := mX3_step) (i := 0) dX3_step_82 rfl rfl ?_
        refine G_geti (K := mX3_step) fX3_29 dX3_step_83 rfl rfl ?_
        refine G_aload_n (K := mX3_step) (i := 0) dX3_step_86 rfl rfl ?_
        refine G_getr (K := mX3_step) fX3_12 dX3_step_87 rfl rfl ?_
        refine G_geti (K := mX3_step) fX3_141 dX3_step_90 rfl rfl ?_
        rw [h44, hT3.2]
        refine G_icmp_ge (K := mX3_step) (tgt := 189) dX3_step_93 (by decide) (fun c93 => ?_) (fun c93 => ?_)
        · skip
          rw [le_nn (by omega) (by omega)] at c93
          have hxL : x = L := by omega
          have hbt : tB T L e = b := runE_eq 121 e b heb (by omega) hk hsp
          have hS : tS T L e = srt (byt T L b) := by unfold tS; rw [hbt]
          have hE : tE T L e = x := by
            unfold tE
            rw [hS, hbt]
            by_cases h3 : srt (byt T L b) = 3
            · rw [if_pos h3]
              have h1 := h3s h3
              have hbL : b < L := by
                rcases Nat.lt_or_ge b L with q | q
                · exact q
                · rw [byt_out q] at h3; exact absurd h3 (by decide)
              omega
            · rw [if_neg h3]
              exact runE_eq 121 b x hbx (by omega) hsk (by rw [byt_out (k := x) (by omega)]; exact skP_m1 _)
          have hV : tV T L e = v := by
            unfold tV
            rw [hS, hbt]
            by_cases h2 : srt (byt T L b) = 2
            · rw [if_pos h2, ← hv2 h2, show 121 - (x - b) = (120 - (x - b)) + 1 by omega]
              show (if srt (byt T L x) = 2 then _ else v) = v
              rw [if_neg (by rw [byt_out (k := x) (by omega)]; decide)]
            · rw [if_neg h2, hv0 h2]
          exact G_vrm (K := mX3_step) dX3_step_189 rfl rfl (hQ M4 ⟨by rw [hS]; exact h42, by rw [hbt]; exact h43, by rw [hE]; exact h44, by rw [hV]; exact h45⟩ h4c)
        · skip
          rw [le_nn (by omega) (by omega)] at c93
          refine G_aload_n (K := mX3_step) (i := 0) dX3_step_96 rfl rfl ?_
          refine G_getr (K := mX3_step) fX3_12 dX3_step_97 rfl rfl ?_
          refine G_aload_n (K := mX3_step) (i := 0) dX3_step_100 rfl rfl ?_
          refine G_geti (K := mX3_step) fX3_29 dX3_step_101 rfl rfl ?_
          rw [h44]
          refine G_cv (K := mX3_step) (cl_byteAt (T := T) (L := L) (k := x) (M := M4) hT3 hH.1 (by omega) ⟨rfl, rfl⟩) vX2_byteAt rfl lX3_134 dX3_step_104 ⟨_, _, _, rfl, rfl, rfl⟩ (by decide) rfl (Nat.le_of_ble_eq_true rfl) ?_
          refine G_sv (K := mX3_step) (cl_tokenBegunBy (M := M4) (x := (byt T L x)) ⟨rfl, rfl⟩) sX3_tokenBegunBy rfl lX3_143 dX3_step_107 (by decide) rfl (Nat.le_of_ble_eq_true rfl) ?_
          refine G_aload_n (K := mX3_step) (i := 0) dX3_step_110 rfl rfl ?_
          refine G_geti (K := mX3_step) fX3_40 dX3_step_111 rfl rfl ?_
          rw [h42]
          refine G_icmp_ne (K := mX3_step) (tgt := 189) dX3_step_114 (by decide) (fun c114 => ?_) (fun c114 => ?_)
          · skip
            have hbt : tB T L e = b := runE_eq 121 e b heb (by omega) hk hsp
            have hS : tS T L e = srt (byt T L b) := by unfold tS; rw [hbt]
            have hE : tE T L e = x := by
              unfold tE
              rw [hS, hbt]
              by_cases h3 : srt (byt T L b) = 3
              · rw [if_pos h3]
                have h1 := h3s h3
                have hxb : ¬ x = b := fun z => c114 (by rw [z])
                omega
              · rw [if_neg h3]
                refine runE_eq 121 b x hbx (by omega) hsk ?_
                unfold skP
                rw [decide_eq_false c114, Bool.and_false]
            have hV : tV T L e = v := by
              unfold tV
              rw [hS, hbt]
              by_cases h2 : srt (byt T L b) = 2
              · rw [if_pos h2, ← hv2 h2, show 121 - (x - b) = (120 - (x - b)) + 1 by omega]
                show (if srt (byt T L x) = 2 then _ else v) = v
                rw [if_neg (fun z => c114 (z.trans h2.symm))]
              · rw [if_neg h2, hv0 h2]
            exact G_vrm (K := mX3_step) dX3_step_189 rfl rfl (hQ M4 ⟨by rw [hS]; exact h42, by rw [hbt]; exact h43, by rw [hE]; exact h44, by rw [hV]; exact h45⟩ h4c)
          · skip
            refine G_aload_n (K := mX3_step) (i := 0) dX3_step_117 rfl rfl ?_
            refine G_geti (K := mX3_step) fX3_40 dX3_step_118 rfl rfl ?_
            rw [h42]
            refine G_iconst (K := mX3_step) (v := 3) dX3_step_121 (by decide) ?_
            refine G_icmp_ne (K := mX3_step) (tgt := 136) dX3_step_122 (by decide) (fun c122 => ?_) (fun c122 => ?_)
            · skip
              refine G_aload_n (K := mX3_step) (i := 0) dX3_step_136 rfl rfl ?_
              refine G_geti (K := mX3_step) fX3_40 dX3_step_137 rfl rfl ?_
              rw [h42]
              refine G_iconst (K := mX3_step) (v := 2) dX3_step_140 (by decide) ?_
              refine G_icmp_ne (K := mX3_step) (tgt := 176) dX3_step_141 (by decide) (fun c141 => ?_) (fun c141 => ?_)
              · skip
                refine G_aload_n (K := mX3_step) (i := 0) dX3_step_176 rfl rfl ?_
                refine G_dup (K := mX3_step) dX3_step_177 rfl ?_
                refine G_geti (K := mX3_step) fX3_29 dX3_step_178 rfl rfl ?_
                refine G_iconst (K := mX3_step) (v := 1) dX3_step_181 (by decide) ?_
                refine G_iadd (K := mX3_step) dX3_step_182 ?_
                refine G_puti (K := mX3_step) fX3_29 w3_4 dX3_step_183 rfl rfl ?_
                refine G_goto (K := mX3_step) (tgt := 82) dX3_step_186 (by decide) ?_
                have hsx : srt (byt T L x) = srt (byt T L b) := c114
                have hskx : skP (srt (byt T L b)) (byt T L x) = true := by
                  unfold skP
                  rw [decide_eq_true hsx, Bool.and_true]
                  refine decide_eq_true ?_
                  rw [byt_in (by omega)]
                  exact hH.2 x (by omega)
                refine xh (x + 1) (by omega) (by omega) (by omega) _ v (by rw [ups_ne (by omega)]; exact h42) (by rw [ups_ne (by omega)]; exact h43) (by rw [ups_same, h44, nI_1]) (by rw [ups_ne (by omega), h45]) (fun c hc => by rw [ups_cell hc]; exact h4c c hc) (fun k h1 h2 => ?_) (fun h => ?_) (fun h => hv0 h) (fun h => ?_)
                · by_cases hkx : k = x
                  · subst hkx; exact hskx
                  · exact hsk k h1 (by omega)
                · exact absurd h c122
                · exact absurd h c141
              · skip
                refine G_aload_n (K := mX3_step) (i := 0) dX3_step_144 rfl rfl ?_
                refine G_aload_n (K := mX3_step) (i := 0) dX3_step_145 rfl rfl ?_
                refine G_geti (K := mX3_step) fX3_95 dX3_step_146 rfl rfl ?_
                rw [h45]
                refine G_bipush (K := mX3_step) (v := 10) dX3_step_149 (by decide) ?_
                refine G_imul (K := mX3_step) dX3_step_151 ?_
                refine G_aload_n (K := mX3_step) (i := 0) dX3_step_152 rfl rfl ?_
                refine G_getr (K := mX3_step) fX3_12 dX3_step_153 rfl rfl ?_
                refine G_aload_n (K := mX3_step) (i := 0) dX3_step_156 rfl rfl ?_
                refine G_geti (K := mX3_step) fX3_29 dX3_step_157 rfl rfl ?_
                rw [h44]
                refine G_cv (K := mX3_step) (cl_byteAt (T := T) (L := L) (k := x) (M := M4) hT3 hH.1 (by omega) ⟨rfl, rfl⟩) vX2_byteAt rfl lX3_134 dX3_step_160 ⟨_, _, _, rfl, rfl, rfl⟩ (by decide) rfl (Nat.le_of_ble_eq_true rfl) ?_
                refine G_iadd (K := mX3_step) dX3_step_163 ?_
                refine G_bipush (K := mX3_step) (v := 48) dX3_step_164 (by decide) ?_
                refine G_isub (K := mX3_step) dX3_step_166 ?_
                refine G_sipush (K := mX3_step) (v := 10000) dX3_step_167 (by decide) ?_
                refine G_min (K := mX3_step) qX3_146 dX3_step_170 (by decide) (Nat.le_of_ble_eq_true rfl) ?_
                refine G_puti (K := mX3_step) fX3_95 w3_5 dX3_step_173 rfl rfl ?_
                refine G_aload_n (K := mX3_step) (i := 0) dX3_step_176 rfl rfl ?_
                refine G_dup (K := mX3_step) dX3_step_177 rfl ?_
                refine G_geti (K := mX3_step) fX3_29 dX3_step_178 rfl rfl ?_
                refine G_iconst (K := mX3_step) (v := 1) dX3_step_181 (by decide) ?_
                refine G_iadd (K := mX3_step) dX3_step_182 ?_
                refine G_puti (K := mX3_step) fX3_29 w3_4 dX3_step_183 rfl rfl ?_
                refine G_goto (K := mX3_step) (tgt := 82) dX3_step_186 (by decide) ?_
                have hsx : srt (byt T L x) = srt (byt T L b) := c114
                have hskx : skP (srt (byt T L b)) (byt T L x) = true := by
                  unfold skP
                  rw [decide_eq_true hsx, Bool.and_true]
                  refine decide_eq_true ?_
                  rw [byt_in (by omega)]
                  exact hH.2 x (by omega)
                refine xh (x + 1) (by omega) (by omega) (by omega) _ (minI (v * 10 + byt T L x - 48) 10000) (by rw [ups_ne (by omega), ups_ne (by omega)]; exact h42) (by rw [ups_ne (by omega), ups_ne (by omega)]; exact h43) (by rw [ups_same, ups_ne (by omega), h44, nI_1]) (by rw [ups_ne (by omega), ups_same]; rfl) (fun c hc => by rw [ups_cell hc, ups_cell hc]; exact h4c c hc) (fun k h1 h2 => ?_) (fun h => ?_) (fun h => absurd c141 h) (fun h => ?_)
                · by_cases hkx : k = x
                  · subst hkx; exact hskx
                  · exact hsk k h1 (by omega)
                · exact absurd (c141.symm.trans h) (by decide)
                · have e1 : 121 - (x - b) = (121 - (x + 1 - b)) + 1 := by omega
                  rw [← hv2 c141, e1]
                  show _ = (if srt (byt T L x) = 2 then valE T L (121 - (x + 1 - b)) (x + 1) (minI 10000 (10 * v + byt T L x - 48)) else v)
                  rw [if_pos (hsx.trans c141), minI_comm, Int32.mul_comm]
            · skip
              refine G_aload_n (K := mX3_step) (i := 0) dX3_step_125 rfl rfl ?_
              refine G_geti (K := mX3_step) fX3_29 dX3_step_126 rfl rfl ?_
              refine G_aload_n (K := mX3_step) (i := 0) dX3_step_129 rfl rfl ?_
              refine G_geti (K := mX3_step) fX3_43 dX3_step_130 rfl rfl ?_
              rw [h44, h43]
              refine G_icmp_ne (K := mX3_step) (tgt := 189) dX3_step_133 (by decide) (fun c133 => ?_) (fun c133 => ?_)
              · skip
                have hbt : tB T L e = b := runE_eq 121 e b heb (by omega) hk hsp
                have hS : tS T L e = srt (byt T L b) := by unfold tS; rw [hbt]
                have hE : tE T L e = x := by
                  unfold tE
                  rw [hS, hbt]
                  by_cases h3 : srt (byt T L b) = 3
                  · rw [if_pos h3]
                    have h1 := h3s h3
                    have hxb : ¬ x = b := fun z => c133 (by rw [z])
                    omega
                  · rw [if_neg h3]
                    exact absurd c122 h3
                have hV : tV T L e = v := by
                  unfold tV
                  rw [hS, hbt]
                  by_cases h2 : srt (byt T L b) = 2
                  · rw [if_pos h2, ← hv2 h2, show 121 - (x - b) = (120 - (x - b)) + 1 by omega]
                    exact absurd (c122.symm.trans h2) (by decide)
                  · rw [if_neg h2, hv0 h2]
                exact G_vrm (K := mX3_step) dX3_step_189 rfl rfl (hQ M4 ⟨by rw [hS]; exact h42, by rw [hbt]; exact h43, by rw [hE]; exact h44, by rw [hV]; exact h45⟩ h4c)
              · skip
                refine G_aload_n (K := mX3_step) (i := 0) dX3_step_136 rfl rfl ?_
                refine G_geti (K := mX3_step) fX3_40 dX3_step_137 rfl rfl ?_
                rw [h42]
                refine G_iconst (K := mX3_step) (v := 2) dX3_step_140 (by decide) ?_
                refine G_icmp_ne (K := mX3_step) (tgt := 176) dX3_step_141 (by decide) (fun c141 => ?_) (fun c141 => ?_)
                · skip
                  refine G_aload_n (K := mX3_step) (i := 0) dX3_step_176 rfl rfl ?_
                  refine G_dup (K := mX3_step) dX3_step_177 rfl ?_
                  refine G_geti (K := mX3_step) fX3_29 dX3_step_178 rfl rfl ?_
                  refine G_iconst (K := mX3_step) (v := 1) dX3_step_181 (by decide) ?_
                  refine G_iadd (K := mX3_step) dX3_step_182 ?_
                  refine G_puti (K := mX3_step) fX3_29 w3_4 dX3_step_183 rfl rfl ?_
                  refine G_goto (K := mX3_step) (tgt := 82) dX3_step_186 (by decide) ?_
                  have hsx : srt (byt T L x) = srt (byt T L b) := c114
                  have hskx : skP (srt (byt T L b)) (byt T L x) = true := by
                    unfold skP
                    rw [decide_eq_true hsx, Bool.and_true]
                    refine decide_eq_true ?_
                    rw [byt_in (by omega)]
                    exact hH.2 x (by omega)
                  refine xh (x + 1) (by omega) (by omega) (by omega) _ v (by rw [ups_ne (by omega)]; exact h42) (by rw [ups_ne (by omega)]; exact h43) (by rw [ups_same, h44, nI_1]) (by rw [ups_ne (by omega), h45]) (fun c hc => by rw [ups_cell hc]; exact h4c c hc) (fun k h1 h2 => ?_) (fun h => ?_) (fun h => hv0 h) (fun h => ?_)
                  · by_cases hkx : k = x
                    · subst hkx; exact hskx
                    · exact hsk k h1 (by omega)
                  · have hxb : x = b := (nI_eqI (by omega) (by omega)).mp c133
                    omega
                  · exact absurd h c141
                · skip
                  refine G_aload_n (K := mX3_step) (i := 0) dX3_step_144 rfl rfl ?_
                  refine G_aload_n (K := mX3_step) (i := 0) dX3_step_145 rfl rfl ?_
                  refine G_geti (K := mX3_step) fX3_95 dX3_step_146 rfl rfl ?_
                  rw [h45]
                  refine G_bipush (K := mX3_step) (v := 10) dX3_step_149 (by decide) ?_
                  refine G_imul (K := mX3_step) dX3_step_151 ?_
                  refine G_aload_n (K := mX3_step) (i := 0) dX3_step_152 rfl rfl ?_
                  refine G_getr (K := mX3_step) fX3_12 dX3_step_153 rfl rfl ?_
                  refine G_aload_n (K := mX3_step) (i := 0) dX3_step_156 rfl rfl ?_
                  refine G_geti (K := mX3_step) fX3_29 dX3_step_157 rfl rfl ?_
                  rw [h44]
                  refine G_cv (K := mX3_step) (cl_byteAt (T := T) (L := L) (k := x) (M := M4) hT3 hH.1 (by omega) ⟨rfl, rfl⟩) vX2_byteAt rfl lX3_134 dX3_step_160 ⟨_, _, _, rfl, rfl, rfl⟩ (by decide) rfl (Nat.le_of_ble_eq_true rfl) ?_
                  refine G_iadd (K := mX3_step) dX3_step_163 ?_
                  refine G_bipush (K := mX3_step) (v := 48) dX3_step_164 (by decide) ?_
                  refine G_isub (K := mX3_step) dX3_step_166 ?_
                  refine G_sipush (K := mX3_step) (v := 10000) dX3_step_167 (by decide) ?_
                  refine G_min (K := mX3_step) qX3_146 dX3_step_170 (by decide) (Nat.le_of_ble_eq_true rfl) ?_
                  refine G_puti (K := mX3_step) fX3_95 w3_5 dX3_step_173 rfl rfl ?_
                  refine G_aload_n (K := mX3_step) (i := 0) dX3_step_176 rfl rfl ?_
                  refine G_dup (K := mX3_step) dX3_step_177 rfl ?_
                  refine G_geti (K := mX3_step) fX3_29 dX3_step_178 rfl rfl ?_
                  refine G_iconst (K := mX3_step) (v := 1) dX3_step_181 (by decide) ?_
                  refine G_iadd (K := mX3_step) dX3_step_182 ?_
                  refine G_puti (K := mX3_step) fX3_29 w3_4 dX3_step_183 rfl rfl ?_
                  refine G_goto (K := mX3_step) (tgt := 82) dX3_step_186 (by decide) ?_
                  have hsx : srt (byt T L x) = srt (byt T L b) := c114
                  have hskx : skP (srt (byt T L b)) (byt T L x) = true := by
                    unfold skP
                    rw [decide_eq_true hsx, Bool.and_true]
                    refine decide_eq_true ?_
                    rw [byt_in (by omega)]
                    exact hH.2 x (by omega)
                  refine xh (x + 1) (by omega) (by omega) (by omega) _ (minI (v * 10 + byt T L x - 48) 10000) (by rw [ups_ne (by omega), ups_ne (by omega)]; exact h42) (by rw [ups_ne (by omega), ups_ne (by omega)]; exact h43) (by rw [ups_same, ups_ne (by omega), h44, nI_1]) (by rw [ups_ne (by omega), ups_same]; rfl) (fun c hc => by rw [ups_cell hc, ups_cell hc]; exact h4c c hc) (fun k h1 h2 => ?_) (fun h => ?_) (fun h => absurd c141 h) (fun h => ?_)
                  · by_cases hkx : k = x
                    · subst hkx; exact hskx
                    · exact hsk k h1 (by omega)
                  · exact absurd (c141.symm.trans h) (by decide)
                  · have e1 : 121 - (x - b) = (121 - (x + 1 - b)) + 1 := by omega
                    rw [← hv2 c141, e1]
                    show _ = (if srt (byt T L x) = 2 then valE T L (121 - (x + 1 - b)) (x + 1) (minI 10000 (10 * v + byt T L x - 48)) else v)
                    rw [if_pos (hsx.trans c141), minI_comm, Int32.mul_comm]
      have hbt : tB T L e = b := runE_eq 121 e b heb (by omega) hk hsp
      exact loop82 b (by omega) (by omega) _ 0 (by rw [ups_ne (by omega), ups_ne (by omega), ups_same]) (by rw [ups_ne (by omega), ups_ne (by omega), ups_ne (by omega)]; exact h33) (by rw [ups_ne (by omega), ups_same, ups_ne (by omega)]; exact h33) (by rw [ups_same]) (fun c hc => by rw [ups_cell hc, ups_cell hc, ups_cell hc]; exact h3c c hc) (fun k h1 h2 => absurd h1 (by omega)) (fun _ => by omega) (fun _ => rfl) (fun _ => by rw [Nat.sub_self])
    · skip
      rw [le_nn (by omega) (by omega)] at c19
      refine G_aload_n (K := mX3_step) (i := 0) dX3_step_22 rfl rfl ?_
      refine G_getr (K := mX3_step) fX3_12 dX3_step_23 rfl rfl ?_
      refine G_aload_n (K := mX3_step) (i := 0) dX3_step_26 rfl rfl ?_
      refine G_geti (K := mX3_step) fX3_43 dX3_step_27 rfl rfl ?_
      rw [h33]
      refine G_cv (K := mX3_step) (cl_byteAt (T := T) (L := L) (k := b) (M := M3) hT3 hH.1 (by omega) ⟨rfl, rfl⟩) vX2_byteAt rfl lX3_134 dX3_step_30 ⟨_, _, _, rfl, rfl, rfl⟩ (by decide) rfl (Nat.le_of_ble_eq_true rfl) ?_
      refine G_bipush (K := mX3_step) (v := 32) dX3_step_33 (by decide) ?_
      refine G_icmp_ne (K := mX3_step) (tgt := 51) dX3_step_35 (by decide) (fun c35 => ?_) (fun c35 => ?_)
      · skip
        have hsp : spP (byt T L b) = false := decide_eq_false c35
        refine G_aload_n (K := mX3_step) (i := 0) dX3_step_51 rfl rfl ?_
        refine G_aload_n (K := mX3_step) (i := 0) dX3_step_52 rfl rfl ?_
        refine G_getr (K := mX3_step) fX3_12 dX3_step_53 rfl rfl ?_
        refine G_aload_n (K := mX3_step) (i := 0) dX3_step_56 rfl rfl ?_
        refine G_geti (K := mX3_step) fX3_43 dX3_step_57 rfl rfl ?_
        rw [h33]
        refine G_cv (K := mX3_step) (cl_byteAt (T := T) (L := L) (k := b) (M := M3) hT3 hH.1 (by omega) ⟨rfl, rfl⟩) vX2_byteAt rfl lX3_134 dX3_step_60 ⟨_, _, _, rfl, rfl, rfl⟩ (by decide) rfl (Nat.le_of_ble_eq_true rfl) ?_
        refine G_sv (K := mX3_step) (cl_tokenBegunBy (M := M3) (x := (byt T L b)) ⟨rfl, rfl⟩) sX3_tokenBegunBy rfl lX3_143 dX3_step_63 (by decide) rfl (Nat.le_of_ble_eq_true rfl) ?_
        refine G_puti (K := mX3_step) fX3_40 w3_2 dX3_step_66 rfl rfl ?_
        refine G_aload_n (K := mX3_step) (i := 0) dX3_step_69 rfl rfl ?_
        refine G_aload_n (K := mX3_step) (i := 0) dX3_step_70 rfl rfl ?_
        refine G_geti (K := mX3_step) fX3_43 dX3_step_71 rfl rfl ?_
        refine G_puti (K := mX3_step) fX3_29 w3_4 dX3_step_74 rfl rfl ?_
        refine G_aload_n (K := mX3_step) (i := 0) dX3_step_77 rfl rfl ?_
        refine G_iconst (K := mX3_step) (v := 0) dX3_step_78 (by decide) ?_
        refine G_puti (K := mX3_step) fX3_95 w3_5 dX3_step_79 rfl rfl ?_
        have loop82 : ∀ x, x ≤ L → b ≤ x → ∀ (M4 : Mem) (v : Int32), M4 45 2 = srt (byt T L b) → M4 45 3 = nI b → M4 45 4 = nI x → M4 45 5 = v → (∀ c, c ≠ 45 → M4 c = M c) → (∀ k, b ≤ k → k < x → skP (srt (byt T L b)) (byt T L k) = true) → (srt (byt T L b) = 3 → x ≤ b + 1) → (¬ srt (byt T L b) = 2 → v = 0) → (srt (byt T L b) = 2 → valE T L (121 - (x - b)) x v = valE T L 121 b 0) → G mX3_step shC 1 Q 82 [some (.ref 45)] [] M4 := by
          refine upto L (fun x hx xh => ?_)
          intro hbx M4 v h42 h43 h44 h45 h4c hsk h3s hv0 hv2
          have hT3 : TP T L M4 := ⟨fun k hk => by rw [h4c 47 (by decide)]; exact hT.1 k hk, by rw [h4c 46 (by decide)]; exact hT.2⟩
          refine G_aload_n (K := mX3_step) (i := 0) dX3_step_82 rfl rfl ?_
          refine G_geti (K := mX3_step) fX3_29 dX3_step_83 rfl rfl ?_
          refine G_aload_n (K := mX3_step) (i := 0) dX3_step_86 rfl rfl ?_
          refine G_getr (K := mX3_step) fX3_12 dX3_step_87 rfl rfl ?_
          refine G_geti (K := mX3_step) fX3_141 dX3_step_90 rfl rfl ?_
          rw [h44, hT3.2]
          refine G_icmp_ge (K := mX3_step) (tgt := 189) dX3_step_93 (by decide) (fun c93 => ?_) (fun c93 => ?_)
          · skip
            rw [le_nn (by omega) (by omega)] at c93
            have hxL : x = L := by omega
            have hbt : tB T L e = b := runE_eq 121 e b heb (by omega) hk hsp
            have hS : tS T L e = srt (byt T L b) := by unfold tS; rw [hbt]
            have hE : tE T L e = x := by
              unfold tE
              rw [hS, hbt]
              by_cases h3 : srt (byt T L b) = 3
              · rw [if_pos h3]
                have h1 := h3s h3
                have hbL : b < L := by
                  rcases Nat.lt_or_ge b L with q | q
                  · exact q
                  · rw [byt_out q] at h3; exact absurd h3 (by decide)
                omega
              · rw [if_neg h3]
                exact runE_eq 121 b x hbx (by omega) hsk (by rw [byt_out (k := x) (by omega)]; exact skP_m1 _)
            have hV : tV T L e = v := by
              unfold tV
              rw [hS, hbt]
              by_cases h2 : srt (byt T L b) = 2
              · rw [if_pos h2, ← hv2 h2, show 121 - (x - b) = (120 - (x - b)) + 1 by omega]
                show (if srt (byt T L x) = 2 then _ else v) = v
                rw [if_neg (by rw [byt_out (k := x) (by omega)]; decide)]
              · rw [if_neg h2, hv0 h2]
            exact G_vrm (K := mX3_step) dX3_step_189 rfl rfl (hQ M4 ⟨by rw [hS]; exact h42, by rw [hbt]; exact h43, by rw [hE]; exact h44, by rw [hV]; exact h45⟩ h4c)
          · skip
            rw [le_nn (by omega) (by omega)] at c93
            refine G_aload_n (K := mX3_step) (i := 0) dX3_step_96 rfl rfl ?_
            refine G_getr (K := mX3_step) fX3_12 dX3_step_97 rfl rfl ?_
            refine G_aload_n (K := mX3_step) (i := 0) dX3_step_100 rfl rfl ?_
            refine G_geti (K := mX3_step) fX3_29 dX3_step_101 rfl rfl ?_
            rw [h44]
            refine G_cv (K := mX3_step) (cl_byteAt (T := T) (L := L) (k := x) (M := M4) hT3 hH.1 (by omega) ⟨rfl, rfl⟩) vX2_byteAt rfl lX3_134 dX3_step_104 ⟨_, _, _, rfl, rfl, rfl⟩ (by decide) rfl (Nat.le_of_ble_eq_true rfl) ?_
            refine G_sv (K := mX3_step) (cl_tokenBegunBy (M := M4) (x := (byt T L x)) ⟨rfl, rfl⟩) sX3_tokenBegunBy rfl lX3_143 dX3_step_107 (by decide) rfl (Nat.le_of_ble_eq_true rfl) ?_
            refine G_aload_n (K := mX3_step) (i := 0) dX3_step_110 rfl rfl ?_
            refine G_geti (K := mX3_step) fX3_40 dX3_step_111 rfl rfl ?_
            rw [h42]
            refine G_icmp_ne (K := mX3_step) (tgt := 189) dX3_step_114 (by decide) (fun c114 => ?_) (fun c114 => ?_)
            · skip
              have hbt : tB T L e = b := runE_eq 121 e b heb (by omega) hk hsp
              have hS : tS T L e = srt (byt T L b) := by unfold tS; rw [hbt]
              have hE : tE T L e = x := by
                unfold tE
                rw [hS, hbt]
                by_cases h3 : srt (byt T L b) = 3
                · rw [if_pos h3]
                  have h1 := h3s h3
                  have hxb : ¬ x = b := fun z => c114 (by rw [z])
                  omega
                · rw [if_neg h3]
                  refine runE_eq 121 b x hbx (by omega) hsk ?_
                  unfold skP
                  rw [decide_eq_false c114, Bool.and_false]
              have hV : tV T L e = v := by
                unfold tV
                rw [hS, hbt]
                by_cases h2 : srt (byt T L b) = 2
                · rw [if_pos h2, ← hv2 h2, show 121 - (x - b) = (120 - (x - b)) + 1 by omega]
                  show (if srt (byt T L x) = 2 then _ else v) = v
                  rw [if_neg (fun z => c114 (z.trans h2.symm))]
                · rw [if_neg h2, hv0 h2]
              exact G_vrm (K := mX3_step) dX3_step_189 rfl rfl (hQ M4 ⟨by rw [hS]; exact h42, by rw [hbt]; exact h43, by rw [hE]; exact h44, by rw [hV]; exact h45⟩ h4c)
            · skip
              refine G_aload_n (K := mX3_step) (i := 0) dX3_step_117 rfl rfl ?_
              refine G_geti (K := mX3_step) fX3_40 dX3_step_118 rfl rfl ?_
              rw [h42]
              refine G_iconst (K := mX3_step) (v := 3) dX3_step_121 (by decide) ?_
              refine G_icmp_ne (K := mX3_step) (tgt := 136) dX3_step_122 (by decide) (fun c122 => ?_) (fun c122 => ?_)
              · skip
                refine G_aload_n (K := mX3_step) (i := 0) dX3_step_136 rfl rfl ?_
                refine G_geti (K := mX3_step) fX3_40 dX3_step_137 rfl rfl ?_
                rw [h42]
                refine G_iconst (K := mX3_step) (v := 2) dX3_step_140 (by decide) ?_
                refine G_icmp_ne (K := mX3_step) (tgt := 176) dX3_step_141 (by decide) (fun c141 => ?_) (fun c141 => ?_)
                · skip
                  refine G_aload_n (K := mX3_step) (i := 0) dX3_step_176 rfl rfl ?_
                  refine G_dup (K := mX3_step) dX3_step_177 rfl ?_
                  refine G_geti (K := mX3_step) fX3_29 dX3_step_178 rfl rfl ?_
                  refine G_iconst (K := mX3_step) (v := 1) dX3_step_181 (by decide) ?_
                  refine G_iadd (K := mX3_step) dX3_step_182 ?_
                  refine G_puti (K := mX3_step) fX3_29 w3_4 dX3_step_183 rfl rfl ?_
                  refine G_goto (K := mX3_step) (tgt := 82) dX3_step_186 (by decide) ?_
                  have hsx : srt (byt T L x) = srt (byt T L b) := c114
                  have hskx : skP (srt (byt T L b)) (byt T L x) = true := by
                    unfold skP
                    rw [decide_eq_true hsx, Bool.and_true]
                    refine decide_eq_true ?_
                    rw [byt_in (by omega)]
                    exact hH.2 x (by omega)
                  refine xh (x + 1) (by omega) (by omega) (by omega) _ v (by rw [ups_ne (by omega)]; exact h42) (by rw [ups_ne (by omega)]; exact h43) (by rw [ups_same, h44, nI_1]) (by rw [ups_ne (by omega), h45]) (fun c hc => by rw [ups_cell hc]; exact h4c c hc) (fun k h1 h2 => ?_) (fun h => ?_) (fun h => hv0 h) (fun h => ?_)
                  · by_cases hkx : k = x
                    · subst hkx; exact hskx
                    · exact hsk k h1 (by omega)
                  · exact absurd h c122
                  · exact absurd h c141
                · skip
                  refine G_aload_n (K := mX3_step) (i := 0) dX3_step_144 rfl rfl ?_
                  refine G_aload_n (K := mX3_step) (i := 0) dX3_step_145 rfl rfl ?_
                  refine G_geti (K := mX3_step) fX3_95 dX3_step_146 rfl rfl ?_
                  rw [h45]
                  refine G_bipush (K := mX3_step) (v := 10) dX3_step_149 (by decide) ?_
                  refine G_imul (K := mX3_step) dX3_step_151 ?_
                  refine G_aload_n (K := mX3_step) (i := 0) dX3_step_152 rfl rfl ?_
                  refine G_getr (K := mX3_step) fX3_12 dX3_step_153 rfl rfl ?_
                  refine G_aload_n (K := mX3_step) (i := 0) dX3_step_156 rfl rfl ?_
                  refine G_geti (K := mX3_step) fX3_29 dX3_step_157 rfl rfl ?_
                  rw [h44]
                  refine G_cv (K := mX3_step) (cl_byteAt (T := T) (L := L) (k := x) (M := M4) hT3 hH.1 (by omega) ⟨rfl, rfl⟩) vX2_byteAt rfl lX3_134 dX3_step_160 ⟨_, _, _, rfl, rfl, rfl⟩ (by decide) rfl (Nat.le_of_ble_eq_true rfl) ?_
                  refine G_iadd (K := mX3_step) dX3_step_163 ?_
                  refine G_bipush (K := mX3_step) (v := 48) dX3_step_164 (by decide) ?_
                  refine G_isub (K := mX3_step) dX3_step_166 ?_
                  refine G_sipush (K := mX3_step) (v := 10000) dX3_step_167 (by decide) ?_
                  refine G_min (K := mX3_step) qX3_146 dX3_step_170 (by decide) (Nat.le_of_ble_eq_true rfl) ?_
                  refine G_puti (K := mX3_step) fX3_95 w3_5 dX3_step_173 rfl rfl ?_
                  refine G_aload_n (K := mX3_step) (i := 0) dX3_step_176 rfl rfl ?_
                  refine G_dup (K := mX3_step) dX3_step_177 rfl ?_
                  refine G_geti (K := mX3_step) fX3_29 dX3_step_178 rfl rfl ?_
                  refine G_iconst (K := mX3_step) (v := 1) dX3_step_181 (by decide) ?_
                  refine G_iadd (K := mX3_step) dX3_step_182 ?_
                  refine G_puti (K := mX3_step) fX3_29 w3_4 dX3_step_183 rfl rfl ?_
                  refine G_goto (K := mX3_step) (tgt := 82) dX3_step_186 (by decide) ?_
                  have hsx : srt (byt T L x) = srt (byt T L b) := c114
                  have hskx : skP (srt (byt T L b)) (byt T L x) = true := by
                    unfold skP
                    rw [decide_eq_true hsx, Bool.and_true]
                    refine decide_eq_true ?_
                    rw [byt_in (by omega)]
                    exact hH.2 x (by omega)
                  refine xh (x + 1) (by omega) (by omega) (by omega) _ (minI (v * 10 + byt T L x - 48) 10000) (by rw [ups_ne (by omega), ups_ne (by omega)]; exact h42) (by rw [ups_ne (by omega), ups_ne (by omega)]; exact h43) (by rw [ups_same, ups_ne (by omega), h44, nI_1]) (by rw [ups_ne (by omega), ups_same]; rfl) (fun c hc => by rw [ups_cell hc, ups_cell hc]; exact h4c c hc) (fun k h1 h2 => ?_) (fun h => ?_) (fun h => absurd c141 h) (fun h => ?_)
                  · by_cases hkx : k = x
                    · subst hkx; exact hskx
                    · exact hsk k h1 (by omega)
                  · exact absurd (c141.symm.trans h) (by decide)
                  · have e1 : 121 - (x - b) = (121 - (x + 1 - b)) + 1 := by omega
                    rw [← hv2 c141, e1]
                    show _ = (if srt (byt T L x) = 2 then valE T L (121 - (x + 1 - b)) (x + 1) (minI 10000 (10 * v + byt T L x - 48)) else v)
                    rw [if_pos (hsx.trans c141), minI_comm, Int32.mul_comm]
              · skip
                refine G_aload_n (K := mX3_step) (i := 0) dX3_step_125 rfl rfl ?_
                refine G_geti (K := mX3_step) fX3_29 dX3_step_126 rfl rfl ?_
                refine G_aload_n (K := mX3_step) (i := 0) dX3_step_129 rfl rfl ?_
                refine G_geti (K := mX3_step) fX3_43 dX3_step_130 rfl rfl ?_
                rw [h44, h43]
                refine G_icmp_ne (K := mX3_step) (tgt := 189) dX3_step_133 (by decide) (fun c133 => ?_) (fun c133 => ?_)
                · skip
                  have hbt : tB T L e = b := runE_eq 121 e b heb (by omega) hk hsp
                  have hS : tS T L e = srt (byt T L b) := by unfold tS; rw [hbt]
                  have hE : tE T L e = x := by
                    unfold tE
                    rw [hS, hbt]
                    by_cases h3 : srt (byt T L b) = 3
                    · rw [if_pos h3]
                      have h1 := h3s h3
                      have hxb : ¬ x = b := fun z => c133 (by rw [z])
                      omega
                    · rw [if_neg h3]
                      exact absurd c122 h3
                  have hV : tV T L e = v := by
                    unfold tV
                    rw [hS, hbt]
                    by_cases h2 : srt (byt T L b) = 2
                    · rw [if_pos h2, ← hv2 h2, show 121 - (x - b) = (120 - (x - b)) + 1 by omega]
                      exact absurd (c122.symm.trans h2) (by decide)
                    · rw [if_neg h2, hv0 h2]
                  exact G_vrm (K := mX3_step) dX3_step_189 rfl rfl (hQ M4 ⟨by rw [hS]; exact h42, by rw [hbt]; exact h43, by rw [hE]; exact h44, by rw [hV]; exact h45⟩ h4c)
                · skip
                  refine G_aload_n (K := mX3_step) (i := 0) dX3_step_136 rfl rfl ?_
                  refine G_geti (K := mX3_step) fX3_40 dX3_step_137 rfl rfl ?_
                  rw [h42]
                  refine G_iconst (K := mX3_step) (v := 2) dX3_step_140 (by decide) ?_
                  refine G_icmp_ne (K := mX3_step) (tgt := 176) dX3_step_141 (by decide) (fun c141 => ?_) (fun c141 => ?_)
                  · skip
                    refine G_aload_n (K := mX3_step) (i := 0) dX3_step_176 rfl rfl ?_
                    refine G_dup (K := mX3_step) dX3_step_177 rfl ?_
                    refine G_geti (K := mX3_step) fX3_29 dX3_step_178 rfl rfl ?_
                    refine G_iconst (K := mX3_step) (v := 1) dX3_step_181 (by decide) ?_
                    refine G_iadd (K := mX3_step) dX3_step_182 ?_
                    refine G_puti (K := mX3_step) fX3_29 w3_4 dX3_step_183 rfl rfl ?_
                    refine G_goto (K := mX3_step) (tgt := 82) dX3_step_186 (by decide) ?_
                    have hsx : srt (byt T L x) = srt (byt T L b) := c114
                    have hskx : skP (srt (byt T L b)) (byt T L x) = true := by
                      unfold skP
                      rw [decide_eq_true hsx, Bool.and_true]
                      refine decide_eq_true ?_
                      rw [byt_in (by omega)]
                      exact hH.2 x (by omega)
                    refine xh (x + 1) (by omega) (by omega) (by omega) _ v (by rw [ups_ne (by omega)]; exact h42) (by rw [ups_ne (by omega)]; exact h43) (by rw [ups_same, h44, nI_1]) (by rw [ups_ne (by omega), h45]) (fun c hc => by rw [ups_cell hc]; exact h4c c hc) (fun k h1 h2 => ?_) (fun h => ?_) (fun h => hv0 h) (fun h => ?_)
                    · by_cases hkx : k = x
                      · subst hkx; exact hskx
                      · exact hsk k h1 (by omega)
                    · have hxb : x = b := (nI_eqI (by omega) (by omega)).mp c133
                      omega
                    · exact absurd h c141
                  · skip
                    refine G_aload_n (K := mX3_step) (i := 0) dX3_step_144 rfl rfl ?_
                    refine G_aload_n (K := mX3_step) (i := 0) dX3_step_145 rfl rfl ?_
                    refine G_geti (K := mX3_step) fX3_95 dX3_step_146 rfl rfl ?_
                    rw [h45]
                    refine G_bipush (K := mX3_step) (v := 10) dX3_step_149 (by decide) ?_
                    refine G_imul (K := mX3_step) dX3_step_151 ?_
                    refine G_aload_n (K := mX3_step) (i := 0) dX3_step_152 rfl rfl ?_
                    refine G_getr (K := mX3_step) fX3_12 dX3_step_153 rfl rfl ?_
                    refine G_aload_n (K := mX3_step) (i := 0) dX3_step_156 rfl rfl ?_
                    refine G_geti (K := mX3_step) fX3_29 dX3_step_157 rfl rfl ?_
                    rw [h44]
                    refine G_cv (K := mX3_step) (cl_byteAt (T := T) (L := L) (k := x) (M := M4) hT3 hH.1 (by omega) ⟨rfl, rfl⟩) vX2_byteAt rfl lX3_134 dX3_step_160 ⟨_, _, _, rfl, rfl, rfl⟩ (by decide) rfl (Nat.le_of_ble_eq_true rfl) ?_
                    refine G_iadd (K := mX3_step) dX3_step_163 ?_
                    refine G_bipush (K := mX3_step) (v := 48) dX3_step_164 (by decide) ?_
                    refine G_isub (K := mX3_step) dX3_step_166 ?_
                    refine G_sipush (K := mX3_step) (v := 10000) dX3_step_167 (by decide) ?_
                    refine G_min (K := mX3_step) qX3_146 dX3_step_170 (by decide) (Nat.le_of_ble_eq_true rfl) ?_
                    refine G_puti (K := mX3_step) fX3_95 w3_5 dX3_step_173 rfl rfl ?_
                    refine G_aload_n (K := mX3_step) (i := 0) dX3_step_176 rfl rfl ?_
                    refine G_dup (K := mX3_step) dX3_step_177 rfl ?_
                    refine G_geti (K := mX3_step) fX3_29 dX3_step_178 rfl rfl ?_
                    refine G_iconst (K := mX3_step) (v := 1) dX3_step_181 (by decide) ?_
                    refine G_iadd (K := mX3_step) dX3_step_182 ?_
                    refine G_puti (K := mX3_step) fX3_29 w3_4 dX3_step_183 rfl rfl ?_
                    refine G_goto (K := mX3_step) (tgt := 82) dX3_step_186 (by decide) ?_
                    have hsx : srt (byt T L x) = srt (byt T L b) := c114
                    have hskx : skP (srt (byt T L b)) (byt T L x) = true := by
                      unfold skP
                      rw [decide_eq_true hsx, Bool.and_true]
                      refine decide_eq_true ?_
                      rw [byt_in (by omega)]
                      exact hH.2 x (by omega)
                    refine xh (x + 1) (by omega) (by omega) (by omega) _ (minI (v * 10 + byt T L x - 48) 10000) (by rw [ups_ne (by omega), ups_ne (by omega)]; exact h42) (by rw [ups_ne (by omega), ups_ne (by omega)]; exact h43) (by rw [ups_same, ups_ne (by omega), h44, nI_1]) (by rw [ups_ne (by omega), ups_same]; rfl) (fun c hc => by rw [ups_cell hc, ups_cell hc]; exact h4c c hc) (fun k h1 h2 => ?_) (fun h => ?_) (fun h => absurd c141 h) (fun h => ?_)
                    · by_cases hkx : k = x
                      · subst hkx; exact hskx
                      · exact hsk k h1 (by omega)
                    · exact absurd (c141.symm.trans h) (by decide)
                    · have e1 : 121 - (x - b) = (121 - (x + 1 - b)) + 1 := by omega
                      rw [← hv2 c141, e1]
                      show _ = (if srt (byt T L x) = 2 then valE T L (121 - (x + 1 - b)) (x + 1) (minI 10000 (10 * v + byt T L x - 48)) else v)
                      rw [if_pos (hsx.trans c141), minI_comm, Int32.mul_comm]
        have hbt : tB T L e = b := runE_eq 121 e b heb (by omega) hk hsp
        exact loop82 b (by omega) (by omega) _ 0 (by rw [ups_ne (by omega), ups_ne (by omega), ups_same]) (by rw [ups_ne (by omega), ups_ne (by omega), ups_ne (by omega)]; exact h33) (by rw [ups_ne (by omega), ups_same, ups_ne (by omega)]; exact h33) (by rw [ups_same]) (fun c hc => by rw [ups_cell hc, ups_cell hc, ups_cell hc]; exact h3c c hc) (fun k h1 h2 => absurd h1 (by omega)) (fun _ => by omega) (fun _ => rfl) (fun _ => by rw [Nat.sub_self])
      · skip
        have hsp : spP (byt T L b) = true := decide_eq_true c35
        refine G_aload_n (K := mX3_step) (i := 0) dX3_step_38 rfl rfl ?_
        refine G_dup (K := mX3_step) dX3_step_39 rfl ?_
        refine G_geti (K := mX3_step) fX3_43 dX3_step_40 rfl rfl ?_
        refine G_iconst (K := mX3_step) (v := 1) dX3_step_43 (by decide) ?_
        rw [h33]
        refine G_iadd (K := mX3_step) dX3_step_44 ?_
        refine G_puti (K := mX3_step) fX3_43 w3_3 dX3_step_45 rfl rfl ?_
        refine G_goto (K := mX3_step) (tgt := 8) dX3_step_48 (by decide) ?_
        exact ih (b + 1) (by omega) (by omega) (by omega) _ (by rw [ups_same, nI_1]) (fun c hc => by rw [ups_cell hc]; exact h3c c hc) (fun k h1 h2 => by
            by_cases h : k = b
            · subst h; exact hsp
            · exact hk k h1 (by omega))
  exact loop8 e hel (by omega) _ (by rw [ups_same]; exact he) (fun c hc => ups_cell hc) (fun k h1 h2 => absurd h1 (by omega))

