theorem max_no {d : Int32} (hd : 0 ≤ d.toInt) : maxI 0 (0 - d) = 0 := by
  unfold maxI
  refine if_neg (fun h => ?_)
  rw [i32_lt] at h
  have e0 : (0 : Int32).toInt = 0 := rfl
  have hl := Int32.toInt_lt d
  rw [sub_I (by rw [e0]; omega) (by rw [e0]; omega), e0] at h
  omega
set_option maxRecDepth 20000 in
theorem c_X5_fits {M : Mem} {n : Nat} {set : Int32} (hn : M 1 2 = nI n) (hn8 : n ≤ 8) (hd : ∀ q, q < n → 0 ≤ (toH (M 1) 7 q).toInt) {Q : Option Value → Mem → Prop} (hQ : ∀ M2 : Mem, (∀ c, c ≠ 7 → M2 c = M c) → Q (some (.int (bI (allCold (toH (M 1)) n set)))) M2) : CT mX5_fits shR 3 [.ref 0, .int set] M Q := by
  refine CT.mk [some (.ref 0), some (.int set), none, none] (by decide) (Nat.le_of_ble_eq_true rfl) rfl rfl ?_
  refine G_iconst (K := mX5_fits) (v := 0) dX5_fits_0 (by decide) ?_
  refine G_istore_n (K := mX5_fits) (i := 2) dX5_fits_1 rfl (by decide) ?_
  have loop2 : ∀ i, i ≤ n → ∀ (M3 : Mem), (∀ c, c ≠ 7 → M3 c = M c) → (∀ q, q < i → M3 7 q = if (set >>> (nI q &&& 31)) &&& 1 = 0 then 1 else 0) → G mX5_fits shR 3 Q 2 [some (.ref 0), some (.int set), some (.int (nI i)), none] [] M3 := by
    refine upto n (fun i hi ih => ?_)
    intro M3 h3c h7
    have hT3 : M3 1 = M 1 := h3c 1 (by decide)
    have hn3 : M3 1 2 = nI n := by rw [hT3]; exact hn
    refine G_iload_n (K := mX5_fits) (i := 2) dX5_fits_2 rfl rfl ?_
    refine G_aload_n (K := mX5_fits) (i := 0) dX5_fits_3 rfl rfl ?_
    refine G_getr (K := mX5_fits) fX5_9 dX5_fits_4 rfl rfl ?_
    refine G_iconst (K := mX5_fits) (v := 2) dX5_fits_7 (by decide) ?_
    refine G_ld (K := mX5_fits) 2 dX5_fits_8 rfl rfl (by omega) (by decide) ?_
    refine G_icmp_ge (K := mX5_fits) (tgt := 37) dX5_fits_9 (by decide) (fun c9 => ?_) (fun c9 => ?_)
    · skip
      rw [hn3, le_nn (by omega) (by omega)] at c9
      have hin : i = n := by omega
      have hg : ∀ y, y < n → sumN (takeR M3 y) n = sumN (coldBy (toH (M 1)) set (nI y)) n := fun y hy => sumN_congr n (fun q hq => by
        unfold takeR coldBy
        rw [hT3, h7 q (by omega)]
        by_cases h1 : toH (M 1) 5 q = nI y
        · rw [if_pos h1]
          by_cases h2 : (set >>> (nI q &&& 31)) &&& 1 = 0
          · rw [if_pos h2, if_pos ⟨h1, h2⟩]
          · rw [if_neg h2, if_neg (fun z => h2 z.2)]
            exact max_no (hd q hq)
        · rw [if_neg h1, if_neg (fun z => h1 z.1)])
      refine G_iconst (K := mX5_fits) (v := 1) dX5_fits_37 (by decide) ?_
      refine G_istore_n (K := mX5_fits) (i := 2) dX5_fits_38 rfl (by decide) ?_
      refine G_iconst (K := mX5_fits) (v := 0) dX5_fits_39 (by decide) ?_
      refine G_istore_n (K := mX5_fits) (i := 3) dX5_fits_40 rfl (by decide) ?_
      have loop41 : ∀ y, y ≤ n → ∀ b : Int32, b = bI (allB (fun r => decide (toH (M 1) 8 r = sumN (coldBy (toH (M 1)) set (nI r)) n)) y) → G mX5_fits shR 3 Q 41 [some (.ref 0), some (.int set), some (.int b), some (.int (nI y))] [] M3 := by
        refine upto n (fun y hy yh => ?_)
        intro b hb
        refine G_iload_n (K := mX5_fits) (i := 3) dX5_fits_41 rfl rfl ?_
        refine G_aload_n (K := mX5_fits) (i := 0) dX5_fits_42 rfl rfl ?_
        refine G_getr (K := mX5_fits) fX5_9 dX5_fits_43 rfl rfl ?_
        refine G_iconst (K := mX5_fits) (v := 2) dX5_fits_46 (by decide) ?_
        refine G_ld (K := mX5_fits) 2 dX5_fits_47 rfl rfl (by omega) (by decide) ?_
        refine G_icmp_ge (K := mX5_fits) (tgt := 82) dX5_fits_48 (by decide) (fun c48 => ?_) (fun c48 => ?_)
        · skip
          rw [hn3, le_nn (by omega) (by omega)] at c48
          have hyn : y = n := by omega
          refine G_iload_n (K := mX5_fits) (i := 2) dX5_fits_82 rfl rfl ?_
          subst hb
          rw [hyn]
          exact G_zrm (K := mX5_fits) dX5_fits_83 rfl (by cases (allB (fun r => decide (toH (M 1) 8 r = sumN (coldBy (toH (M 1)) set (nI r)) n)) n) <;> rfl) rfl rfl (hQ M3 h3c)
        · skip
          rw [hn3, le_nn (by omega) (by omega)] at c48
          refine G_iload_n (K := mX5_fits) (i := 2) dX5_fits_51 rfl rfl ?_
          refine G_if_eq (K := mX5_fits) (tgt := 74) dX5_fits_52 (by decide) (fun c52 => ?_) (fun c52 => ?_)
          · skip
            have hX : allB (fun r => decide (toH (M 1) 8 r = sumN (coldBy (toH (M 1)) set (nI r)) n)) y = false := bI_0 (hb.symm.trans c52)
            refine G_iconst (K := mX5_fits) (v := 0) dX5_fits_74 (by decide) ?_
            refine G_istore_n (K := mX5_fits) (i := 2) dX5_fits_75 rfl (by decide) ?_
            refine G_iincN (K := mX5_fits) dX5_fits_76 (by decide) rfl ?_
            refine G_goto (K := mX5_fits) (tgt := 41) dX5_fits_79 (by decide) ?_
            exact yh (y + 1) (by omega) (by omega) _ (by rw [show allB (fun r => decide (toH (M 1) 8 r = sumN (coldBy (toH (M 1)) set (nI r)) n)) (y + 1) = (allB (fun r => decide (toH (M 1) 8 r = sumN (coldBy (toH (M 1)) set (nI r)) n)) y && (fun r => decide (toH (M 1) 8 r = sumN (coldBy (toH (M 1)) set (nI r)) n)) y) from rfl, hX]; rfl)
          · skip
            have hX : allB (fun r => decide (toH (M 1) 8 r = sumN (coldBy (toH (M 1)) set (nI r)) n)) y = true := bI_1 (fun z => c52 (hb.trans z))
            refine G_aload_n (K := mX5_fits) (i := 0) dX5_fits_55 rfl rfl ?_
            refine G_iload_n (K := mX5_fits) (i := 3) dX5_fits_56 rfl rfl ?_
            refine G_cv (K := mX5_fits) (c_X5_gets (M := M3) (n := n) (j := y) hn3 hn8 ⟨rfl, rfl⟩) vX5_gets rfl lX5_150 dX5_fits_57 ⟨_, _, _, rfl, rfl, rfl⟩ (by decide) rfl (Nat.le_of_ble_eq_true rfl) ?_
            refine G_aload_n (K := mX5_fits) (i := 0) dX5_fits_60 rfl rfl ?_
            refine G_iload_n (K := mX5_fits) (i := 3) dX5_fits_61 rfl rfl ?_
            refine G_bipush (K := mX5_fits) (v := 7) dX5_fits_62 (by decide) ?_
            refine G_cv (K := mX5_fits) (c_X5_roomIs (M := M3) (i := y) (f := 7) (by omega) (by omega) ⟨rfl, rfl⟩) vX5_roomIs rfl lX5_120 dX5_fits_64 ⟨_, _, _, rfl, rfl, rfl⟩ (by decide) rfl (Nat.le_of_ble_eq_true rfl) ?_
            rw [hg y (by omega), hT3]
            refine G_icmp_ne (K := mX5_fits) (tgt := 74) dX5_fits_67 (by decide) (fun c67 => ?_) (fun c67 => ?_)
            · skip
              refine G_iconst (K := mX5_fits) (v := 0) dX5_fits_74 (by decide) ?_
              refine G_istore_n (K := mX5_fits) (i := 2) dX5_fits_75 rfl (by decide) ?_
              refine G_iincN (K := mX5_fits) dX5_fits_76 (by decide) rfl ?_
              refine G_goto (K := mX5_fits) (tgt := 41) dX5_fits_79 (by decide) ?_
              exact yh (y + 1) (by omega) (by omega) _ (by rw [show allB (fun r => decide (toH (M 1) 8 r = sumN (coldBy (toH (M 1)) set (nI r)) n)) (y + 1) = (allB (fun r => decide (toH (M 1) 8 r = sumN (coldBy (toH (M 1)) set (nI r)) n)) y && (fun r => decide (toH (M 1) 8 r = sumN (coldBy (toH (M 1)) set (nI r)) n)) y) from rfl, hX, show (fun r => decide (toH (M 1) 8 r = sumN (coldBy (toH (M 1)) set (nI r)) n)) y = false from decide_eq_false (fun z => c67 z.symm)]; rfl)
            · skip
              refine G_iconst (K := mX5_fits) (v := 1) dX5_fits_70 (by decide) ?_
              refine G_goto (K := mX5_fits) (tgt := 75) dX5_fits_71 (by decide) ?_
              refine G_istore_n (K := mX5_fits) (i := 2) dX5_fits_75 rfl (by decide) ?_
              refine G_iincN (K := mX5_fits) dX5_fits_76 (by decide) rfl ?_
              refine G_goto (K := mX5_fits) (tgt := 41) dX5_fits_79 (by decide) ?_
              exact yh (y + 1) (by omega) (by omega) _ (by rw [show allB (fun r => decide (toH (M 1) 8 r = sumN (coldBy (toH (M 1)) set (nI r)) n)) (y + 1) = (allB (fun r => decide (toH (M 1) 8 r = sumN (coldBy (toH (M 1)) set (nI r)) n)) y && (fun r => decide (toH (M 1) 8 r = sumN (coldBy (toH (M 1)) set (nI r)) n)) y) from rfl, hX, show (fun r => decide (toH (M 1) 8 r = sumN (coldBy (toH (M 1)) set (nI r)) n)) y = true from decide_eq_true c67.symm]; rfl)
      exact loop41 0 (by omega) _ rfl
    · skip
      rw [hn3, le_nn (by omega) (by omega)] at c9
      refine G_aload_n (K := mX5_fits) (i := 0) dX5_fits_12 rfl rfl ?_
      refine G_getr (K := mX5_fits) fX5_28 dX5_fits_13 rfl rfl ?_
      refine G_iload_n (K := mX5_fits) (i := 2) dX5_fits_16 rfl rfl ?_
      refine G_iload_n (K := mX5_fits) (i := 1) dX5_fits_17 rfl rfl ?_
      refine G_iload_n (K := mX5_fits) (i := 2) dX5_fits_18 rfl rfl ?_
      refine G_sv (K := mX5_fits) (c_X5_has (s := set) (k := nI i) ⟨rfl, rfl⟩) sX5_has rfl lX5_140 dX5_fits_19 (by decide) rfl (Nat.le_of_ble_eq_true rfl) ?_
      refine G_if_eq (K := mX5_fits) (tgt := 29) dX5_fits_22 (by decide) (fun c22 => ?_) (fun c22 => ?_)
      · skip
        refine G_iconst (K := mX5_fits) (v := 1) dX5_fits_29 (by decide) ?_
        refine G_sto (K := mX5_fits) i dX5_fits_30 rfl rfl (by omega) (by decide) ?_
        refine G_iincN (K := mX5_fits) dX5_fits_31 (by decide) rfl ?_
        refine G_goto (K := mX5_fits) (tgt := 2) dX5_fits_34 (by decide) ?_
        refine ih (i + 1) (by omega) (by omega) _ (fun c hc => (ups_cell hc).trans (h3c c hc)) (fun q hq => ?_)
        by_cases hqi : q = i
        · subst hqi
          rw [ups_same]
          exact (if_pos ((and1 _).resolve_right (of_decide_eq_false (bI_0 c22)))).symm
        · rw [ups_ne (fun z => hqi z.2)]; exact h7 q (by omega)
      · skip
        refine G_iconst (K := mX5_fits) (v := 0) dX5_fits_25 (by decide) ?_
        refine G_goto (K := mX5_fits) (tgt := 30) dX5_fits_26 (by decide) ?_
        refine G_sto (K := mX5_fits) i dX5_fits_30 rfl rfl (by omega) (by decide) ?_
        refine G_iincN (K := mX5_fits) dX5_fits_31 (by decide) rfl ?_
        refine G_goto (K := mX5_fits) (tgt := 2) dX5_fits_34 (by decide) ?_
        refine ih (i + 1) (by omega) (by omega) _ (fun c hc => (ups_cell hc).trans (h3c c hc)) (fun q hq => ?_)
        by_cases hqi : q = i
        · subst hqi
          rw [ups_same]
          exact (if_neg (fun z => by rw [of_decide_eq_true (bI_1 c22)] at z; exact absurd z (by decide))).symm
        · rw [ups_ne (fun z => hqi z.2)]; exact h7 q (by omega)
  exact loop2 0 (by omega) M (fun _ _ => rfl) (fun q hq => absurd hq (by omega))

def fcR (p : Nat → Bool) (M M3 : Mem) (i : Nat) : Prop := M3 0 15 = (surF p i).1 ∧ M3 0 16 = (surF p i).2.1 ∧ M3 0 17 = (surF p i).2.2 ∧ (∀ x, x ≠ 15 → x ≠ 16 → x ≠ 17 → M3 0 x = M 0 x) ∧ ∀ c, c ≠ 0 → c ≠ 7 → M3 c = M c
theorem cnt_sur {p : Nat → Bool} : ∀ k : Nat, k ≤ 256 → ∃ c, c ≤ k ∧ cntN p k = nI c ∧ ((c = 0 ∧ (surF p k).2.2 = -1) ∨ (0 < c ∧ ∃ s, s < k ∧ (surF p k).2.2 = nI s))
  | 0, _ => ⟨0, by omega, rfl, Or.inl ⟨rfl, rfl⟩⟩
  | k + 1, hk => by
    obtain ⟨c, h1, h2, h3⟩ := cnt_sur (p := p) k (by omega)
    by_cases hp : p k = true
    · have e : surF p (k + 1) = ((surF p k).1 &&& nI k, (surF p k).2.1 ||| nI k, if (surF p k).2.2 < 0 then nI k else (surF p k).2.2) := if_pos hp
      refine ⟨c + 1, by omega, by rw [cntN_t hp, h2, nI_1], Or.inr ⟨by omega, ?_⟩⟩
      rw [e]
      rcases h3 with ⟨-, h3⟩ | ⟨-, s, hs, h3⟩
      · exact ⟨k, by omega, if_pos (by rw [h3]; decide)⟩
      · exact ⟨s, by omega, (if_neg (by rw [h3]; exact nI_pos (by omega))).trans h3⟩
    · have e : surF p (k + 1) = surF p k := if_neg hp
      refine ⟨c, by omega, by rw [cntN_f hp, h2], ?_⟩
      rw [e]
      rcases h3 with h3 | ⟨h4, s, hs, h3⟩
      · exact Or.inl h3
      · exact Or.inr ⟨h4, s, by omega, h3⟩
theorem cnt_0 {p : Nat → Bool} {k : Nat} (hk : k ≤ 256) : cntN p k = 0 ↔ (surF p k).2.2 < 0 := by
  obtain ⟨c, h1, h2, h3⟩ := cnt_sur (p := p) k hk
  rw [h2]
  rcases h3 with ⟨rfl, h3⟩ | ⟨h4, s, hs, h3⟩
  · rw [h3]; exact ⟨fun _ => by decide, fun _ => rfl⟩
  · rw [h3]; exact ⟨fun h => absurd h (nI_ne0 h4 (by omega)), fun h => absurd h (nI_pos (by omega))⟩
set_option maxRecDepth 20000 in
theorem rf_findCulprits {M σ : Mem} (hR : RR M σ) (hI : Inv σ) {Q : Option Value → Mem → Prop} (hQ : ∀ M2 : Mem, fcR (coldS σ) M M2 (2 ^ nOf σ) → Q (some (.int (cntN (coldS σ) (2 ^ nOf σ)))) M2) : CT mX5_findCulprits shR 4 [.ref 0] M Q := by
  refine CT.mk [some (.ref 0), none, none] (by decide) (Nat.le_of_ble_eq_true rfl) rfl rfl ?_
  have hn8 := hI.n8
  have hp := pow_n hn8
  refine G_iconst (K := mX5_findCulprits) (v := 0) dX5_findCulprits_0 (by decide) ?_
  refine G_istore_n (K := mX5_findCulprits) (i := 1) dX5_findCulprits_1 rfl (by decide) ?_
  refine G_aload_n (K := mX5_findCulprits) (i := 0) dX5_findCulprits_2 rfl rfl ?_
  refine G_iconst (K := mX5_findCulprits) (v := -1) dX5_findCulprits_3 (by decide) ?_
  refine G_puti (K := mX5_findCulprits) fX5_238 w5_15 dX5_findCulprits_4 rfl rfl ?_
  refine G_aload_n (K := mX5_findCulprits) (i := 0) dX5_findCulprits_7 rfl rfl ?_
  refine G_iconst (K := mX5_findCulprits) (v := 0) dX5_findCulprits_8 (by decide) ?_
  refine G_puti (K := mX5_findCulprits) fX5_241 w5_16 dX5_findCulprits_9 rfl rfl ?_
  refine G_aload_n (K := mX5_findCulprits) (i := 0) dX5_findCulprits_12 rfl rfl ?_
  refine G_iconst (K := mX5_findCulprits) (v := -1) dX5_findCulprits_13 (by decide) ?_
  refine G_puti (K := mX5_findCulprits) fX5_244 w5_17 dX5_findCulprits_14 rfl rfl ?_
  refine G_iconst (K := mX5_findCulprits) (v := 0) dX5_findCulprits_17 (by decide) ?_
  refine G_istore_n (K := mX5_findCulprits) (i := 2) dX5_findCulprits_18 rfl (by decide) ?_
  have loop19 : ∀ i, i ≤ 2 ^ nOf σ → ∀ (s : Int32) (M3 : Mem), s = cntN (coldS σ) i → fcR (coldS σ) M M3 i → G mX5_findCulprits shR 4 Q 19 [some (.ref 0), some (.int s), some (.int (nI i))] [] M3 := by
    refine upto (2 ^ nOf σ) (fun i hi ih => ?_)
    intro s M3 hs hfc
    obtain ⟨e15, e16, e17, e0, ec⟩ := id hfc
    have h31 : toH (M3 1) = toH (M 1) := by rw [ec 1 (by decide) (by decide)]
    have hn3 : M3 1 2 = nI (nOf σ) := by rw [ec 1 (by decide) (by decide)]; exact hR.n hI
    refine G_iload_n (K := mX5_findCulprits) (i := 2) dX5_findCulprits_19 rfl rfl ?_
    refine G_iconst (K := mX5_findCulprits) (v := 1) dX5_findCulprits_20 (by decide) ?_
    refine G_aload_n (K := mX5_findCulprits) (i := 0) dX5_findCulprits_21 rfl rfl ?_
    refine G_getr (K := mX5_findCulprits) fX5_9 dX5_findCulprits_22 rfl rfl ?_
    refine G_iconst (K := mX5_findCulprits) (v := 2) dX5_findCulprits_25 (by decide) ?_
    refine G_ld (K := mX5_findCulprits) 2 dX5_findCulprits_26 rfl rfl (by omega) (by decide) ?_
    rw [hn3]
    refine G_ishl (K := mX5_findCulprits) dX5_findCulprits_27 ?_
    rw [shl_n hn8]
    refine G_icmp_ge (K := mX5_findCulprits) (tgt := 87) dX5_findCulprits_28 (by decide) (fun c28 => ?_) (fun c28 => ?_)
    · skip
      rw [le_nn (by omega) (by omega)] at c28
      have hin : i = 2 ^ nOf σ := by omega
      refine G_iload_n (K := mX5_findCulprits) (i := 1) dX5_findCulprits_87 rfl rfl ?_
      rw [hin] at hfc hs
      exact G_irm (K := mX5_findCulprits) dX5_findCulprits_88 rfl hs rfl (hQ M3 hfc)
    · skip
      rw [le_nn (by omega) (by omega)] at c28
      refine G_aload_n (K := mX5_findCulprits) (i := 0) dX5_findCulprits_31 rfl rfl ?_
      refine G_iload_n (K := mX5_findCulprits) (i := 2) dX5_findCulprits_32 rfl rfl ?_
      refine G_call0 (K := mX5_findCulprits) (as := [.int (nI i)]) (r := 0) (Q' := fun u Mz => u = some (.int (bI (coldS σ i))) ∧ ∀ z, z ≠ 7 → Mz z = M3 z) (c_X5_fits (M := M3) (n := nOf σ) (set := nI i) hn3 hn8 (fun q hq => by rw [h31, hR.1.f 7 (by omega) (by omega) hq]; exact (hI.1.2.2.2.2 q hq).2.2.2.2.2.2.1.1) (fun Mz h => ⟨by rw [h31, allCold_congr hR.1]; rfl, h⟩)) vX5_fits rfl lX5_247 ⟨_, _, _, rfl, rfl, rfl⟩ (by decide) (Nat.le_of_ble_eq_true rfl) dX5_findCulprits_33 rfl ?_
      rintro u M4 ⟨rfl, h4⟩
      have h40 : M4 0 = M3 0 := h4 0 (by decide)
      refine G_if_eq (K := mX5_findCulprits) (tgt := 81) dX5_findCulprits_36 (by decide) (fun c36 => ?_) (fun c36 => ?_)
      · skip
        refine G_iincN (K := mX5_findCulprits) dX5_findCulprits_81 (by decide) rfl ?_
        refine G_goto (K := mX5_findCulprits) (tgt := 19) dX5_findCulprits_84 (by decide) ?_
        have hp2 : coldS σ i = false := bI_0 c36
        refine ih (i + 1) (by omega) (by omega) _ M4 (by rw [cntN_f (by rw [hp2]; decide)]; exact hs) ?_
        unfold fcR
        rw [show surF (coldS σ) (i + 1) = surF (coldS σ) i from if_neg (by rw [hp2]; decide)]
        exact ⟨by rw [h40]; exact e15, by rw [h40]; exact e16, by rw [h40]; exact e17, fun x a b c => by rw [h40]; exact e0 x a b c, fun c a b => by rw [h4 c b]; exact ec c a b⟩
      · skip
        refine G_iinc (K := mX5_findCulprits) (v := s + 1) dX5_findCulprits_39 (by decide) rfl rfl ?_
        refine G_aload_n (K := mX5_findCulprits) (i := 0) dX5_findCulprits_42 rfl rfl ?_
        refine G_dup (K := mX5_findCulprits) dX5_findCulprits_43 rfl ?_
        refine G_geti (K := mX5_findCulprits) fX5_238 dX5_findCulprits_44 rfl rfl ?_
        refine G_iload_n (K := mX5_findCulprits) (i := 2) dX5_findCulprits_47 rfl rfl ?_
        refine G_iand (K := mX5_findCulprits) dX5_findCulprits_48 ?_
        refine G_puti (K := mX5_findCulprits) fX5_238 w5_15 dX5_findCulprits_49 rfl rfl ?_
        refine G_aload_n (K := mX5_findCulprits) (i := 0) dX5_findCulprits_52 rfl rfl ?_
        refine G_dup (K := mX5_findCulprits) dX5_findCulprits_53 rfl ?_
        refine G_geti (K := mX5_findCulprits) fX5_241 dX5_findCulprits_54 rfl rfl ?_
        refine G_iload_n (K := mX5_findCulprits) (i := 2) dX5_findCulprits_57 rfl rfl ?_
        refine G_ior (K := mX5_findCulprits) dX5_findCulprits_58 ?_
        refine G_puti (K := mX5_findCulprits) fX5_241 w5_16 dX5_findCulprits_59 rfl rfl ?_
        refine G_aload_n (K := mX5_findCulprits) (i := 0) dX5_findCulprits_62 rfl rfl ?_
        refine G_aload_n (K := mX5_findCulprits) (i := 0) dX5_findCulprits_63 rfl rfl ?_
        refine G_geti (K := mX5_findCulprits) fX5_244 dX5_findCulprits_64 rfl rfl ?_
        rw [ups_ne (by omega), ups_ne (by omega), h40, e17]
        refine G_if_ge (K := mX5_findCulprits) (tgt := 74) dX5_findCulprits_67 (by decide) (fun c67 => ?_) (fun c67 => ?_)
        · skip
          refine G_aload_n (K := mX5_findCulprits) (i := 0) dX5_findCulprits_74 rfl rfl ?_
          refine G_geti (K := mX5_findCulprits) fX5_244 dX5_findCulprits_75 rfl rfl ?_
          refine G_puti (K := mX5_findCulprits) fX5_244 w5_17 dX5_findCulprits_78 rfl rfl ?_
          refine G_iincN (K := mX5_findCulprits) dX5_findCulprits_81 (by decide) rfl ?_
          refine G_goto (K := mX5_findCulprits) (tgt := 19) dX5_findCulprits_84 (by decide) ?_
          have hp2 : coldS σ i = true := bI_1 c36
          refine ih (i + 1) (by omega) (by omega) _ _ (by rw [cntN_t hp2, hs]) ?_
          unfold fcR
          rw [show surF (coldS σ) (i + 1) = ((surF (coldS σ) i).1 &&& nI i, (surF (coldS σ) i).2.1 ||| nI i, if (surF (coldS σ) i).2.2 < 0 then nI i else (surF (coldS σ) i).2.2) from if_pos hp2]
          exact ⟨by rw [ups_ne (by omega), ups_ne (by omega), ups_same, e15], by rw [ups_ne (by omega), ups_same, ups_ne (by omega), h40, e16], by rw [ups_same, ups_ne (by omega), ups_ne (by omega), h40, e17, if_neg (Int32.not_lt.mpr c67)], fun x a b c => by rw [ups_ne (by omega), ups_ne (by omega), ups_ne (by omega), h40]; exact e0 x a b c, fun c a b => by rw [ups_cell a, ups_cell a, ups_cell a, h4 c b]; exact ec c a b⟩
        · skip
          refine G_iload_n (K := mX5_findCulprits) (i := 2) dX5_findCulprits_70 rfl rfl ?_
          refine G_goto (K := mX5_findCulprits) (tgt := 78) dX5_findCulprits_71 (by decide) ?_
          refine G_puti (K := mX5_findCulprits) fX5_244 w5_17 dX5_findCulprits_78 rfl rfl ?_
          refine G_iincN (K := mX5_findCulprits) dX5_findCulprits_81 (by decide) rfl ?_
          refine G_goto (K := mX5_findCulprits) (tgt := 19) dX5_findCulprits_84 (by decide) ?_
          have hp2 : coldS σ i = true := bI_1 c36
          refine ih (i + 1) (by omega) (by omega) _ _ (by rw [cntN_t hp2, hs]) ?_
          unfold fcR
          rw [show surF (coldS σ) (i + 1) = ((surF (coldS σ) i).1 &&& nI i, (surF (coldS σ) i).2.1 ||| nI i, if (surF (coldS σ) i).2.2 < 0 then nI i else (surF (coldS σ) i).2.2) from if_pos hp2]
          exact ⟨by rw [ups_ne (by omega), ups_ne (by omega), ups_same, e15], by rw [ups_ne (by omega), ups_same, ups_ne (by omega), h40, e16], by rw [ups_same, if_pos (Int32.not_le.mp c67)], fun x a b c => by rw [ups_ne (by omega), ups_ne (by omega), ups_ne (by omega), h40]; exact e0 x a b c, fun c a b => by rw [ups_cell a, ups_cell a, ups_cell a, h4 c b]; exact ec c a b⟩
  exact loop19 0 (Nat.zero_le _) _ _ rfl ⟨by rw [ups_ne (by omega), ups_ne (by omega), ups_same]; rfl, by rw [ups_ne (by omega), ups_same]; rfl, by rw [ups_same]; rfl, fun x a b c => by rw [ups_ne (by omega), ups_ne (by omega), ups_ne (by omega)], fun c a b => by rw [ups_cell a, ups_cell a, ups_cell a]⟩

set_option maxRecDepth 20000 in
theorem rf_culprits {M σ : Mem}  (hR : RR M σ) (hI : Inv σ) {Q : Option Value → Mem → Prop} (hQ : ∀ u' M', PostR (opCulprits σ) u' M' → Q u' M') : CT mX5_culprits shR 8 [.ref 0] M Q := by
  refine CT.mk [some (.ref 0)] (by decide) (Nat.le_of_ble_eq_true rfl) rfl rfl ?_
  refine G_aload_n (K := mX5_culprits) (i := 0) dX5_culprits_0 rfl rfl ?_
  refine G_call0 (K := mX5_culprits) (as := []) (r := 0) (Q' := fun u Mz => u = some (.int (cntN (coldS σ) (2 ^ nOf σ))) ∧ fcR (coldS σ) M Mz (2 ^ nOf σ)) (rf_findCulprits hR hI (fun Mz h => ⟨rfl, h⟩)) vX5_findCulprits rfl lX5_250 ⟨_, _, _, rfl, rfl, rfl⟩ (by decide) (Nat.le_of_ble_eq_true rfl) dX5_culprits_1 rfl ?_
  rintro u M2 ⟨rfl, hfc⟩
  have hR2 : RR M2 σ := hR.scr (by rw [hfc.2.2.2.2 1 (by decide) (by decide)]) (fun c hc => hfc.2.2.2.2 c (by unfold solid at hc; omega) (by unfold solid at hc; omega)) (hfc.2.2.2.1 3 (by decide) (by decide) (by decide)) (hfc.2.2.2.1 19 (by decide) (by decide) (by decide))
  exact G_iret (st := []) (K := mX5_culprits) dX5_culprits_4 rfl (hQ _ _ ⟨rfl, hR2⟩)

set_option maxRecDepth 20000 in
theorem rf_surely {M σ : Mem} {w : Int32} (hR : RR M σ) (hI : Inv σ) {Q : Option Value → Mem → Prop} (hQ : ∀ u' M', PostR (opSurely σ w) u' M' → Q u' M') : CT mX5_surely shR 8 [.ref 0, .int w] M Q := by
  refine CT.mk [some (.ref 0), some (.int w)] (by decide) (Nat.le_of_ble_eq_true rfl) rfl rfl ?_
  refine G_iload_n (K := mX5_surely) (i := 1) dX5_surely_0 rfl rfl ?_
  refine G_iconst (K := mX5_surely) (v := 0) dX5_surely_1 (by decide) ?_
  refine G_iconst (K := mX5_surely) (v := 2) dX5_surely_2 (by decide) ?_
  refine G_sv (K := mX5_surely) (c_X5_within (v := w) (a := 0) (b := 2) ⟨rfl, rfl⟩) sX5_within rfl lX5_97 dX5_surely_3 (by decide) rfl (Nat.le_of_ble_eq_true rfl) ?_
  refine G_if_ne (K := mX5_surely) (tgt := 16) dX5_surely_6 (by decide) (fun c6 => ?_) (fun c6 => ?_)
  · skip
    obtain ⟨kk1, kk2⟩ := within_2 c6
    have hpw : 2 ^ nOf σ ≤ 256 := pow_n hI.n8
    refine G_aload_n (K := mX5_surely) (i := 0) dX5_surely_16 rfl rfl ?_
    refine G_call0 (K := mX5_surely) (as := []) (r := 0) (Q' := fun u Mz => u = some (.int (cntN (coldS σ) (2 ^ nOf σ))) ∧ fcR (coldS σ) M Mz (2 ^ nOf σ)) (rf_findCulprits hR hI (fun Mz h => ⟨rfl, h⟩)) vX5_findCulprits rfl lX5_250 ⟨_, _, _, rfl, rfl, rfl⟩ (by decide) (Nat.le_of_ble_eq_true rfl) dX5_surely_17 rfl ?_
    rintro u M2 ⟨rfl, hfc⟩
    have hR2 : RR M2 σ := hR.scr (by rw [hfc.2.2.2.2 1 (by decide) (by decide)]) (fun c hc => hfc.2.2.2.2 c (by unfold solid at hc; omega) (by unfold solid at hc; omega)) (hfc.2.2.2.1 3 (by decide) (by decide) (by decide)) (hfc.2.2.2.1 19 (by decide) (by decide) (by decide))
    refine G_if_ne (K := mX5_surely) (tgt := 30) dX5_surely_20 (by decide) (fun c20 => ?_) (fun c20 => ?_)
    · skip
      refine G_iload_n (K := mX5_surely) (i := 1) dX5_surely_30 rfl rfl ?_
      refine G_if_ne (K := mX5_surely) (tgt := 41) dX5_surely_31 (by decide) (fun c31 => ?_) (fun c31 => ?_)
      · skip
        refine G_iload_n (K := mX5_surely) (i := 1) dX5_surely_41 rfl rfl ?_
        refine G_iconst (K := mX5_surely) (v := 1) dX5_surely_42 (by decide) ?_
        refine G_icmp_ne (K := mX5_surely) (tgt := 53) dX5_surely_43 (by decide) (fun c43 => ?_) (fun c43 => ?_)
        · skip
          refine G_aload_n (K := mX5_surely) (i := 0) dX5_surely_53 rfl rfl ?_
          refine G_geti (K := mX5_surely) fX5_244 dX5_surely_54 rfl rfl ?_
          exact G_iret (st := []) (K := mX5_surely) dX5_surely_57 rfl (hQ _ _ (by rw [show opSurely σ w = _ from (if_neg kk1).trans ((if_neg kk2).trans (if_neg (fun z => c20 ((cnt_0 hpw).mpr z)))), if_neg c31, if_neg c43]; exact ⟨congrArg (fun z => some (Value.int z)) (hfc.2.2.1), hR2⟩))
        · skip
          refine G_aload_n (K := mX5_surely) (i := 0) dX5_surely_46 rfl rfl ?_
          refine G_geti (K := mX5_surely) fX5_241 dX5_surely_47 rfl rfl ?_
          refine G_goto (K := mX5_surely) (tgt := 57) dX5_surely_50 (by decide) ?_
          exact G_iret (st := []) (K := mX5_surely) dX5_surely_57 rfl (hQ _ _ (by rw [show opSurely σ w = _ from (if_neg kk1).trans ((if_neg kk2).trans (if_neg (fun z => c20 ((cnt_0 hpw).mpr z)))), if_neg c31, if_pos c43]; exact ⟨congrArg (fun z => some (Value.int z)) (hfc.2.1), hR2⟩))
      · skip
        refine G_aload_n (K := mX5_surely) (i := 0) dX5_surely_34 rfl rfl ?_
        refine G_geti (K := mX5_surely) fX5_238 dX5_surely_35 rfl rfl ?_
        refine G_goto (K := mX5_surely) (tgt := 57) dX5_surely_38 (by decide) ?_
        exact G_iret (st := []) (K := mX5_surely) dX5_surely_57 rfl (hQ _ _ (by rw [show opSurely σ w = _ from (if_neg kk1).trans ((if_neg kk2).trans (if_neg (fun z => c20 ((cnt_0 hpw).mpr z)))), if_pos c31]; exact ⟨congrArg (fun z => some (Value.int z)) (hfc.1), hR2⟩))
    · skip
      refine G_aload_n (K := mX5_surely) (i := 0) dX5_surely_23 rfl rfl ?_
      refine G_ldc (K := mX5_surely) dX5_surely_24 kX5_186 ?_
      refine G_call0 (K := mX5_surely) (Q' := PostR (tl σ 3)) (rf_finding hR2 (k := 3) (by omega) (fun _ _ h => h)) vX5_finding rfl lX5_109 ⟨_, _, _, rfl, rfl, rfl⟩ (by decide) (Nat.le_of_ble_eq_true rfl) dX5_surely_26 rfl ?_
      rintro v M1 ⟨rfl, hR1⟩
      exact G_iret (st := []) (K := mX5_surely) dX5_surely_29 rfl (hQ _ _ (by rw [show opSurely σ w = _ from (by unfold opSurely; exact (if_neg kk1).trans ((if_neg kk2).trans (if_pos ((cnt_0 hpw).mp c20))))]; exact ⟨rfl, hR1⟩))
  · skip
    refine G_aload_n (K := mX5_surely) (i := 0) dX5_surely_9 rfl rfl ?_
    refine G_ldc (K := mX5_surely) dX5_surely_10 kX5_92 ?_
    refine G_call0 (K := mX5_surely) (Q' := PostR (tl σ 0)) (rf_finding hR (k := 0) (by omega) (fun _ _ h => h)) vX5_finding rfl lX5_109 ⟨_, _, _, rfl, rfl, rfl⟩ (by decide) (Nat.le_of_ble_eq_true rfl) dX5_surely_12 rfl ?_
    rintro v M1 ⟨rfl, hR1⟩
    exact G_iret (st := []) (K := mX5_surely) dX5_surely_15 rfl (hQ _ _ (by rw [show opSurely σ w = _ from (by unfold opSurely; exact ((within_3 c6).elim (fun h => if_pos h) (fun h => (if_neg h.1).trans (if_pos h.2))))]; exact ⟨rfl, hR1⟩))
