theorem RR.s0 {M σ : Mem} (hR : RR M σ) {q : Nat} (hq : q < 4) : M 16 q = σ 44 q := (hR.2.2.2.2.2.2.1 q hq).1
theorem RR.s1 {M σ : Mem} (hR : RR M σ) {q : Nat} (hq : q < 4) : M 17 q = σ 45 q := (hR.2.2.2.2.2.2.1 q hq).2.1
theorem RR.sn {M σ : Mem} (hR : RR M σ) {q i : Nat} (hq : q < 4) (hi : i < 40) : M 18 (40 * q + i) = σ (46 + q) i := (hR.2.2.2.2.2.2.1 q hq).2.2 i hi
theorem RR.sh {M M2 σ σ' : Mem} (hR : RR M σ) (hm : ∀ c, c ≠ 16 → c ≠ 17 → c ≠ 18 → c ≠ 19 → M2 c = M c) (hs : ∀ c, c < 44 → σ' c = σ c) (h7 : ∀ s, s < 4 → M2 16 s = σ' 44 s ∧ M2 17 s = σ' 45 s ∧ ∀ i, i < 40 → M2 18 (40 * s + i) = σ' (46 + s) i) : RR M2 σ' := by
  obtain ⟨r1, r2, r3, r4, r5, r6, r7, r8⟩ := id hR
  refine ⟨hR.one (by rw [hm 1 (by decide) (by decide) (by decide) (by decide)]) (fun j hj => hs j (by omega)), hR.two (by rw [hm 2 (by decide) (by decide) (by decide) (by decide)]) (fun j hj => hs _ (by omega)) (by rw [hs 40 (by omega)]), by rw [hm 0 (by decide) (by decide) (by decide) (by decide), hs 40 (by omega)]; exact r3, by rw [hm 4 (by decide) (by decide) (by decide) (by decide), hs 41 (by omega)]; exact r4, by rw [hm 12 (by decide) (by decide) (by decide) (by decide), hs 42 (by omega)]; exact r5, by rw [hm 0 (by decide) (by decide) (by decide) (by decide), hs 43 (by omega)]; exact r6, h7, by rw [hm 5 (by decide) (by decide) (by decide) (by decide), hm 6 (by decide) (by decide) (by decide) (by decide)]; exact r8⟩
theorem nI_40 {q i : Nat} (hq : q < 100) (hi : i < 1000) : (40 : Int32) * nI q + nI i = nI (40 * q + i) := by
  have e40 : (40 : Int32).toInt = 40 := rfl
  have em : (40 : Int32) * nI q = nI (40 * q) := by
    apply i32_ext
    rw [mul_I (by rw [e40, nI_toI (by omega)]; omega) (by rw [e40, nI_toI (by omega)]; omega), e40, nI_toI (by omega), nI_toI (by omega)]
    omega
  rw [em, nI_add]
theorem RR.newSh {M M3 σ : Mem} {q : Nat} {b n : Int32} (hR : RR M σ) (hq : q < 4) (h16 : ∀ x, M3 16 x = ups M 16 q b 16 x) (h17 : ∀ x, M3 17 x = ups M 17 q (if b = 0 then (0 : Int32) else n) 17 x) (h18 : ∀ j, j < 40 → M3 18 (40 * q + j) = 0) (h18o : ∀ x, (x < 40 * q ∨ 40 * q + 40 ≤ x) → M3 18 x = M 18 x) (h3c : ∀ c, c ≠ 16 → c ≠ 17 → c ≠ 18 → M3 c = M c) : RR M3 (newS σ q b n) := by
  have e0 : ∀ c i, ¬ (c = 46 + q ∧ i < 40) → newS σ q b n c i = ups (ups σ 44 q b) 45 q (if b = 0 then 0 else n) c i := fun c i h => if_neg h
  refine hR.sh (fun c a b d e => h3c c a b d) (fun c hc => by
    funext i
    rw [e0 c i (by omega), ups_ne (by omega), ups_ne (by omega)]) (fun s hs => ⟨?_, ?_, fun i hi => ?_⟩)
  · rw [h16, e0 44 s (by omega), ups_cell (show (44 : Nat) ≠ 45 by decide)]
    by_cases h : s = q
    · subst h; rw [ups_same, ups_same]
    · rw [ups_ne (fun z => h z.2), ups_ne (fun z => h z.2)]; exact hR.s0 hs
  · rw [h17, e0 45 s (by omega)]
    by_cases h : s = q
    · subst h; rw [ups_same, ups_same]
    · rw [ups_ne (fun z => h z.2), ups_ne (fun z => h z.2), ups_ne (by omega)]; exact hR.s1 hs
  · by_cases h : s = q
    · subst h
      rw [h18 i hi]
      exact (if_pos ⟨rfl, hi⟩).symm
    · rw [h18o _ (by omega), e0 (46 + s) i (by omega), ups_ne (by omega), ups_ne (by omega)]
      exact hR.sn hs hi
set_option maxRecDepth 20000 in
theorem rf_sheet {M σ : Mem} {s b n : Int32} (hR : RR M σ) (hI : Inv σ) {Q : Option Value → Mem → Prop} (hQ : ∀ u' M', PostR (opSheet σ s b n) u' M' → Q u' M') : CT mX5_sheet shR 8 [.ref 0, .int s, .int b, .int n] M Q := by
  refine CT.mk [some (.ref 0), some (.int s), some (.int b), some (.int n), none] (by decide) (Nat.le_of_ble_eq_true rfl) rfl rfl ?_
  refine G_iload_n (K := mX5_sheet) (i := 1) dX5_sheet_0 rfl rfl ?_
  refine G_sv (K := mX5_sheet) (c_X5_isSheet (x := s) ⟨rfl, rfl⟩) sX5_isSheet rfl lX5_341 dX5_sheet_1 (by decide) rfl (Nat.le_of_ble_eq_true rfl) ?_
  refine G_if_eq (K := mX5_sheet) (tgt := 29) dX5_sheet_4 (by decide) (fun c4 => ?_) (fun c4 => ?_)
  · skip
    refine G_aload_n (K := mX5_sheet) (i := 0) dX5_sheet_29 rfl rfl ?_
    refine G_ldc (K := mX5_sheet) dX5_sheet_30 kX5_92 ?_
    refine G_call0 (K := mX5_sheet) (Q' := PostR (tl σ 0)) (rf_finding hR (k := 0) (by omega) (fun _ _ h => h)) vX5_finding rfl lX5_109 ⟨_, _, _, rfl, rfl, rfl⟩ (by decide) (Nat.le_of_ble_eq_true rfl) dX5_sheet_32 rfl ?_
    rintro v M1 ⟨rfl, hR1⟩
    exact G_iret (st := []) (K := mX5_sheet) dX5_sheet_35 rfl (hQ _ _ (by rw [show opSheet σ s b n = _ from (by unfold opSheet; exact if_neg (within_o (m := 3) (by decide) c4))]; exact ⟨rfl, hR1⟩))
  · skip
    obtain ⟨q, hq, rfl⟩ := within_i (m := 3) (by decide) c4
    have hB := roomB_nI (n := 4) (by decide) hq
    refine G_iload_n (K := mX5_sheet) (i := 2) dX5_sheet_7 rfl rfl ?_
    refine G_if_eq (K := mX5_sheet) (tgt := 36) dX5_sheet_8 (by decide) (fun c8 => ?_) (fun c8 => ?_)
    · skip
      have hb : bitsOK b = true := decide_eq_true (Or.inl c8)
      refine G_iload_n (K := mX5_sheet) (i := 3) dX5_sheet_36 rfl rfl ?_
      refine G_if_ge (K := mX5_sheet) (tgt := 48) dX5_sheet_37 (by decide) (fun c37 => ?_) (fun c37 => ?_)
      · skip
        refine G_iload_n (K := mX5_sheet) (i := 3) dX5_sheet_48 rfl rfl ?_
        refine G_bipush (K := mX5_sheet) (v := 40) dX5_sheet_49 (by decide) ?_
        refine G_icmp_le (K := mX5_sheet) (tgt := 61) dX5_sheet_51 (by decide) (fun c51 => ?_) (fun c51 => ?_)
        · skip
          refine G_aload_n (K := mX5_sheet) (i := 0) dX5_sheet_61 rfl rfl ?_
          refine G_getr (K := mX5_sheet) fX5_80 dX5_sheet_62 rfl rfl ?_
          refine G_iload_n (K := mX5_sheet) (i := 1) dX5_sheet_65 rfl rfl ?_
          refine G_iload_n (K := mX5_sheet) (i := 2) dX5_sheet_66 rfl rfl ?_
          refine G_sto (K := mX5_sheet) q dX5_sheet_67 rfl rfl (by omega) (by decide) ?_
          refine G_aload_n (K := mX5_sheet) (i := 0) dX5_sheet_68 rfl rfl ?_
          refine G_getr (K := mX5_sheet) fX5_83 dX5_sheet_69 rfl rfl ?_
          refine G_iload_n (K := mX5_sheet) (i := 1) dX5_sheet_72 rfl rfl ?_
          refine G_iload_n (K := mX5_sheet) (i := 2) dX5_sheet_73 rfl rfl ?_
          refine G_if_ne (K := mX5_sheet) (tgt := 81) dX5_sheet_74 (by decide) (fun c74 => ?_) (fun c74 => ?_)
          · skip
            have hX : n = (if b = 0 then (0 : Int32) else n) := (if_neg c74).symm
            refine G_iload_n (K := mX5_sheet) (i := 3) dX5_sheet_81 rfl rfl ?_
            refine G_sto (K := mX5_sheet) q dX5_sheet_82 rfl rfl (by omega) (by decide) ?_
            refine G_iconst (K := mX5_sheet) (v := 0) dX5_sheet_83 (by decide) ?_
            refine G_istore (K := mX5_sheet) dX5_sheet_84 (by decide) ?_
            have loop86 : ∀ i, i ≤ 40 → ∀ M3 : Mem, (∀ x, M3 16 x = ups M 16 q b 16 x) → (∀ x, M3 17 x = ups M 17 q (if b = 0 then (0 : Int32) else n) 17 x) → (∀ j, j < i → M3 18 (40 * q + j) = 0) → (∀ x, (x < 40 * q ∨ 40 * q + 40 ≤ x) → M3 18 x = M 18 x) → (∀ c, c ≠ 16 → c ≠ 17 → c ≠ 18 → M3 c = M c) → G mX5_sheet shR 8 Q 86 [some (.ref 0), some (.int (nI q)), some (.int b), some (.int n), some (.int (nI i))] [] M3 := by
              refine upto 40 (fun i hi ih => ?_)
              intro M3 h16 h17 h18 h18o h3c
              refine G_iload (K := mX5_sheet) dX5_sheet_86 rfl ?_
              refine G_bipush (K := mX5_sheet) (v := 40) dX5_sheet_88 (by decide) ?_
              refine G_icmp_ge (K := mX5_sheet) (tgt := 112) dX5_sheet_90 (by decide) (fun c90 => ?_) (fun c90 => ?_)
              · skip
                rw [show (40 : Int32) = nI 40 from rfl, le_nn (by omega) (by omega)] at c90
                have hi40 : i = 40 := by omega
                subst hi40
                refine G_aload_n (K := mX5_sheet) (i := 0) dX5_sheet_112 rfl rfl ?_
                refine G_getr (K := mX5_sheet) fX5_83 dX5_sheet_113 rfl rfl ?_
                refine G_iload_n (K := mX5_sheet) (i := 1) dX5_sheet_116 rfl rfl ?_
                refine G_ld (K := mX5_sheet) q dX5_sheet_117 rfl rfl (by omega) (by decide) ?_
                rw [h17 q, ups_same]
                exact G_iret (st := []) (K := mX5_sheet) dX5_sheet_118 rfl (hQ _ _ (by
                  rw [show opSheet σ (nI q) b n = ((if b = 0 then (0 : Int32) else n), newS σ (cut (nI q)) b n) from (if_pos hB).trans ((if_pos hb).trans ((if_neg (Int32.not_lt.mpr c37)).trans (if_neg (Int32.not_lt.mpr c51)))), cut_nI (by omega)]
                  exact ⟨rfl, hR.newSh hq h16 h17 h18 h18o h3c⟩))
              · skip
                rw [show (40 : Int32) = nI 40 from rfl, le_nn (by omega) (by omega)] at c90
                refine G_aload_n (K := mX5_sheet) (i := 0) dX5_sheet_93 rfl rfl ?_
                refine G_getr (K := mX5_sheet) fX5_86 dX5_sheet_94 rfl rfl ?_
                refine G_bipush (K := mX5_sheet) (v := 40) dX5_sheet_97 (by decide) ?_
                refine G_iload_n (K := mX5_sheet) (i := 1) dX5_sheet_99 rfl rfl ?_
                refine G_imul (K := mX5_sheet) dX5_sheet_100 ?_
                refine G_iload (K := mX5_sheet) dX5_sheet_101 rfl ?_
                refine G_iadd (K := mX5_sheet) dX5_sheet_103 ?_
                rw [nI_40 (by omega) (by omega)]
                refine G_iconst (K := mX5_sheet) (v := 0) dX5_sheet_104 (by decide) ?_
                refine G_sto (K := mX5_sheet) (40 * q + i) dX5_sheet_105 rfl rfl (by omega) (by decide) ?_
                refine G_iincN (K := mX5_sheet) dX5_sheet_106 (by decide) rfl ?_
                refine G_goto (K := mX5_sheet) (tgt := 86) dX5_sheet_109 (by decide) ?_
                refine ih (i + 1) (by omega) (by omega) _ (fun x => by rw [ups_cell (by decide)]; exact h16 x) (fun x => by rw [ups_cell (by decide)]; exact h17 x) (fun j hj => ?_) (fun x hx => by rw [ups_ne (by omega)]; exact h18o x hx) (fun c a b d => by rw [ups_cell d]; exact h3c c a b d)
                by_cases hji : j = i
                · subst hji; rw [ups_same]
                · rw [ups_ne (by omega)]; exact h18 j (by omega)
            exact loop86 0 (by omega) _ (fun x => by rw [ups_cell (show (16 : Nat) ≠ 17 by decide)]) (fun x => by
              by_cases hx : x = q
              · subst hx; rw [ups_same, ups_same]; exact hX
              · rw [ups_ne (fun z => hx z.2), ups_ne (fun z => hx z.2), ups_ne (fun z => hx z.2)]) (fun j hj => absurd hj (by omega)) (fun x hx => by rw [ups_cell (by decide), ups_cell (by decide)]) (fun c a b d => by rw [ups_cell b, ups_cell a])
          · skip
            have hX : (0 : Int32) = (if b = 0 then (0 : Int32) else n) := (if_pos c74).symm
            refine G_iconst (K := mX5_sheet) (v := 0) dX5_sheet_77 (by decide) ?_
            refine G_goto (K := mX5_sheet) (tgt := 82) dX5_sheet_78 (by decide) ?_
            refine G_sto (K := mX5_sheet) q dX5_sheet_82 rfl rfl (by omega) (by decide) ?_
            refine G_iconst (K := mX5_sheet) (v := 0) dX5_sheet_83 (by decide) ?_
            refine G_istore (K := mX5_sheet) dX5_sheet_84 (by decide) ?_
            have loop86 : ∀ i, i ≤ 40 → ∀ M3 : Mem, (∀ x, M3 16 x = ups M 16 q b 16 x) → (∀ x, M3 17 x = ups M 17 q (if b = 0 then (0 : Int32) else n) 17 x) → (∀ j, j < i → M3 18 (40 * q + j) = 0) → (∀ x, (x < 40 * q ∨ 40 * q + 40 ≤ x) → M3 18 x = M 18 x) → (∀ c, c ≠ 16 → c ≠ 17 → c ≠ 18 → M3 c = M c) → G mX5_sheet shR 8 Q 86 [some (.ref 0), some (.int (nI q)), some (.int b), some (.int n), some (.int (nI i))] [] M3 := by
              refine upto 40 (fun i hi ih => ?_)
              intro M3 h16 h17 h18 h18o h3c
              refine G_iload (K := mX5_sheet) dX5_sheet_86 rfl ?_
              refine G_bipush (K := mX5_sheet) (v := 40) dX5_sheet_88 (by decide) ?_
              refine G_icmp_ge (K := mX5_sheet) (tgt := 112) dX5_sheet_90 (by decide) (fun c90 => ?_) (fun c90 => ?_)
              · skip
                rw [show (40 : Int32) = nI 40 from rfl, le_nn (by omega) (by omega)] at c90
                have hi40 : i = 40 := by omega
                subst hi40
                refine G_aload_n (K := mX5_sheet) (i := 0) dX5_sheet_112 rfl rfl ?_
                refine G_getr (K := mX5_sheet) fX5_83 dX5_sheet_113 rfl rfl ?_
                refine G_iload_n (K := mX5_sheet) (i := 1) dX5_sheet_116 rfl rfl ?_
                refine G_ld (K := mX5_sheet) q dX5_sheet_117 rfl rfl (by omega) (by decide) ?_
                rw [h17 q, ups_same]
                exact G_iret (st := []) (K := mX5_sheet) dX5_sheet_118 rfl (hQ _ _ (by
                  rw [show opSheet σ (nI q) b n = ((if b = 0 then (0 : Int32) else n), newS σ (cut (nI q)) b n) from (if_pos hB).trans ((if_pos hb).trans ((if_neg (Int32.not_lt.mpr c37)).trans (if_neg (Int32.not_lt.mpr c51)))), cut_nI (by omega)]
                  exact ⟨rfl, hR.newSh hq h16 h17 h18 h18o h3c⟩))
              · skip
                rw [show (40 : Int32) = nI 40 from rfl, le_nn (by omega) (by omega)] at c90
                refine G_aload_n (K := mX5_sheet) (i := 0) dX5_sheet_93 rfl rfl ?_
                refine G_getr (K := mX5_sheet) fX5_86 dX5_sheet_94 rfl rfl ?_
                refine G_bipush (K := mX5_sheet) (v := 40) dX5_sheet_97 (by decide) ?_
                refine G_iload_n (K := mX5_sheet) (i := 1) dX5_sheet_99 rfl rfl ?_
                refine G_imul (K := mX5_sheet) dX5_sheet_100 ?_
                refine G_iload (K := mX5_sheet) dX5_sheet_101 rfl ?_
                refine G_iadd (K := mX5_sheet) dX5_sheet_103 ?_
                rw [nI_40 (by omega) (by omega)]
                refine G_iconst (K := mX5_sheet) (v := 0) dX5_sheet_104 (by decide) ?_
                refine G_sto (K := mX5_sheet) (40 * q + i) dX5_sheet_105 rfl rfl (by omega) (by decide) ?_
                refine G_iincN (K := mX5_sheet) dX5_sheet_106 (by decide) rfl ?_
                refine G_goto (K := mX5_sheet) (tgt := 86) dX5_sheet_109 (by decide) ?_
                refine ih (i + 1) (by omega) (by omega) _ (fun x => by rw [ups_cell (by decide)]; exact h16 x) (fun x => by rw [ups_cell (by decide)]; exact h17 x) (fun j hj => ?_) (fun x hx => by rw [ups_ne (by omega)]; exact h18o x hx) (fun c a b d => by rw [ups_cell d]; exact h3c c a b d)
                by_cases hji : j = i
                · subst hji; rw [ups_same]
                · rw [ups_ne (by omega)]; exact h18 j (by omega)
            exact loop86 0 (by omega) _ (fun x => by rw [ups_cell (show (16 : Nat) ≠ 17 by decide)]) (fun x => by
              by_cases hx : x = q
              · subst hx; rw [ups_same, ups_same]; exact hX
              · rw [ups_ne (fun z => hx z.2), ups_ne (fun z => hx z.2), ups_ne (fun z => hx z.2)]) (fun j hj => absurd hj (by omega)) (fun x hx => by rw [ups_cell (by decide), ups_cell (by decide)]) (fun c a b d => by rw [ups_cell b, ups_cell a])
        · skip
          refine G_aload_n (K := mX5_sheet) (i := 0) dX5_sheet_54 rfl rfl ?_
          refine G_ldc (K := mX5_sheet) dX5_sheet_55 kX5_92 ?_
          refine G_call0 (K := mX5_sheet) (Q' := PostR (tl σ 0)) (rf_finding hR (k := 0) (by omega) (fun _ _ h => h)) vX5_finding rfl lX5_109 ⟨_, _, _, rfl, rfl, rfl⟩ (by decide) (Nat.le_of_ble_eq_true rfl) dX5_sheet_57 rfl ?_
          rintro v M1 ⟨rfl, hR1⟩
          exact G_iret (st := []) (K := mX5_sheet) dX5_sheet_60 rfl (hQ _ _ (by rw [show opSheet σ (nI q) b n = _ from (by unfold opSheet; exact (if_pos hB).trans ((if_pos hb).trans ((if_neg (Int32.not_lt.mpr c37)).trans (if_pos (Int32.not_le.mp c51)))))]; exact ⟨rfl, hR1⟩))
      · skip
        refine G_aload_n (K := mX5_sheet) (i := 0) dX5_sheet_40 rfl rfl ?_
        refine G_ldcw (K := mX5_sheet) dX5_sheet_41 kX5_344 ?_
        refine G_call0 (K := mX5_sheet) (Q' := PostR (tl σ 6)) (rf_finding hR (k := 6) (by omega) (fun _ _ h => h)) vX5_finding rfl lX5_109 ⟨_, _, _, rfl, rfl, rfl⟩ (by decide) (Nat.le_of_ble_eq_true rfl) dX5_sheet_44 rfl ?_
        rintro v M1 ⟨rfl, hR1⟩
        exact G_iret (st := []) (K := mX5_sheet) dX5_sheet_47 rfl (hQ _ _ (by rw [show opSheet σ (nI q) b n = _ from (by unfold opSheet; exact (if_pos hB).trans ((if_pos hb).trans (if_pos (Int32.not_le.mp c37))))]; exact ⟨rfl, hR1⟩))
    · skip
      refine G_iload_n (K := mX5_sheet) (i := 2) dX5_sheet_11 rfl rfl ?_
      refine G_bipush (K := mX5_sheet) (v := 8) dX5_sheet_12 (by decide) ?_
      refine G_icmp_eq (K := mX5_sheet) (tgt := 36) dX5_sheet_14 (by decide) (fun c14 => ?_) (fun c14 => ?_)
      · skip
        have hb : bitsOK b = true := decide_eq_true (Or.inr (Or.inl c14))
        refine G_iload_n (K := mX5_sheet) (i := 3) dX5_sheet_36 rfl rfl ?_
        refine G_if_ge (K := mX5_sheet) (tgt := 48) dX5_sheet_37 (by decide) (fun c37 => ?_) (fun c37 => ?_)
        · skip
          refine G_iload_n (K := mX5_sheet) (i := 3) dX5_sheet_48 rfl rfl ?_
          refine G_bipush (K := mX5_sheet) (v := 40) dX5_sheet_49 (by decide) ?_
          refine G_icmp_le (K := mX5_sheet) (tgt := 61) dX5_sheet_51 (by decide) (fun c51 => ?_) (fun c51 => ?_)
          · skip
            refine G_aload_n (K := mX5_sheet) (i := 0) dX5_sheet_61 rfl rfl ?_
            refine G_getr (K := mX5_sheet) fX5_80 dX5_sheet_62 rfl rfl ?_
            refine G_iload_n (K := mX5_sheet) (i := 1) dX5_sheet_65 rfl rfl ?_
            refine G_iload_n (K := mX5_sheet) (i := 2) dX5_sheet_66 rfl rfl ?_
            refine G_sto (K := mX5_sheet) q dX5_sheet_67 rfl rfl (by omega) (by decide) ?_
            refine G_aload_n (K := mX5_sheet) (i := 0) dX5_sheet_68 rfl rfl ?_
            refine G_getr (K := mX5_sheet) fX5_83 dX5_sheet_69 rfl rfl ?_
            refine G_iload_n (K := mX5_sheet) (i := 1) dX5_sheet_72 rfl rfl ?_
            refine G_iload_n (K := mX5_sheet) (i := 2) dX5_sheet_73 rfl rfl ?_
            refine G_if_ne (K := mX5_sheet) (tgt := 81) dX5_sheet_74 (by decide) (fun c74 => ?_) (fun c74 => ?_)
            · skip
              have hX : n = (if b = 0 then (0 : Int32) else n) := (if_neg c74).symm
              refine G_iload_n (K := mX5_sheet) (i := 3) dX5_sheet_81 rfl rfl ?_
              refine G_sto (K := mX5_sheet) q dX5_sheet_82 rfl rfl (by omega) (by decide) ?_
              refine G_iconst (K := mX5_sheet) (v := 0) dX5_sheet_83 (by decide) ?_
              refine G_istore (K := mX5_sheet) dX5_sheet_84 (by decide) ?_
              have loop86 : ∀ i, i ≤ 40 → ∀ M3 : Mem, (∀ x, M3 16 x = ups M 16 q b 16 x) → (∀ x, M3 17 x = ups M 17 q (if b = 0 then (0 : Int32) else n) 17 x) → (∀ j, j < i → M3 18 (40 * q + j) = 0) → (∀ x, (x < 40 * q ∨ 40 * q + 40 ≤ x) → M3 18 x = M 18 x) → (∀ c, c ≠ 16 → c ≠ 17 → c ≠ 18 → M3 c = M c) → G mX5_sheet shR 8 Q 86 [some (.ref 0), some (.int (nI q)), some (.int b), some (.int n), some (.int (nI i))] [] M3 := by
                refine upto 40 (fun i hi ih => ?_)
                intro M3 h16 h17 h18 h18o h3c
                refine G_iload (K := mX5_sheet) dX5_sheet_86 rfl ?_
                refine G_bipush (K := mX5_sheet) (v := 40) dX5_sheet_88 (by decide) ?_
                refine G_icmp_ge (K := mX5_sheet) (tgt := 112) dX5_sheet_90 (by decide) (fun c90 => ?_) (fun c90 => ?_)
                · skip
                  rw [show (40 : Int32) = nI 40 from rfl, le_nn (by omega) (by omega)] at c90
                  have hi40 : i = 40 := by omega
                  subst hi40
                  refine G_aload_n (K := mX5_sheet) (i := 0) dX5_sheet_112 rfl rfl ?_
                  refine G_getr (K := mX5_sheet) fX5_83 dX5_sheet_113 rfl rfl ?_
                  refine G_iload_n (K := mX5_sheet) (i := 1) dX5_sheet_116 rfl rfl ?_
                  refine G_ld (K := mX5_sheet) q dX5_sheet_117 rfl rfl (by omega) (by decide) ?_
                  rw [h17 q, ups_same]
                  exact G_iret (st := []) (K := mX5_sheet) dX5_sheet_118 rfl (hQ _ _ (by
                    rw [show opSheet σ (nI q) b n = ((if b = 0 then (0 : Int32) else n), newS σ (cut (nI q)) b n) from (if_pos hB).trans ((if_pos hb).trans ((if_neg (Int32.not_lt.mpr c37)).trans (if_neg (Int32.not_lt.mpr c51)))), cut_nI (by omega)]
                    exact ⟨rfl, hR.newSh hq h16 h17 h18 h18o h3c⟩))
                · skip
                  rw [show (40 : Int32) = nI 40 from rfl, le_nn (by omega) (by omega)] at c90
                  refine G_aload_n (K := mX5_sheet) (i := 0) dX5_sheet_93 rfl rfl ?_
                  refine G_getr (K := mX5_sheet) fX5_86 dX5_sheet_94 rfl rfl ?_
                  refine G_bipush (K := mX5_sheet) (v := 40) dX5_sheet_97 (by decide) ?_
                  refine G_iload_n (K := mX5_sheet) (i := 1) dX5_sheet_99 rfl rfl ?_
                  refine G_imul (K := mX5_sheet) dX5_sheet_100 ?_
                  refine G_iload (K := mX5_sheet) dX5_sheet_101 rfl ?_
                  refine G_iadd (K := mX5_sheet) dX5_sheet_103 ?_
                  rw [nI_40 (by omega) (by omega)]
                  refine G_iconst (K := mX5_sheet) (v := 0) dX5_sheet_104 (by decide) ?_
                  refine G_sto (K := mX5_sheet) (40 * q + i) dX5_sheet_105 rfl rfl (by omega) (by decide) ?_
                  refine G_iincN (K := mX5_sheet) dX5_sheet_106 (by decide) rfl ?_
                  refine G_goto (K := mX5_sheet) (tgt := 86) dX5_sheet_109 (by decide) ?_
                  refine ih (i + 1) (by omega) (by omega) _ (fun x => by rw [ups_cell (by decide)]; exact h16 x) (fun x => by rw [ups_cell (by decide)]; exact h17 x) (fun j hj => ?_) (fun x hx => by rw [ups_ne (by omega)]; exact h18o x hx) (fun c a b d => by rw [ups_cell d]; exact h3c c a b d)
                  by_cases hji : j = i
                  · subst hji; rw [ups_same]
                  · rw [ups_ne (by omega)]; exact h18 j (by omega)
              exact loop86 0 (by omega) _ (fun x => by rw [ups_cell (show (16 : Nat) ≠ 17 by decide)]) (fun x => by
                by_cases hx : x = q
                · subst hx; rw [ups_same, ups_same]; exact hX
                · rw [ups_ne (fun z => hx z.2), ups_ne (fun z => hx z.2), ups_ne (fun z => hx z.2)]) (fun j hj => absurd hj (by omega)) (fun x hx => by rw [ups_cell (by decide), ups_cell (by decide)]) (fun c a b d => by rw [ups_cell b, ups_cell a])
            · skip
              have hX : (0 : Int32) = (if b = 0 then (0 : Int32) else n) := (if_pos c74).symm
              refine G_iconst (K := mX5_sheet) (v := 0) dX5_sheet_77 (by decide) ?_
              refine G_goto (K := mX5_sheet) (tgt := 82) dX5_sheet_78 (by decide) ?_
              refine G_sto (K := mX5_sheet) q dX5_sheet_82 rfl rfl (by omega) (by decide) ?_
              refine G_iconst (K := mX5_sheet) (v := 0) dX5_sheet_83 (by decide) ?_
              refine G_istore (K := mX5_sheet) dX5_sheet_84 (by decide) ?_
              have loop86 : ∀ i, i ≤ 40 → ∀ M3 : Mem, (∀ x, M3 16 x = ups M 16 q b 16 x) → (∀ x, M3 17 x = ups M 17 q (if b = 0 then (0 : Int32) else n) 17 x) → (∀ j, j < i → M3 18 (40 * q + j) = 0) → (∀ x, (x < 40 * q ∨ 40 * q + 40 ≤ x) → M3 18 x = M 18 x) → (∀ c, c ≠ 16 → c ≠ 17 → c ≠ 18 → M3 c = M c) → G mX5_sheet shR 8 Q 86 [some (.ref 0), some (.int (nI q)), some (.int b), some (.int n), some (.int (nI i))] [] M3 := by
                refine upto 40 (fun i hi ih => ?_)
                intro M3 h16 h17 h18 h18o h3c
                refine G_iload (K := mX5_sheet) dX5_sheet_86 rfl ?_
                refine G_bipush (K := mX5_sheet) (v := 40) dX5_sheet_88 (by decide) ?_
                refine G_icmp_ge (K := mX5_sheet) (tgt := 112) dX5_sheet_90 (by decide) (fun c90 => ?_) (fun c90 => ?_)
                · skip
                  rw [show (40 : Int32) = nI 40 from rfl, le_nn (by omega) (by omega)] at c90
                  have hi40 : i = 40 := by omega
                  subst hi40
                  refine G_aload_n (K := mX5_sheet) (i := 0) dX5_sheet_112 rfl rfl ?_
                  refine G_getr (K := mX5_sheet) fX5_83 dX5_sheet_113 rfl rfl ?_
                  refine G_iload_n (K := mX5_sheet) (i := 1) dX5_sheet_116 rfl rfl ?_
                  refine G_ld (K := mX5_sheet) q dX5_sheet_117 rfl rfl (by omega) (by decide) ?_
                  rw [h17 q, ups_same]
                  exact G_iret (st := []) (K := mX5_sheet) dX5_sheet_118 rfl (hQ _ _ (by
                    rw [show opSheet σ (nI q) b n = ((if b = 0 then (0 : Int32) else n), newS σ (cut (nI q)) b n) from (if_pos hB).trans ((if_pos hb).trans ((if_neg (Int32.not_lt.mpr c37)).trans (if_neg (Int32.not_lt.mpr c51)))), cut_nI (by omega)]
                    exact ⟨rfl, hR.newSh hq h16 h17 h18 h18o h3c⟩))
                · skip
                  rw [show (40 : Int32) = nI 40 from rfl, le_nn (by omega) (by omega)] at c90
                  refine G_aload_n (K := mX5_sheet) (i := 0) dX5_sheet_93 rfl rfl ?_
                  refine G_getr (K := mX5_sheet) fX5_86 dX5_sheet_94 rfl rfl ?_
                  refine G_bipush (K := mX5_sheet) (v := 40) dX5_sheet_97 (by decide) ?_
                  refine G_iload_n (K := mX5_sheet) (i := 1) dX5_sheet_99 rfl rfl ?_
                  refine G_imul (K := mX5_sheet) dX5_sheet_100 ?_
                  refine G_iload (K := mX5_sheet) dX5_sheet_101 rfl ?_
                  refine G_iadd (K := mX5_sheet) dX5_sheet_103 ?_
                  rw [nI_40 (by omega) (by omega)]
                  refine G_iconst (K := mX5_sheet) (v := 0) dX5_sheet_104 (by decide) ?_
                  refine G_sto (K := mX5_sheet) (40 * q + i) dX5_sheet_105 rfl rfl (by omega) (by decide) ?_
                  refine G_iincN (K := mX5_sheet) dX5_sheet_106 (by decide) rfl ?_
                  refine G_goto (K := mX5_sheet) (tgt := 86) dX5_sheet_109 (by decide) ?_
                  refine ih (i + 1) (by omega) (by omega) _ (fun x => by rw [ups_cell (by decide)]; exact h16 x) (fun x => by rw [ups_cell (by decide)]; exact h17 x) (fun j hj => ?_) (fun x hx => by rw [ups_ne (by omega)]; exact h18o x hx) (fun c a b d => by rw [ups_cell d]; exact h3c c a b d)
                  by_cases hji : j = i
                  · subst hji; rw [ups_same]
                  · rw [ups_ne (by omega)]; exact h18 j (by omega)
              exact loop86 0 (by omega) _ (fun x => by rw [ups_cell (show (16 : Nat) ≠ 17 by decide)]) (fun x => by
                by_cases hx : x = q
                · subst hx; rw [ups_same, ups_same]; exact hX
                · rw [ups_ne (fun z => hx z.2), ups_ne (fun z => hx z.2), ups_ne (fun z => hx z.2)]) (fun j hj => absurd hj (by omega)) (fun x hx => by rw [ups_cell (by decide), ups_cell (by decide)]) (fun c a b d => by rw [ups_cell b, ups_cell a])
          · skip
            refine G_aload_n (K := mX5_sheet) (i := 0) dX5_sheet_54 rfl rfl ?_
            refine G_ldc (K := mX5_sheet) dX5_sheet_55 kX5_92 ?_
            refine G_call0 (K := mX5_sheet) (Q' := PostR (tl σ 0)) (rf_finding hR (k := 0) (by omega) (fun _ _ h => h)) vX5_finding rfl lX5_109 ⟨_, _, _, rfl, rfl, rfl⟩ (by decide) (Nat.le_of_ble_eq_true rfl) dX5_sheet_57 rfl ?_
            rintro v M1 ⟨rfl, hR1⟩
            exact G_iret (st := []) (K := mX5_sheet) dX5_sheet_60 rfl (hQ _ _ (by rw [show opSheet σ (nI q) b n = _ from (by unfold opSheet; exact (if_pos hB).trans ((if_pos hb).trans ((if_neg (Int32.not_lt.mpr c37)).trans (if_pos (Int32.not_le.mp c51)))))]; exact ⟨rfl, hR1⟩))
        · skip
          refine G_aload_n (K := mX5_sheet) (i := 0) dX5_sheet_40 rfl rfl ?_
          refine G_ldcw (K := mX5_sheet) dX5_sheet_41 kX5_344 ?_
          refine G_call0 (K := mX5_sheet) (Q' := PostR (tl σ 6)) (rf_finding hR (k := 6) (by omega) (fun _ _ h => h)) vX5_finding rfl lX5_109 ⟨_, _, _, rfl, rfl, rfl⟩ (by decide) (Nat.le_of_ble_eq_true rfl) dX5_sheet_44 rfl ?_
          rintro v M1 ⟨rfl, hR1⟩
          exact G_iret (st := []) (K := mX5_sheet) dX5_sheet_47 rfl (hQ _ _ (by rw [show opSheet σ (nI q) b n = _ from (by unfold opSheet; exact (if_pos hB).trans ((if_pos hb).trans (if_pos (Int32.not_le.mp c37))))]; exact ⟨rfl, hR1⟩))
      · skip
        refine G_iload_n (K := mX5_sheet) (i := 2) dX5_sheet_17 rfl rfl ?_
        refine G_bipush (K := mX5_sheet) (v := 16) dX5_sheet_18 (by decide) ?_
        refine G_icmp_eq (K := mX5_sheet) (tgt := 36) dX5_sheet_20 (by decide) (fun c20 => ?_) (fun c20 => ?_)
        · skip
          have hb : bitsOK b = true := decide_eq_true (Or.inr (Or.inr (Or.inl c20)))
          refine G_iload_n (K := mX5_sheet) (i := 3) dX5_sheet_36 rfl rfl ?_
          refine G_if_ge (K := mX5_sheet) (tgt := 48) dX5_sheet_37 (by decide) (fun c37 => ?_) (fun c37 => ?_)
          · skip
            refine G_iload_n (K := mX5_sheet) (i := 3) dX5_sheet_48 rfl rfl ?_
            refine G_bipush (K := mX5_sheet) (v := 40) dX5_sheet_49 (by decide) ?_
            refine G_icmp_le (K := mX5_sheet) (tgt := 61) dX5_sheet_51 (by decide) (fun c51 => ?_) (fun c51 => ?_)
            · skip
              refine G_aload_n (K := mX5_sheet) (i := 0) dX5_sheet_61 rfl rfl ?_
              refine G_getr (K := mX5_sheet) fX5_80 dX5_sheet_62 rfl rfl ?_
              refine G_iload_n (K := mX5_sheet) (i := 1) dX5_sheet_65 rfl rfl ?_
              refine G_iload_n (K := mX5_sheet) (i := 2) dX5_sheet_66 rfl rfl ?_
              refine G_sto (K := mX5_sheet) q dX5_sheet_67 rfl rfl (by omega) (by decide) ?_
              refine G_aload_n (K := mX5_sheet) (i := 0) dX5_sheet_68 rfl rfl ?_
              refine G_getr (K := mX5_sheet) fX5_83 dX5_sheet_69 rfl rfl ?_
              refine G_iload_n (K := mX5_sheet) (i := 1) dX5_sheet_72 rfl rfl ?_
              refine G_iload_n (K := mX5_sheet) (i := 2) dX5_sheet_73 rfl rfl ?_
              refine G_if_ne (K := mX5_sheet) (tgt := 81) dX5_sheet_74 (by decide) (fun c74 => ?_) (fun c74 => ?_)
              · skip
                have hX : n = (if b = 0 then (0 : Int32) else n) := (if_neg c74).symm
                refine G_iload_n (K := mX5_sheet) (i := 3) dX5_sheet_81 rfl rfl ?_
                refine G_sto (K := mX5_sheet) q dX5_sheet_82 rfl rfl (by omega) (by decide) ?_
                refine G_iconst (K := mX5_sheet) (v := 0) dX5_sheet_83 (by decide) ?_
                refine G_istore (K := mX5_sheet) dX5_sheet_84 (by decide) ?_
                have loop86 : ∀ i, i ≤ 40 → ∀ M3 : Mem, (∀ x, M3 16 x = ups M 16 q b 16 x) → (∀ x, M3 17 x = ups M 17 q (if b = 0 then (0 : Int32) else n) 17 x) → (∀ j, j < i → M3 18 (40 * q + j) = 0) → (∀ x, (x < 40 * q ∨ 40 * q + 40 ≤ x) → M3 18 x = M 18 x) → (∀ c, c ≠ 16 → c ≠ 17 → c ≠ 18 → M3 c = M c) → G mX5_sheet shR 8 Q 86 [some (.ref 0), some (.int (nI q)), some (.int b), some (.int n), some (.int (nI i))] [] M3 := by
                  refine upto 40 (fun i hi ih => ?_)
                  intro M3 h16 h17 h18 h18o h3c
                  refine G_iload (K := mX5_sheet) dX5_sheet_86 rfl ?_
                  refine G_bipush (K := mX5_sheet) (v := 40) dX5_sheet_88 (by decide) ?_
                  refine G_icmp_ge (K := mX5_sheet) (tgt := 112) dX5_sheet_90 (by decide) (fun c90 => ?_) (fun c90 => ?_)
                  · skip
                    rw [show (40 : Int32) = nI 40 from rfl, le_nn (by omega) (by omega)] at c90
                    have hi40 : i = 40 := by omega
                    subst hi40
                    refine G_aload_n (K := mX5_sheet) (i := 0) dX5_sheet_112 rfl rfl ?_
                    refine G_getr (K := mX5_sheet) fX5_83 dX5_sheet_113 rfl rfl ?_
                    refine G_iload_n (K := mX5_sheet) (i := 1) dX5_sheet_116 rfl rfl ?_
                    refine G_ld (K := mX5_sheet) q dX5_sheet_117 rfl rfl (by omega) (by decide) ?_
                    rw [h17 q, ups_same]
                    exact G_iret (st := []) (K := mX5_sheet) dX5_sheet_118 rfl (hQ _ _ (by
                      rw [show opSheet σ (nI q) b n = ((if b = 0 then (0 : Int32) else n), newS σ (cut (nI q)) b n) from (if_pos hB).trans ((if_pos hb).trans ((if_neg (Int32.not_lt.mpr c37)).trans (if_neg (Int32.not_lt.mpr c51)))), cut_nI (by omega)]
                      exact ⟨rfl, hR.newSh hq h16 h17 h18 h18o h3c⟩))
                  · skip
                    rw [show (40 : Int32) = nI 40 from rfl, le_nn (by omega) (by omega)] at c90
                    refine G_aload_n (K := mX5_sheet) (i := 0) dX5_sheet_93 rfl rfl ?_
                    refine G_getr (K := mX5_sheet) fX5_86 dX5_sheet_94 rfl rfl ?_
                    refine G_bipush (K := mX5_sheet) (v := 40) dX5_sheet_97 (by decide) ?_
                    refine G_iload_n (K := mX5_sheet) (i := 1) dX5_sheet_99 rfl rfl ?_
                    refine G_imul (K := mX5_sheet) dX5_sheet_100 ?_
                    refine G_iload (K := mX5_sheet) dX5_sheet_101 rfl ?_
                    refine G_iadd (K := mX5_sheet) dX5_sheet_103 ?_
                    rw [nI_40 (by omega) (by omega)]
                    refine G_iconst (K := mX5_sheet) (v := 0) dX5_sheet_104 (by decide) ?_
                    refine G_sto (K := mX5_sheet) (40 * q + i) dX5_sheet_105 rfl rfl (by omega) (by decide) ?_
                    refine G_iincN (K := mX5_sheet) dX5_sheet_106 (by decide) rfl ?_
                    refine G_goto (K := mX5_sheet) (tgt := 86) dX5_sheet_109 (by decide) ?_
                    refine ih (i + 1) (by omega) (by omega) _ (fun x => by rw [ups_cell (by decide)]; exact h16 x) (fun x => by rw [ups_cell (by decide)]; exact h17 x) (fun j hj => ?_) (fun x hx => by rw [ups_ne (by omega)]; exact h18o x hx) (fun c a b d => by rw [ups_cell d]; exact h3c c a b d)
                    by_cases hji : j = i
                    · subst hji; rw [ups_same]
                    · rw [ups_ne (by omega)]; exact h18 j (by omega)
                exact loop86 0 (by omega) _ (fun x => by rw [ups_cell (show (16 : Nat) ≠ 17 by decide)]) (fun x => by
                  by_cases hx : x = q
                  · subst hx; rw [ups_same, ups_same]; exact hX
                  · rw [ups_ne (fun z => hx z.2), ups_ne (fun z => hx z.2), ups_ne (fun z => hx z.2)]) (fun j hj => absurd hj (by omega)) (fun x hx => by rw [ups_cell (by decide), ups_cell (by decide)]) (fun c a b d => by rw [ups_cell b, ups_cell a])
              · skip
                have hX : (0 : Int32) = (if b = 0 then (0 : Int32) else n) := (if_pos c74).symm
                refine G_iconst (K := mX5_sheet) (v := 0) dX5_sheet_77 (by decide) ?_
                refine G_goto (K := mX5_sheet) (tgt := 82) dX5_sheet_78 (by decide) ?_
                refine G_sto (K := mX5_sheet) q dX5_sheet_82 rfl rfl (by omega) (by decide) ?_
                refine G_iconst (K := mX5_sheet) (v := 0) dX5_sheet_83 (by decide) ?_
                refine G_istore (K := mX5_sheet) dX5_sheet_84 (by decide) ?_
                have loop86 : ∀ i, i ≤ 40 → ∀ M3 : Mem, (∀ x, M3 16 x = ups M 16 q b 16 x) → (∀ x, M3 17 x = ups M 17 q (if b = 0 then (0 : Int32) else n) 17 x) → (∀ j, j < i → M3 18 (40 * q + j) = 0) → (∀ x, (x < 40 * q ∨ 40 * q + 40 ≤ x) → M3 18 x = M 18 x) → (∀ c, c ≠ 16 → c ≠ 17 → c ≠ 18 → M3 c = M c) → G mX5_sheet shR 8 Q 86 [some (.ref 0), some (.int (nI q)), some (.int b), some (.int n), some (.int (nI i))] [] M3 := by
                  refine upto 40 (fun i hi ih => ?_)
                  intro M3 h16 h17 h18 h18o h3c
                  refine G_iload (K := mX5_sheet) dX5_sheet_86 rfl ?_
                  refine G_bipush (K := mX5_sheet) (v := 40) dX5_sheet_88 (by decide) ?_
                  refine G_icmp_ge (K := mX5_sheet) (tgt := 112) dX5_sheet_90 (by decide) (fun c90 => ?_) (fun c90 => ?_)
                  · skip
                    rw [show (40 : Int32) = nI 40 from rfl, le_nn (by omega) (by omega)] at c90
                    have hi40 : i = 40 := by omega
                    subst hi40
                    refine G_aload_n (K := mX5_sheet) (i := 0) dX5_sheet_112 rfl rfl ?_
                    refine G_getr (K := mX5_sheet) fX5_83 dX5_sheet_113 rfl rfl ?_
                    refine G_iload_n (K := mX5_sheet) (i := 1) dX5_sheet_116 rfl rfl ?_
                    refine G_ld (K := mX5_sheet) q dX5_sheet_117 rfl rfl (by omega) (by decide) ?_
                    rw [h17 q, ups_same]
                    exact G_iret (st := []) (K := mX5_sheet) dX5_sheet_118 rfl (hQ _ _ (by
                      rw [show opSheet σ (nI q) b n = ((if b = 0 then (0 : Int32) else n), newS σ (cut (nI q)) b n) from (if_pos hB).trans ((if_pos hb).trans ((if_neg (Int32.not_lt.mpr c37)).trans (if_neg (Int32.not_lt.mpr c51)))), cut_nI (by omega)]
                      exact ⟨rfl, hR.newSh hq h16 h17 h18 h18o h3c⟩))
                  · skip
                    rw [show (40 : Int32) = nI 40 from rfl, le_nn (by omega) (by omega)] at c90
                    refine G_aload_n (K := mX5_sheet) (i := 0) dX5_sheet_93 rfl rfl ?_
                    refine G_getr (K := mX5_sheet) fX5_86 dX5_sheet_94 rfl rfl ?_
                    refine G_bipush (K := mX5_sheet) (v := 40) dX5_sheet_97 (by decide) ?_
                    refine G_iload_n (K := mX5_sheet) (i := 1) dX5_sheet_99 rfl rfl ?_
                    refine G_imul (K := mX5_sheet) dX5_sheet_100 ?_
                    refine G_iload (K := mX5_sheet) dX5_sheet_101 rfl ?_
                    refine G_iadd (K := mX5_sheet) dX5_sheet_103 ?_
                    rw [nI_40 (by omega) (by omega)]
                    refine G_iconst (K := mX5_sheet) (v := 0) dX5_sheet_104 (by decide) ?_
                    refine G_sto (K := mX5_sheet) (40 * q + i) dX5_sheet_105 rfl rfl (by omega) (by decide) ?_
                    refine G_iincN (K := mX5_sheet) dX5_sheet_106 (by decide) rfl ?_
                    refine G_goto (K := mX5_sheet) (tgt := 86) dX5_sheet_109 (by decide) ?_
                    refine ih (i + 1) (by omega) (by omega) _ (fun x => by rw [ups_cell (by decide)]; exact h16 x) (fun x => by rw [ups_cell (by decide)]; exact h17 x) (fun j hj => ?_) (fun x hx => by rw [ups_ne (by omega)]; exact h18o x hx) (fun c a b d => by rw [ups_cell d]; exact h3c c a b d)
                    by_cases hji : j = i
                    · subst hji; rw [ups_same]
                    · rw [ups_ne (by omega)]; exact h18 j (by omega)
                exact loop86 0 (by omega) _ (fun x => by rw [ups_cell (show (16 : Nat) ≠ 17 by decide)]) (fun x => by
                  by_cases hx : x = q
                  · subst hx; rw [ups_same, ups_same]; exact hX
                  · rw [ups_ne (fun z => hx z.2), ups_ne (fun z => hx z.2), ups_ne (fun z => hx z.2)]) (fun j hj => absurd hj (by omega)) (fun x hx => by rw [ups_cell (by decide), ups_cell (by decide)]) (fun c a b d => by rw [ups_cell b, ups_cell a])
            · skip
              refine G_aload_n (K := mX5_sheet) (i := 0) dX5_sheet_54 rfl rfl ?_
              refine G_ldc (K := mX5_sheet) dX5_sheet_55 kX5_92 ?_
              refine G_call0 (K := mX5_sheet) (Q' := PostR (tl σ 0)) (rf_finding hR (k := 0) (by omega) (fun _ _ h => h)) vX5_finding rfl lX5_109 ⟨_, _, _, rfl, rfl, rfl⟩ (by decide) (Nat.le_of_ble_eq_true rfl) dX5_sheet_57 rfl ?_
              rintro v M1 ⟨rfl, hR1⟩
              exact G_iret (st := []) (K := mX5_sheet) dX5_sheet_60 rfl (hQ _ _ (by rw [show opSheet σ (nI q) b n = _ from (by unfold opSheet; exact (if_pos hB).trans ((if_pos hb).trans ((if_neg (Int32.not_lt.mpr c37)).trans (if_pos (Int32.not_le.mp c51)))))]; exact ⟨rfl, hR1⟩))
          · skip
            refine G_aload_n (K := mX5_sheet) (i := 0) dX5_sheet_40 rfl rfl ?_
            refine G_ldcw (K := mX5_sheet) dX5_sheet_41 kX5_344 ?_
            refine G_call0 (K := mX5_sheet) (Q' := PostR (tl σ 6)) (rf_finding hR (k := 6) (by omega) (fun _ _ h => h)) vX5_finding rfl lX5_109 ⟨_, _, _, rfl, rfl, rfl⟩ (by decide) (Nat.le_of_ble_eq_true rfl) dX5_sheet_44 rfl ?_
            rintro v M1 ⟨rfl, hR1⟩
            exact G_iret (st := []) (K := mX5_sheet) dX5_sheet_47 rfl (hQ _ _ (by rw [show opSheet σ (nI q) b n = _ from (by unfold opSheet; exact (if_pos hB).trans ((if_pos hb).trans (if_pos (Int32.not_le.mp c37))))]; exact ⟨rfl, hR1⟩))
        · skip
          refine G_iload_n (K := mX5_sheet) (i := 2) dX5_sheet_23 rfl rfl ?_
          refine G_bipush (K := mX5_sheet) (v := 32) dX5_sheet_24 (by decide) ?_
          refine G_icmp_eq (K := mX5_sheet) (tgt := 36) dX5_sheet_26 (by decide) (fun c26 => ?_) (fun c26 => ?_)
          · skip
            have hb : bitsOK b = true := decide_eq_true (Or.inr (Or.inr (Or.inr c26)))
            refine G_iload_n (K := mX5_sheet) (i := 3) dX5_sheet_36 rfl rfl ?_
            refine G_if_ge (K := mX5_sheet) (tgt := 48) dX5_sheet_37 (by decide) (fun c37 => ?_) (fun c37 => ?_)
            · skip
              refine G_iload_n (K := mX5_sheet) (i := 3) dX5_sheet_48 rfl rfl ?_
              refine G_bipush (K := mX5_sheet) (v := 40) dX5_sheet_49 (by decide) ?_
              refine G_icmp_le (K := mX5_sheet) (tgt := 61) dX5_sheet_51 (by decide) (fun c51 => ?_) (fun c51 => ?_)
              · skip
                refine G_aload_n (K := mX5_sheet) (i := 0) dX5_sheet_61 rfl rfl ?_
                refine G_getr (K := mX5_sheet) fX5_80 dX5_sheet_62 rfl rfl ?_
                refine G_iload_n (K := mX5_sheet) (i := 1) dX5_sheet_65 rfl rfl ?_
                refine G_iload_n (K := mX5_sheet) (i := 2) dX5_sheet_66 rfl rfl ?_
                refine G_sto (K := mX5_sheet) q dX5_sheet_67 rfl rfl (by omega) (by decide) ?_
                refine G_aload_n (K := mX5_sheet) (i := 0) dX5_sheet_68 rfl rfl ?_
                refine G_getr (K := mX5_sheet) fX5_83 dX5_sheet_69 rfl rfl ?_
                refine G_iload_n (K := mX5_sheet) (i := 1) dX5_sheet_72 rfl rfl ?_
                refine G_iload_n (K := mX5_sheet) (i := 2) dX5_sheet_73 rfl rfl ?_
                refine G_if_ne (K := mX5_sheet) (tgt := 81) dX5_sheet_74 (by decide) (fun c74 => ?_) (fun c74 => ?_)
                · skip
                  have hX : n = (if b = 0 then (0 : Int32) else n) := (if_neg c74).symm
                  refine G_iload_n (K := mX5_sheet) (i := 3) dX5_sheet_81 rfl rfl ?_
                  refine G_sto (K := mX5_sheet) q dX5_sheet_82 rfl rfl (by omega) (by decide) ?_
                  refine G_iconst (K := mX5_sheet) (v := 0) dX5_sheet_83 (by decide) ?_
                  refine G_istore (K := mX5_sheet) dX5_sheet_84 (by decide) ?_
                  have loop86 : ∀ i, i ≤ 40 → ∀ M3 : Mem, (∀ x, M3 16 x = ups M 16 q b 16 x) → (∀ x, M3 17 x = ups M 17 q (if b = 0 then (0 : Int32) else n) 17 x) → (∀ j, j < i → M3 18 (40 * q + j) = 0) → (∀ x, (x < 40 * q ∨ 40 * q + 40 ≤ x) → M3 18 x = M 18 x) → (∀ c, c ≠ 16 → c ≠ 17 → c ≠ 18 → M3 c = M c) → G mX5_sheet shR 8 Q 86 [some (.ref 0), some (.int (nI q)), some (.int b), some (.int n), some (.int (nI i))] [] M3 := by
                    refine upto 40 (fun i hi ih => ?_)
                    intro M3 h16 h17 h18 h18o h3c
                    refine G_iload (K := mX5_sheet) dX5_sheet_86 rfl ?_
                    refine G_bipush (K := mX5_sheet) (v := 40) dX5_sheet_88 (by decide) ?_
                    refine G_icmp_ge (K := mX5_sheet) (tgt := 112) dX5_sheet_90 (by decide) (fun c90 => ?_) (fun c90 => ?_)
                    · skip
                      rw [show (40 : Int32) = nI 40 from rfl, le_nn (by omega) (by omega)] at c90
                      have hi40 : i = 40 := by omega
                      subst hi40
                      refine G_aload_n (K := mX5_sheet) (i := 0) dX5_sheet_112 rfl rfl ?_
                      refine G_getr (K := mX5_sheet) fX5_83 dX5_sheet_113 rfl rfl ?_
                      refine G_iload_n (K := mX5_sheet) (i := 1) dX5_sheet_116 rfl rfl ?_
                      refine G_ld (K := mX5_sheet) q dX5_sheet_117 rfl rfl (by omega) (by decide) ?_
                      rw [h17 q, ups_same]
                      exact G_iret (st := []) (K := mX5_sheet) dX5_sheet_118 rfl (hQ _ _ (by
                        rw [show opSheet σ (nI q) b n = ((if b = 0 then (0 : Int32) else n), newS σ (cut (nI q)) b n) from (if_pos hB).trans ((if_pos hb).trans ((if_neg (Int32.not_lt.mpr c37)).trans (if_neg (Int32.not_lt.mpr c51)))), cut_nI (by omega)]
                        exact ⟨rfl, hR.newSh hq h16 h17 h18 h18o h3c⟩))
                    · skip
                      rw [show (40 : Int32) = nI 40 from rfl, le_nn (by omega) (by omega)] at c90
                      refine G_aload_n (K := mX5_sheet) (i := 0) dX5_sheet_93 rfl rfl ?_
                      refine G_getr (K := mX5_sheet) fX5_86 dX5_sheet_94 rfl rfl ?_
                      refine G_bipush (K := mX5_sheet) (v := 40) dX5_sheet_97 (by decide) ?_
                      refine G_iload_n (K := mX5_sheet) (i := 1) dX5_sheet_99 rfl rfl ?_
                      refine G_imul (K := mX5_sheet) dX5_sheet_100 ?_
                      refine G_iload (K := mX5_sheet) dX5_sheet_101 rfl ?_
                      refine G_iadd (K := mX5_sheet) dX5_sheet_103 ?_
                      rw [nI_40 (by omega) (by omega)]
                      refine G_iconst (K := mX5_sheet) (v := 0) dX5_sheet_104 (by decide) ?_
                      refine G_sto (K := mX5_sheet) (40 * q + i) dX5_sheet_105 rfl rfl (by omega) (by decide) ?_
                      refine G_iincN (K := mX5_sheet) dX5_sheet_106 (by decide) rfl ?_
                      refine G_goto (K := mX5_sheet) (tgt := 86) dX5_sheet_109 (by decide) ?_
                      refine ih (i + 1) (by omega) (by omega) _ (fun x => by rw [ups_cell (by decide)]; exact h16 x) (fun x => by rw [ups_cell (by decide)]; exact h17 x) (fun j hj => ?_) (fun x hx => by rw [ups_ne (by omega)]; exact h18o x hx) (fun c a b d => by rw [ups_cell d]; exact h3c c a b d)
                      by_cases hji : j = i
                      · subst hji; rw [ups_same]
                      · rw [ups_ne (by omega)]; exact h18 j (by omega)
                  exact loop86 0 (by omega) _ (fun x => by rw [ups_cell (show (16 : Nat) ≠ 17 by decide)]) (fun x => by
                    by_cases hx : x = q
                    · subst hx; rw [ups_same, ups_same]; exact hX
                    · rw [ups_ne (fun z => hx z.2), ups_ne (fun z => hx z.2), ups_ne (fun z => hx z.2)]) (fun j hj => absurd hj (by omega)) (fun x hx => by rw [ups_cell (by decide), ups_cell (by decide)]) (fun c a b d => by rw [ups_cell b, ups_cell a])
                · skip
                  have hX : (0 : Int32) = (if b = 0 then (0 : Int32) else n) := (if_pos c74).symm
                  refine G_iconst (K := mX5_sheet) (v := 0) dX5_sheet_77 (by decide) ?_
                  refine G_goto (K := mX5_sheet) (tgt := 82) dX5_sheet_78 (by decide) ?_
                  refine G_sto (K := mX5_sheet) q dX5_sheet_82 rfl rfl (by omega) (by decide) ?_
                  refine G_iconst (K := mX5_sheet) (v := 0) dX5_sheet_83 (by decide) ?_
                  refine G_istore (K := mX5_sheet) dX5_sheet_84 (by decide) ?_
                  have loop86 : ∀ i, i ≤ 40 → ∀ M3 : Mem, (∀ x, M3 16 x = ups M 16 q b 16 x) → (∀ x, M3 17 x = ups M 17 q (if b = 0 then (0 : Int32) else n) 17 x) → (∀ j, j < i → M3 18 (40 * q + j) = 0) → (∀ x, (x < 40 * q ∨ 40 * q + 40 ≤ x) → M3 18 x = M 18 x) → (∀ c, c ≠ 16 → c ≠ 17 → c ≠ 18 → M3 c = M c) → G mX5_sheet shR 8 Q 86 [some (.ref 0), some (.int (nI q)), some (.int b), some (.int n), some (.int (nI i))] [] M3 := by
                    refine upto 40 (fun i hi ih => ?_)
                    intro M3 h16 h17 h18 h18o h3c
                    refine G_iload (K := mX5_sheet) dX5_sheet_86 rfl ?_
                    refine G_bipush (K := mX5_sheet) (v := 40) dX5_sheet_88 (by decide) ?_
                    refine G_icmp_ge (K := mX5_sheet) (tgt := 112) dX5_sheet_90 (by decide) (fun c90 => ?_) (fun c90 => ?_)
                    · skip
                      rw [show (40 : Int32) = nI 40 from rfl, le_nn (by omega) (by omega)] at c90
                      have hi40 : i = 40 := by omega
                      subst hi40
                      refine G_aload_n (K := mX5_sheet) (i := 0) dX5_sheet_112 rfl rfl ?_
                      refine G_getr (K := mX5_sheet) fX5_83 dX5_sheet_113 rfl rfl ?_
                      refine G_iload_n (K := mX5_sheet) (i := 1) dX5_sheet_116 rfl rfl ?_
                      refine G_ld (K := mX5_sheet) q dX5_sheet_117 rfl rfl (by omega) (by decide) ?_
                      rw [h17 q, ups_same]
                      exact G_iret (st := []) (K := mX5_sheet) dX5_sheet_118 rfl (hQ _ _ (by
                        rw [show opSheet σ (nI q) b n = ((if b = 0 then (0 : Int32) else n), newS σ (cut (nI q)) b n) from (if_pos hB).trans ((if_pos hb).trans ((if_neg (Int32.not_lt.mpr c37)).trans (if_neg (Int32.not_lt.mpr c51)))), cut_nI (by omega)]
                        exact ⟨rfl, hR.newSh hq h16 h17 h18 h18o h3c⟩))
                    · skip
                      rw [show (40 : Int32) = nI 40 from rfl, le_nn (by omega) (by omega)] at c90
                      refine G_aload_n (K := mX5_sheet) (i := 0) dX5_sheet_93 rfl rfl ?_
                      refine G_getr (K := mX5_sheet) fX5_86 dX5_sheet_94 rfl rfl ?_
                      refine G_bipush (K := mX5_sheet) (v := 40) dX5_sheet_97 (by decide) ?_
                      refine G_iload_n (K := mX5_sheet) (i := 1) dX5_sheet_99 rfl rfl ?_
                      refine G_imul (K := mX5_sheet) dX5_sheet_100 ?_
                      refine G_iload (K := mX5_sheet) dX5_sheet_101 rfl ?_
                      refine G_iadd (K := mX5_sheet) dX5_sheet_103 ?_
                      rw [nI_40 (by omega) (by omega)]
                      refine G_iconst (K := mX5_sheet) (v := 0) dX5_sheet_104 (by decide) ?_
                      refine G_sto (K := mX5_sheet) (40 * q + i) dX5_sheet_105 rfl rfl (by omega) (by decide) ?_
                      refine G_iincN (K := mX5_sheet) dX5_sheet_106 (by decide) rfl ?_
                      refine G_goto (K := mX5_sheet) (tgt := 86) dX5_sheet_109 (by decide) ?_
                      refine ih (i + 1) (by omega) (by omega) _ (fun x => by rw [ups_cell (by decide)]; exact h16 x) (fun x => by rw [ups_cell (by decide)]; exact h17 x) (fun j hj => ?_) (fun x hx => by rw [ups_ne (by omega)]; exact h18o x hx) (fun c a b d => by rw [ups_cell d]; exact h3c c a b d)
                      by_cases hji : j = i
                      · subst hji; rw [ups_same]
                      · rw [ups_ne (by omega)]; exact h18 j (by omega)
                  exact loop86 0 (by omega) _ (fun x => by rw [ups_cell (show (16 : Nat) ≠ 17 by decide)]) (fun x => by
                    by_cases hx : x = q
                    · subst hx; rw [ups_same, ups_same]; exact hX
                    · rw [ups_ne (fun z => hx z.2), ups_ne (fun z => hx z.2), ups_ne (fun z => hx z.2)]) (fun j hj => absurd hj (by omega)) (fun x hx => by rw [ups_cell (by decide), ups_cell (by decide)]) (fun c a b d => by rw [ups_cell b, ups_cell a])
              · skip
                refine G_aload_n (K := mX5_sheet) (i := 0) dX5_sheet_54 rfl rfl ?_
                refine G_ldc (K := mX5_sheet) dX5_sheet_55 kX5_92 ?_
                refine G_call0 (K := mX5_sheet) (Q' := PostR (tl σ 0)) (rf_finding hR (k := 0) (by omega) (fun _ _ h => h)) vX5_finding rfl lX5_109 ⟨_, _, _, rfl, rfl, rfl⟩ (by decide) (Nat.le_of_ble_eq_true rfl) dX5_sheet_57 rfl ?_
                rintro v M1 ⟨rfl, hR1⟩
                exact G_iret (st := []) (K := mX5_sheet) dX5_sheet_60 rfl (hQ _ _ (by rw [show opSheet σ (nI q) b n = _ from (by unfold opSheet; exact (if_pos hB).trans ((if_pos hb).trans ((if_neg (Int32.not_lt.mpr c37)).trans (if_pos (Int32.not_le.mp c51)))))]; exact ⟨rfl, hR1⟩))
            · skip
              refine G_aload_n (K := mX5_sheet) (i := 0) dX5_sheet_40 rfl rfl ?_
              refine G_ldcw (K := mX5_sheet) dX5_sheet_41 kX5_344 ?_
              refine G_call0 (K := mX5_sheet) (Q' := PostR (tl σ 6)) (rf_finding hR (k := 6) (by omega) (fun _ _ h => h)) vX5_finding rfl lX5_109 ⟨_, _, _, rfl, rfl, rfl⟩ (by decide) (Nat.le_of_ble_eq_true rfl) dX5_sheet_44 rfl ?_
              rintro v M1 ⟨rfl, hR1⟩
              exact G_iret (st := []) (K := mX5_sheet) dX5_sheet_47 rfl (hQ _ _ (by rw [show opSheet σ (nI q) b n = _ from (by unfold opSheet; exact (if_pos hB).trans ((if_pos hb).trans (if_pos (Int32.not_le.mp c37))))]; exact ⟨rfl, hR1⟩))
          · skip
            have hb : ¬ bitsOK b = true := fun z => by
              rcases of_decide_eq_true z with h | h | h | h
              · exact c8 h
              · exact c14 h
              · exact c20 h
              · exact c26 h
            refine G_aload_n (K := mX5_sheet) (i := 0) dX5_sheet_29 rfl rfl ?_
            refine G_ldc (K := mX5_sheet) dX5_sheet_30 kX5_92 ?_
            refine G_call0 (K := mX5_sheet) (Q' := PostR (tl σ 0)) (rf_finding hR (k := 0) (by omega) (fun _ _ h => h)) vX5_finding rfl lX5_109 ⟨_, _, _, rfl, rfl, rfl⟩ (by decide) (Nat.le_of_ble_eq_true rfl) dX5_sheet_32 rfl ?_
            rintro v M1 ⟨rfl, hR1⟩
            exact G_iret (st := []) (K := mX5_sheet) dX5_sheet_35 rfl (hQ _ _ (by rw [show opSheet σ (nI q) b n = _ from (by unfold opSheet; exact (if_pos hB).trans (if_neg hb))]; exact ⟨rfl, hR1⟩))

set_option maxRecDepth 20000 in
theorem c_X5_cutTo {M : Mem} {v b : Int32} {Q : Option Value → Mem → Prop} (hQ : Q (some (.int (cutV b v))) M) : CT mX5_cutTo shR 0 [.int v, .int b] M Q := by
  refine CT.mk [some (.int v), some (.int b)] (by decide) (Nat.le_of_ble_eq_true rfl) rfl rfl ?_
  refine G_iload_n (K := mX5_cutTo) (i := 1) dX5_cutTo_0 rfl rfl ?_
  refine G_bipush (K := mX5_cutTo) (v := 8) dX5_cutTo_1 (by decide) ?_
  refine G_icmp_ne (K := mX5_cutTo) (tgt := 11) dX5_cutTo_3 (by decide) (fun c3 => ?_) (fun c3 => ?_)
  · skip
    refine G_iload_n (K := mX5_cutTo) (i := 1) dX5_cutTo_11 rfl rfl ?_
    refine G_bipush (K := mX5_cutTo) (v := 16) dX5_cutTo_12 (by decide) ?_
    refine G_icmp_ne (K := mX5_cutTo) (tgt := 22) dX5_cutTo_14 (by decide) (fun c14 => ?_) (fun c14 => ?_)
    · skip
      refine G_iload_n (K := mX5_cutTo) (i := 0) dX5_cutTo_22 rfl rfl ?_
      exact G_irm (K := mX5_cutTo) dX5_cutTo_23 rfl (by exact ((if_neg c3).trans (if_neg c14)).symm) rfl hQ
    · skip
      refine G_iload_n (K := mX5_cutTo) (i := 0) dX5_cutTo_17 rfl rfl ?_
      refine G_i2s (K := mX5_cutTo) dX5_cutTo_18 ?_
      refine G_goto (K := mX5_cutTo) (tgt := 23) dX5_cutTo_19 (by decide) ?_
      exact G_irm (K := mX5_cutTo) dX5_cutTo_23 rfl (by exact ((if_neg c3).trans (if_pos c14)).symm) rfl hQ
  · skip
    refine G_iload_n (K := mX5_cutTo) (i := 0) dX5_cutTo_6 rfl rfl ?_
    refine G_i2b (K := mX5_cutTo) dX5_cutTo_7 ?_
    refine G_goto (K := mX5_cutTo) (tgt := 23) dX5_cutTo_8 (by decide) ?_
    exact G_irm (K := mX5_cutTo) dX5_cutTo_23 rfl (by exact (if_pos c3).symm) rfl hQ

theorem RR.num {M σ : Mem} {q i : Nat} {x : Int32} (hR : RR M σ) (hq : q < 4) (hi : i < 40) : RR (ups M 18 (40 * q + i) x) (ups σ (46 + q) i x) := by
  refine hR.sh (fun c a b d e => ups_cell d) (fun c hc => ups_cell (by omega)) (fun s hs => ⟨by rw [ups_cell (by decide), ups_cell (by omega)]; exact hR.s0 hs, by rw [ups_cell (by decide), ups_cell (by omega)]; exact hR.s1 hs, fun j hj => ?_⟩)
  by_cases h : s = q ∧ j = i
  · obtain ⟨rfl, rfl⟩ := h
    rw [ups_same, ups_same]
  · rw [ups_ne (by omega), ups_ne (by omega)]
    exact hR.sn hs hj
set_option maxRecDepth 20000 in
theorem rf_write {M σ : Mem} {s i v : Int32} (hR : RR M σ) (hI : Inv σ) {Q : Option Value → Mem → Prop} (hQ : ∀ u' M', PostR (opWrite σ s i v) u' M' → Q u' M') : CT mX5_write shR 8 [.ref 0, .int s, .int i, .int v] M Q := by
  refine CT.mk [some (.ref 0), some (.int s), some (.int i), some (.int v)] (by decide) (Nat.le_of_ble_eq_true rfl) rfl rfl ?_
  refine G_iload_n (K := mX5_write) (i := 1) dX5_write_0 rfl rfl ?_
  refine G_sv (K := mX5_write) (c_X5_isSheet (x := s) ⟨rfl, rfl⟩) sX5_isSheet rfl lX5_341 dX5_write_1 (by decide) rfl (Nat.le_of_ble_eq_true rfl) ?_
  refine G_if_ne (K := mX5_write) (tgt := 14) dX5_write_4 (by decide) (fun c4 => ?_) (fun c4 => ?_)
  · skip
    obtain ⟨q, hq, rfl⟩ := within_i (m := 3) (by decide) c4
    have hB := roomB_nI (n := 4) (by decide) hq
    have hL := hI.len hq
    unfold rg at hL
    refine G_aload_n (K := mX5_write) (i := 0) dX5_write_14 rfl rfl ?_
    refine G_getr (K := mX5_write) fX5_80 dX5_write_15 rfl rfl ?_
    refine G_iload_n (K := mX5_write) (i := 1) dX5_write_18 rfl rfl ?_
    refine G_ld (K := mX5_write) q dX5_write_19 rfl rfl (by omega) (by decide) ?_
    rw [hR.s0 hq]
    refine G_if_ne (K := mX5_write) (tgt := 31) dX5_write_20 (by decide) (fun c20 => ?_) (fun c20 => ?_)
    · skip
      have hf : refS σ (nI q) = 0 := (if_pos hB).trans (if_neg (by rw [cut_nI (by omega)]; exact c20))
      refine G_iload_n (K := mX5_write) (i := 2) dX5_write_31 rfl rfl ?_
      refine G_iconst (K := mX5_write) (v := 0) dX5_write_32 (by decide) ?_
      refine G_aload_n (K := mX5_write) (i := 0) dX5_write_33 rfl rfl ?_
      refine G_getr (K := mX5_write) fX5_83 dX5_write_34 rfl rfl ?_
      refine G_iload_n (K := mX5_write) (i := 1) dX5_write_37 rfl rfl ?_
      refine G_ld (K := mX5_write) q dX5_write_38 rfl rfl (by omega) (by decide) ?_
      rw [hR.s1 hq]
      refine G_iconst (K := mX5_write) (v := 1) dX5_write_39 (by decide) ?_
      refine G_isub (K := mX5_write) dX5_write_40 ?_
      refine G_sv (K := mX5_write) (c_X5_within (v := i) (a := 0) (b := σ 45 q - 1) ⟨rfl, rfl⟩) sX5_within rfl lX5_97 dX5_write_41 (by decide) rfl (Nat.le_of_ble_eq_true rfl) ?_
      refine G_if_ne (K := mX5_write) (tgt := 54) dX5_write_44 (by decide) (fun c44 => ?_) (fun c44 => ?_)
      · skip
        obtain ⟨kk1, kk2⟩ := within_2 c44
        obtain ⟨j, hj, rfl⟩ : ∃ j, j < 40 ∧ i = nI j := by
          rw [i32_lt] at kk1 kk2
          have e0 : (0 : Int32).toInt = 0 := rfl
          have e1 : (1 : Int32).toInt = 1 := rfl
          rw [sub_I (by rw [e1]; omega) (by rw [e1]; omega), e1] at kk2
          exact ⟨i.toInt.toNat, by omega, i32_ext (by rw [nI_toI (by omega)]; omega)⟩
        have hh : ¬ hasS (σ 45 q) (nI j) 1 = 0 := by
          unfold hasS
          rw [if_neg kk1, if_neg (by decide), if_neg kk2]
          decide
        refine G_aload_n (K := mX5_write) (i := 0) dX5_write_54 rfl rfl ?_
        refine G_getr (K := mX5_write) fX5_86 dX5_write_55 rfl rfl ?_
        refine G_bipush (K := mX5_write) (v := 40) dX5_write_58 (by decide) ?_
        refine G_iload_n (K := mX5_write) (i := 1) dX5_write_60 rfl rfl ?_
        refine G_imul (K := mX5_write) dX5_write_61 ?_
        refine G_iload_n (K := mX5_write) (i := 2) dX5_write_62 rfl rfl ?_
        refine G_iadd (K := mX5_write) dX5_write_63 ?_
        rw [nI_40 (by omega) (by omega)]
        refine G_iload_n (K := mX5_write) (i := 3) dX5_write_64 rfl rfl ?_
        refine G_aload_n (K := mX5_write) (i := 0) dX5_write_65 rfl rfl ?_
        refine G_getr (K := mX5_write) fX5_80 dX5_write_66 rfl rfl ?_
        refine G_iload_n (K := mX5_write) (i := 1) dX5_write_69 rfl rfl ?_
        refine G_ld (K := mX5_write) q dX5_write_70 rfl rfl (by omega) (by decide) ?_
        rw [hR.s0 hq]
        refine G_sv (K := mX5_write) (c_X5_cutTo (v := v) (b := σ 44 q) ⟨rfl, rfl⟩) sX5_cutTo rfl lX5_345 dX5_write_71 (by decide) rfl (Nat.le_of_ble_eq_true rfl) ?_
        refine G_sto (K := mX5_write) (40 * q + j) dX5_write_74 rfl rfl (by omega) (by decide) ?_
        refine G_iconst (K := mX5_write) (v := 1) dX5_write_75 (by decide) ?_
        exact G_iret (st := []) (K := mX5_write) dX5_write_76 rfl (hQ _ _ (by
          rw [show opWrite σ (nI q) (nI j) v = (1, ups σ (46 + cut (nI q)) (cut (nI j)) (cutV (σ 44 (cut (nI q))) v)) from (if_pos hf).trans (if_neg (by rw [cut_nI (by omega)]; exact hh)), cut_nI (by omega), cut_nI (by omega)]
          exact ⟨rfl, hR.num hq hj⟩))
      · skip
        have hh : hasS (σ 45 q) i 1 = 0 := by
          unfold hasS
          rcases within_3 c44 with h | ⟨h, h2⟩
          · exact if_pos h
          · rw [if_neg h, if_neg (by decide), if_pos h2]
        refine G_aload_n (K := mX5_write) (i := 0) dX5_write_47 rfl rfl ?_
        refine G_ldc (K := mX5_write) dX5_write_48 kX5_92 ?_
        refine G_call0 (K := mX5_write) (Q' := PostR (tl σ 0)) (rf_finding hR (k := 0) (by omega) (fun _ _ h => h)) vX5_finding rfl lX5_109 ⟨_, _, _, rfl, rfl, rfl⟩ (by decide) (Nat.le_of_ble_eq_true rfl) dX5_write_50 rfl ?_
        rintro v M1 ⟨rfl, hR1⟩
        exact G_iret (st := []) (K := mX5_write) dX5_write_53 rfl (hQ _ _ (by rw [show opWrite σ (nI q) i v = _ from (by unfold opWrite; exact (if_pos hf).trans (if_pos (by rw [cut_nI (by omega)]; exact hh)))]; exact ⟨rfl, hR1⟩))
    · skip
      have hf : refS σ (nI q) = finI 5 := (if_pos hB).trans (if_pos (by rw [cut_nI (by omega)]; exact c20))
      refine G_aload_n (K := mX5_write) (i := 0) dX5_write_23 rfl rfl ?_
      refine G_ldcw (K := mX5_write) dX5_write_24 kX5_336 ?_
      refine G_call0 (K := mX5_write) (Q' := PostR (tl σ 5)) (rf_finding hR (k := 5) (by omega) (fun _ _ h => h)) vX5_finding rfl lX5_109 ⟨_, _, _, rfl, rfl, rfl⟩ (by decide) (Nat.le_of_ble_eq_true rfl) dX5_write_27 rfl ?_
      rintro v M1 ⟨rfl, hR1⟩
      exact G_iret (st := []) (K := mX5_write) dX5_write_30 rfl (hQ _ _ (by rw [show opWrite σ (nI q) i v = _ from (by unfold opWrite; exact (if_neg (by rw [hf]; decide)).trans ((congrArg (tlI σ) hf).trans (tlI_fin (k := 5) (by decide))))]; exact ⟨rfl, hR1⟩))
  · skip
    have hf : refS σ s = finI 0 := if_neg (within_o (m := 3) (by decide) c4)
    refine G_aload_n (K := mX5_write) (i := 0) dX5_write_7 rfl rfl ?_
    refine G_ldc (K := mX5_write) dX5_write_8 kX5_92 ?_
    refine G_call0 (K := mX5_write) (Q' := PostR (tl σ 0)) (rf_finding hR (k := 0) (by omega) (fun _ _ h => h)) vX5_finding rfl lX5_109 ⟨_, _, _, rfl, rfl, rfl⟩ (by decide) (Nat.le_of_ble_eq_true rfl) dX5_write_10 rfl ?_
    rintro v M1 ⟨rfl, hR1⟩
    exact G_iret (st := []) (K := mX5_write) dX5_write_13 rfl (hQ _ _ (by rw [show opWrite σ s i v = _ from (by unfold opWrite; exact (if_neg (by rw [hf]; decide)).trans ((congrArg (tlI σ) hf).trans (tlI_fin (k := 0) (by decide))))]; exact ⟨rfl, hR1⟩))
