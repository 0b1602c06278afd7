theorem isW_eq {T : Nat → Int32} {L e i : Nat} : isW T L e i = ((decide (tS T L e = 1) && decide (tE T L e - tB T L e = strLen.getD i 0)) && allB (fun k => decide (byt T L (tB T L e + k) = (strByt.getD i []).getD k 0)) (strLen.getD i 0)) := by
  unfold isW wordB
  rw [Bool.and_assoc]
theorem allB_mono {p : Nat → Bool} {k n : Nat} (h : allB p k = false) (hk : k ≤ n) : allB p n = false := by
  rcases Bool.eq_false_or_eq_true (allB p n) with h2 | h2
  · have h3 := (allB_iff k).mpr (fun i hi => (allB_iff n).mp h2 i (by omega))
    rw [h] at h3
    exact absurd h3 (by decide)
  · exact h2
set_option maxRecDepth 20000 in
theorem rf_isWord {T : Nat → Int32} {L e i : Nat} {M : Mem} (hH : TH T L) (hT : TPr T L M) (hK : TR T L e M) (hel : e ≤ L) (hi : i < 14) {Q : Option Value → Mem → Prop} (hQ : Q (some (.int (bI (isW T L e i)))) M) : CT mX5_isWord shR 4 [.ref 0, .ref (1100 + i)] M Q := by
  refine CT.mk [some (.ref 0), some (.ref (1100 + i)), none, none] (by decide) (Nat.le_of_ble_eq_true rfl) rfl rfl ?_
  have hL := hH.1
  have hlen : strLen.getD i 0 < 9 := str_small ⟨i, hi⟩
  have hbl := tB_le (T := T) hel
  have hEl := tE_le (T := T) hel
  have hBE := tE_ge (T := T) (L := L) (e := e)
  have hs1 : M 0 22 = 1 ↔ tS T L e = 1 := by
    rw [hK.2.2.1]
    by_cases h4 : tS T L e = 4
    · rw [if_pos h4, h4]; exact ⟨fun h => absurd h (by decide), fun h => absurd h (by decide)⟩
    · rw [if_neg h4]
  refine G_aload_n (K := mX5_isWord) (i := 0) dX5_isWord_0 rfl rfl ?_
  refine G_geti (K := mX5_isWord) fX5_275 dX5_isWord_1 rfl rfl ?_
  refine G_iconst (K := mX5_isWord) (v := 1) dX5_isWord_4 (by decide) ?_
  refine G_icmp_ne (K := mX5_isWord) (tgt := 28) dX5_isWord_5 (by decide) (fun c5 => ?_) (fun c5 => ?_)
  · skip
    have hq : (decide (tS T L e = 1) && decide (tE T L e - tB T L e = strLen.getD i 0)) = false := by rw [decide_eq_false (fun z => c5 (hs1.mpr z)), Bool.false_and]
    refine G_iconst (K := mX5_isWord) (v := 0) dX5_isWord_28 (by decide) ?_
    refine G_istore_n (K := mX5_isWord) (i := 2) dX5_isWord_29 rfl (by decide) ?_
    refine G_iconst (K := mX5_isWord) (v := 0) dX5_isWord_30 (by decide) ?_
    refine G_istore_n (K := mX5_isWord) (i := 3) dX5_isWord_31 rfl (by decide) ?_
    have loop32 : ∀ k, k ≤ strLen.getD i 0 → ∀ b : Int32, b = bI ((decide (tS T L e = 1) && decide (tE T L e - tB T L e = strLen.getD i 0)) && allB (fun k => decide (byt T L (tB T L e + k) = (strByt.getD i []).getD k 0)) k) → G mX5_isWord shR 4 Q 32 [some (.ref 0), some (.ref (1100 + i)), some (.int b), some (.int (nI k))] [] M := by
      refine upto (strLen.getD i 0) (fun k hk ih => ?_)
      intro b hb
      refine G_iload_n (K := mX5_isWord) (i := 3) dX5_isWord_32 rfl rfl ?_
      refine G_aload_n (K := mX5_isWord) (i := 1) dX5_isWord_33 rfl rfl ?_
      refine G_callStr (K := mX5_isWord) (as := []) (Q' := fun v M' => v = some (.int (nI (strLen.getD i 0))) ∧ M' = M) hi (j_length hi ⟨rfl, rfl⟩) vJ0_length_8abf5 rfl lX5_278 rfl (by decide) (Nat.le_of_ble_eq_true rfl) dX5_isWord_34 rfl ?_
      rintro v M' ⟨rfl, e'⟩
      obtain rfl := e'.symm
      refine G_icmp_ge (K := mX5_isWord) (tgt := 75) dX5_isWord_37 (by decide) (fun c37 => ?_) (fun c37 => ?_)
      · skip
        rw [le_nn (by omega) (by omega)] at c37
        have hkl : k = strLen.getD i 0 := by omega
        refine G_iload_n (K := mX5_isWord) (i := 2) dX5_isWord_75 rfl rfl ?_
        subst hb
        exact G_zrm (K := mX5_isWord) dX5_isWord_76 rfl (by cases ((decide (tS T L e = 1) && decide (tE T L e - tB T L e = strLen.getD i 0)) && allB (fun k => decide (byt T L (tB T L e + k) = (strByt.getD i []).getD k 0)) k) <;> rfl) (by rw [isW_eq, hkl]) rfl hQ
      · skip
        rw [le_nn (by omega) (by omega)] at c37
        refine G_iload_n (K := mX5_isWord) (i := 2) dX5_isWord_40 rfl rfl ?_
        refine G_if_eq (K := mX5_isWord) (tgt := 75) dX5_isWord_41 (by decide) (fun c41 => ?_) (fun c41 => ?_)
        · skip
          have hX : ((decide (tS T L e = 1) && decide (tE T L e - tB T L e = strLen.getD i 0)) && allB (fun k => decide (byt T L (tB T L e + k) = (strByt.getD i []).getD k 0)) k) = false := bI_0 (hb.symm.trans c41)
          refine G_iload_n (K := mX5_isWord) (i := 2) dX5_isWord_75 rfl rfl ?_
          exact G_zrm (K := mX5_isWord) dX5_isWord_76 rfl (by rw [c41]; rfl) (by
            rw [c41, isW_eq]
            rcases Bool.and_eq_false_iff.mp hX with h | h
            · rw [h, Bool.false_and]; rfl
            · rw [allB_mono h hk, Bool.and_false]; rfl) rfl hQ
        · skip
          have hX : ((decide (tS T L e = 1) && decide (tE T L e - tB T L e = strLen.getD i 0)) && allB (fun k => decide (byt T L (tB T L e + k) = (strByt.getD i []).getD k 0)) k) = true := bI_1 (fun z => c41 (hb.trans z))
          obtain ⟨hX1, hX2⟩ := Bool.and_eq_true_iff.mp hX
          obtain ⟨hY1, hY2⟩ := Bool.and_eq_true_iff.mp hX1
          have hY3 := of_decide_eq_true hY2
          have hY4 := of_decide_eq_true hY1
          refine G_aload_n (K := mX5_isWord) (i := 0) dX5_isWord_44 rfl rfl ?_
          refine G_getr (K := mX5_isWord) fX5_43 dX5_isWord_45 rfl rfl ?_
          refine G_aload_n (K := mX5_isWord) (i := 0) dX5_isWord_48 rfl rfl ?_
          refine G_geti (K := mX5_isWord) fX5_266 dX5_isWord_49 rfl rfl ?_
          refine G_iload_n (K := mX5_isWord) (i := 3) dX5_isWord_52 rfl rfl ?_
          refine G_iadd (K := mX5_isWord) dX5_isWord_53 ?_
          rw [hK.1, nI_add]
          refine G_ld (K := mX5_isWord) (tB T L e + k) dX5_isWord_54 rfl rfl (by omega) (by decide) ?_
          rw [hT.1 _ (by omega), ← byt_in (T := T) (L := L) (k := tB T L e + k) (by omega)]
          refine G_aload_n (K := mX5_isWord) (i := 1) dX5_isWord_55 rfl rfl ?_
          refine G_iload_n (K := mX5_isWord) (i := 3) dX5_isWord_56 rfl rfl ?_
          refine G_callStr (K := mX5_isWord) (as := [.int (nI k)]) (Q' := fun v M' => v = some (.int ((strByt.getD i []).getD k 0)) ∧ M' = M) hi (j_charAt hi (by omega) ⟨rfl, rfl⟩) vJ0_charAt_5068e rfl lX5_281 rfl (by decide) (Nat.le_of_ble_eq_true rfl) dX5_isWord_57 rfl ?_
          rintro v M' ⟨rfl, e'⟩
          obtain rfl := e'.symm
          refine G_icmp_ne (K := mX5_isWord) (tgt := 67) dX5_isWord_60 (by decide) (fun c60 => ?_) (fun c60 => ?_)
          · skip
            have hp : (fun k => decide (byt T L (tB T L e + k) = (strByt.getD i []).getD k 0)) k = false := decide_eq_false c60
            refine G_iconst (K := mX5_isWord) (v := 0) dX5_isWord_67 (by decide) ?_
            refine G_istore_n (K := mX5_isWord) (i := 2) dX5_isWord_68 rfl (by decide) ?_
            refine G_iincN (K := mX5_isWord) dX5_isWord_69 (by decide) rfl ?_
            refine G_goto (K := mX5_isWord) (tgt := 32) dX5_isWord_72 (by decide) ?_
            exact ih (k + 1) (by omega) (by omega) _ (by rw [and_s, hX, decide_eq_false c60]; rfl)
          · skip
            have hp : (fun k => decide (byt T L (tB T L e + k) = (strByt.getD i []).getD k 0)) k = true := decide_eq_true c60
            refine G_iconst (K := mX5_isWord) (v := 1) dX5_isWord_63 (by decide) ?_
            refine G_goto (K := mX5_isWord) (tgt := 68) dX5_isWord_64 (by decide) ?_
            refine G_istore_n (K := mX5_isWord) (i := 2) dX5_isWord_68 rfl (by decide) ?_
            refine G_iincN (K := mX5_isWord) dX5_isWord_69 (by decide) rfl ?_
            refine G_goto (K := mX5_isWord) (tgt := 32) dX5_isWord_72 (by decide) ?_
            exact ih (k + 1) (by omega) (by omega) _ (by rw [and_s, hX, decide_eq_true c60]; rfl)
    exact loop32 0 (by omega) _ (by rw [hq]; rfl)
  · skip
    have h1 := hs1.mp c5
    have hn4 : ¬ tS T L e = 4 := by rw [h1]; decide
    refine G_aload_n (K := mX5_isWord) (i := 0) dX5_isWord_8 rfl rfl ?_
    refine G_geti (K := mX5_isWord) fX5_263 dX5_isWord_9 rfl rfl ?_
    refine G_aload_n (K := mX5_isWord) (i := 0) dX5_isWord_12 rfl rfl ?_
    refine G_geti (K := mX5_isWord) fX5_266 dX5_isWord_13 rfl rfl ?_
    refine G_isub (K := mX5_isWord) dX5_isWord_16 ?_
    rw [hK.2.1 hn4, hK.1, nI_subI hBE (by omega)]
    refine G_aload_n (K := mX5_isWord) (i := 1) dX5_isWord_17 rfl rfl ?_
    refine G_callStr (K := mX5_isWord) (as := []) (Q' := fun v M' => v = some (.int (nI (strLen.getD i 0))) ∧ M' = M) hi (j_length hi ⟨rfl, rfl⟩) vJ0_length_8abf5 rfl lX5_278 rfl (by decide) (Nat.le_of_ble_eq_true rfl) dX5_isWord_18 rfl ?_
    rintro v M' ⟨rfl, e'⟩
    obtain rfl := e'.symm
    refine G_icmp_ne (K := mX5_isWord) (tgt := 28) dX5_isWord_21 (by decide) (fun c21 => ?_) (fun c21 => ?_)
    · skip
      have hq : (decide (tS T L e = 1) && decide (tE T L e - tB T L e = strLen.getD i 0)) = false := by rw [decide_eq_false (show ¬ tE T L e - tB T L e = strLen.getD i 0 from fun z => c21 (by rw [z])), Bool.and_false]
      refine G_iconst (K := mX5_isWord) (v := 0) dX5_isWord_28 (by decide) ?_
      refine G_istore_n (K := mX5_isWord) (i := 2) dX5_isWord_29 rfl (by decide) ?_
      refine G_iconst (K := mX5_isWord) (v := 0) dX5_isWord_30 (by decide) ?_
      refine G_istore_n (K := mX5_isWord) (i := 3) dX5_isWord_31 rfl (by decide) ?_
      have loop32 : ∀ k, k ≤ strLen.getD i 0 → ∀ b : Int32, b = bI ((decide (tS T L e = 1) && decide (tE T L e - tB T L e = strLen.getD i 0)) && allB (fun k => decide (byt T L (tB T L e + k) = (strByt.getD i []).getD k 0)) k) → G mX5_isWord shR 4 Q 32 [some (.ref 0), some (.ref (1100 + i)), some (.int b), some (.int (nI k))] [] M := by
        refine upto (strLen.getD i 0) (fun k hk ih => ?_)
        intro b hb
        refine G_iload_n (K := mX5_isWord) (i := 3) dX5_isWord_32 rfl rfl ?_
        refine G_aload_n (K := mX5_isWord) (i := 1) dX5_isWord_33 rfl rfl ?_
        refine G_callStr (K := mX5_isWord) (as := []) (Q' := fun v M' => v = some (.int (nI (strLen.getD i 0))) ∧ M' = M) hi (j_length hi ⟨rfl, rfl⟩) vJ0_length_8abf5 rfl lX5_278 rfl (by decide) (Nat.le_of_ble_eq_true rfl) dX5_isWord_34 rfl ?_
        rintro v M' ⟨rfl, e'⟩
        obtain rfl := e'.symm
        refine G_icmp_ge (K := mX5_isWord) (tgt := 75) dX5_isWord_37 (by decide) (fun c37 => ?_) (fun c37 => ?_)
        · skip
          rw [le_nn (by omega) (by omega)] at c37
          have hkl : k = strLen.getD i 0 := by omega
          refine G_iload_n (K := mX5_isWord) (i := 2) dX5_isWord_75 rfl rfl ?_
          subst hb
          exact G_zrm (K := mX5_isWord) dX5_isWord_76 rfl (by cases ((decide (tS T L e = 1) && decide (tE T L e - tB T L e = strLen.getD i 0)) && allB (fun k => decide (byt T L (tB T L e + k) = (strByt.getD i []).getD k 0)) k) <;> rfl) (by rw [isW_eq, hkl]) rfl hQ
        · skip
          rw [le_nn (by omega) (by omega)] at c37
          refine G_iload_n (K := mX5_isWord) (i := 2) dX5_isWord_40 rfl rfl ?_
          refine G_if_eq (K := mX5_isWord) (tgt := 75) dX5_isWord_41 (by decide) (fun c41 => ?_) (fun c41 => ?_)
          · skip
            have hX : ((decide (tS T L e = 1) && decide (tE T L e - tB T L e = strLen.getD i 0)) && allB (fun k => decide (byt T L (tB T L e + k) = (strByt.getD i []).getD k 0)) k) = false := bI_0 (hb.symm.trans c41)
            refine G_iload_n (K := mX5_isWord) (i := 2) dX5_isWord_75 rfl rfl ?_
            exact G_zrm (K := mX5_isWord) dX5_isWord_76 rfl (by rw [c41]; rfl) (by
              rw [c41, isW_eq]
              rcases Bool.and_eq_false_iff.mp hX with h | h
              · rw [h, Bool.false_and]; rfl
              · rw [allB_mono h hk, Bool.and_false]; rfl) rfl hQ
          · skip
            have hX : ((decide (tS T L e = 1) && decide (tE T L e - tB T L e = strLen.getD i 0)) && allB (fun k => decide (byt T L (tB T L e + k) = (strByt.getD i []).getD k 0)) k) = true := bI_1 (fun z => c41 (hb.trans z))
            obtain ⟨hX1, hX2⟩ := Bool.and_eq_true_iff.mp hX
            obtain ⟨hY1, hY2⟩ := Bool.and_eq_true_iff.mp hX1
            have hY3 := of_decide_eq_true hY2
            have hY4 := of_decide_eq_true hY1
            refine G_aload_n (K := mX5_isWord) (i := 0) dX5_isWord_44 rfl rfl ?_
            refine G_getr (K := mX5_isWord) fX5_43 dX5_isWord_45 rfl rfl ?_
            refine G_aload_n (K := mX5_isWord) (i := 0) dX5_isWord_48 rfl rfl ?_
            refine G_geti (K := mX5_isWord) fX5_266 dX5_isWord_49 rfl rfl ?_
            refine G_iload_n (K := mX5_isWord) (i := 3) dX5_isWord_52 rfl rfl ?_
            refine G_iadd (K := mX5_isWord) dX5_isWord_53 ?_
            rw [hK.1, nI_add]
            refine G_ld (K := mX5_isWord) (tB T L e + k) dX5_isWord_54 rfl rfl (by omega) (by decide) ?_
            rw [hT.1 _ (by omega), ← byt_in (T := T) (L := L) (k := tB T L e + k) (by omega)]
            refine G_aload_n (K := mX5_isWord) (i := 1) dX5_isWord_55 rfl rfl ?_
            refine G_iload_n (K := mX5_isWord) (i := 3) dX5_isWord_56 rfl rfl ?_
            refine G_callStr (K := mX5_isWord) (as := [.int (nI k)]) (Q' := fun v M' => v = some (.int ((strByt.getD i []).getD k 0)) ∧ M' = M) hi (j_charAt hi (by omega) ⟨rfl, rfl⟩) vJ0_charAt_5068e rfl lX5_281 rfl (by decide) (Nat.le_of_ble_eq_true rfl) dX5_isWord_57 rfl ?_
            rintro v M' ⟨rfl, e'⟩
            obtain rfl := e'.symm
            refine G_icmp_ne (K := mX5_isWord) (tgt := 67) dX5_isWord_60 (by decide) (fun c60 => ?_) (fun c60 => ?_)
            · skip
              have hp : (fun k => decide (byt T L (tB T L e + k) = (strByt.getD i []).getD k 0)) k = false := decide_eq_false c60
              refine G_iconst (K := mX5_isWord) (v := 0) dX5_isWord_67 (by decide) ?_
              refine G_istore_n (K := mX5_isWord) (i := 2) dX5_isWord_68 rfl (by decide) ?_
              refine G_iincN (K := mX5_isWord) dX5_isWord_69 (by decide) rfl ?_
              refine G_goto (K := mX5_isWord) (tgt := 32) dX5_isWord_72 (by decide) ?_
              exact ih (k + 1) (by omega) (by omega) _ (by rw [and_s, hX, decide_eq_false c60]; rfl)
            · skip
              have hp : (fun k => decide (byt T L (tB T L e + k) = (strByt.getD i []).getD k 0)) k = true := decide_eq_true c60
              refine G_iconst (K := mX5_isWord) (v := 1) dX5_isWord_63 (by decide) ?_
              refine G_goto (K := mX5_isWord) (tgt := 68) dX5_isWord_64 (by decide) ?_
              refine G_istore_n (K := mX5_isWord) (i := 2) dX5_isWord_68 rfl (by decide) ?_
              refine G_iincN (K := mX5_isWord) dX5_isWord_69 (by decide) rfl ?_
              refine G_goto (K := mX5_isWord) (tgt := 32) dX5_isWord_72 (by decide) ?_
              exact ih (k + 1) (by omega) (by omega) _ (by rw [and_s, hX, decide_eq_true c60]; rfl)
      exact loop32 0 (by omega) _ (by rw [hq]; rfl)
    · skip
      have hq : (decide (tS T L e = 1) && decide (tE T L e - tB T L e = strLen.getD i 0)) = true := by rw [decide_eq_true h1, decide_eq_true ((nI_eqI (by omega) (by omega)).mp c21)]; rfl
      refine G_iconst (K := mX5_isWord) (v := 1) dX5_isWord_24 (by decide) ?_
      refine G_goto (K := mX5_isWord) (tgt := 29) dX5_isWord_25 (by decide) ?_
      refine G_istore_n (K := mX5_isWord) (i := 2) dX5_isWord_29 rfl (by decide) ?_
      refine G_iconst (K := mX5_isWord) (v := 0) dX5_isWord_30 (by decide) ?_
      refine G_istore_n (K := mX5_isWord) (i := 3) dX5_isWord_31 rfl (by decide) ?_
      have loop32 : ∀ k, k ≤ strLen.getD i 0 → ∀ b : Int32, b = bI ((decide (tS T L e = 1) && decide (tE T L e - tB T L e = strLen.getD i 0)) && allB (fun k => decide (byt T L (tB T L e + k) = (strByt.getD i []).getD k 0)) k) → G mX5_isWord shR 4 Q 32 [some (.ref 0), some (.ref (1100 + i)), some (.int b), some (.int (nI k))] [] M := by
        refine upto (strLen.getD i 0) (fun k hk ih => ?_)
        intro b hb
        refine G_iload_n (K := mX5_isWord) (i := 3) dX5_isWord_32 rfl rfl ?_
        refine G_aload_n (K := mX5_isWord) (i := 1) dX5_isWord_33 rfl rfl ?_
        refine G_callStr (K := mX5_isWord) (as := []) (Q' := fun v M' => v = some (.int (nI (strLen.getD i 0))) ∧ M' = M) hi (j_length hi ⟨rfl, rfl⟩) vJ0_length_8abf5 rfl lX5_278 rfl (by decide) (Nat.le_of_ble_eq_true rfl) dX5_isWord_34 rfl ?_
        rintro v M' ⟨rfl, e'⟩
        obtain rfl := e'.symm
        refine G_icmp_ge (K := mX5_isWord) (tgt := 75) dX5_isWord_37 (by decide) (fun c37 => ?_) (fun c37 => ?_)
        · skip
          rw [le_nn (by omega) (by omega)] at c37
          have hkl : k = strLen.getD i 0 := by omega
          refine G_iload_n (K := mX5_isWord) (i := 2) dX5_isWord_75 rfl rfl ?_
          subst hb
          exact G_zrm (K := mX5_isWord) dX5_isWord_76 rfl (by cases ((decide (tS T L e = 1) && decide (tE T L e - tB T L e = strLen.getD i 0)) && allB (fun k => decide (byt T L (tB T L e + k) = (strByt.getD i []).getD k 0)) k) <;> rfl) (by rw [isW_eq, hkl]) rfl hQ
        · skip
          rw [le_nn (by omega) (by omega)] at c37
          refine G_iload_n (K := mX5_isWord) (i := 2) dX5_isWord_40 rfl rfl ?_
          refine G_if_eq (K := mX5_isWord) (tgt := 75) dX5_isWord_41 (by decide) (fun c41 => ?_) (fun c41 => ?_)
          · skip
            have hX : ((decide (tS T L e = 1) && decide (tE T L e - tB T L e = strLen.getD i 0)) && allB (fun k => decide (byt T L (tB T L e + k) = (strByt.getD i []).getD k 0)) k) = false := bI_0 (hb.symm.trans c41)
            refine G_iload_n (K := mX5_isWord) (i := 2) dX5_isWord_75 rfl rfl ?_
            exact G_zrm (K := mX5_isWord) dX5_isWord_76 rfl (by rw [c41]; rfl) (by
              rw [c41, isW_eq]
              rcases Bool.and_eq_false_iff.mp hX with h | h
              · rw [h, Bool.false_and]; rfl
              · rw [allB_mono h hk, Bool.and_false]; rfl) rfl hQ
          · skip
            have hX : ((decide (tS T L e = 1) && decide (tE T L e - tB T L e = strLen.getD i 0)) && allB (fun k => decide (byt T L (tB T L e + k) = (strByt.getD i []).getD k 0)) k) = true := bI_1 (fun z => c41 (hb.trans z))
            obtain ⟨hX1, hX2⟩ := Bool.and_eq_true_iff.mp hX
            obtain ⟨hY1, hY2⟩ := Bool.and_eq_true_iff.mp hX1
            have hY3 := of_decide_eq_true hY2
            have hY4 := of_decide_eq_true hY1
            refine G_aload_n (K := mX5_isWord) (i := 0) dX5_isWord_44 rfl rfl ?_
            refine G_getr (K := mX5_isWord) fX5_43 dX5_isWord_45 rfl rfl ?_
            refine G_aload_n (K := mX5_isWord) (i := 0) dX5_isWord_48 rfl rfl ?_
            refine G_geti (K := mX5_isWord) fX5_266 dX5_isWord_49 rfl rfl ?_
            refine G_iload_n (K := mX5_isWord) (i := 3) dX5_isWord_52 rfl rfl ?_
            refine G_iadd (K := mX5_isWord) dX5_isWord_53 ?_
            rw [hK.1, nI_add]
            refine G_ld (K := mX5_isWord) (tB T L e + k) dX5_isWord_54 rfl rfl (by omega) (by decide) ?_
            rw [hT.1 _ (by omega), ← byt_in (T := T) (L := L) (k := tB T L e + k) (by omega)]
            refine G_aload_n (K := mX5_isWord) (i := 1) dX5_isWord_55 rfl rfl ?_
            refine G_iload_n (K := mX5_isWord) (i := 3) dX5_isWord_56 rfl rfl ?_
            refine G_callStr (K := mX5_isWord) (as := [.int (nI k)]) (Q' := fun v M' => v = some (.int ((strByt.getD i []).getD k 0)) ∧ M' = M) hi (j_charAt hi (by omega) ⟨rfl, rfl⟩) vJ0_charAt_5068e rfl lX5_281 rfl (by decide) (Nat.le_of_ble_eq_true rfl) dX5_isWord_57 rfl ?_
            rintro v M' ⟨rfl, e'⟩
            obtain rfl := e'.symm
            refine G_icmp_ne (K := mX5_isWord) (tgt := 67) dX5_isWord_60 (by decide) (fun c60 => ?_) (fun c60 => ?_)
            · skip
              have hp : (fun k => decide (byt T L (tB T L e + k) = (strByt.getD i []).getD k 0)) k = false := decide_eq_false c60
              refine G_iconst (K := mX5_isWord) (v := 0) dX5_isWord_67 (by decide) ?_
              refine G_istore_n (K := mX5_isWord) (i := 2) dX5_isWord_68 rfl (by decide) ?_
              refine G_iincN (K := mX5_isWord) dX5_isWord_69 (by decide) rfl ?_
              refine G_goto (K := mX5_isWord) (tgt := 32) dX5_isWord_72 (by decide) ?_
              exact ih (k + 1) (by omega) (by omega) _ (by rw [and_s, hX, decide_eq_false c60]; rfl)
            · skip
              have hp : (fun k => decide (byt T L (tB T L e + k) = (strByt.getD i []).getD k 0)) k = true := decide_eq_true c60
              refine G_iconst (K := mX5_isWord) (v := 1) dX5_isWord_63 (by decide) ?_
              refine G_goto (K := mX5_isWord) (tgt := 68) dX5_isWord_64 (by decide) ?_
              refine G_istore_n (K := mX5_isWord) (i := 2) dX5_isWord_68 rfl (by decide) ?_
              refine G_iincN (K := mX5_isWord) dX5_isWord_69 (by decide) rfl ?_
              refine G_goto (K := mX5_isWord) (tgt := 32) dX5_isWord_72 (by decide) ?_
              exact ih (k + 1) (by omega) (by omega) _ (by rw [and_s, hX, decide_eq_true c60]; rfl)
      exact loop32 0 (by omega) _ (by rw [hq]; rfl)

theorem str_diff : ∀ i : Fin 14, ∀ j : Fin 14, i ≠ j → strLen.getD i.1 0 = strLen.getD j.1 0 → ∃ k : Fin 9, k.1 < strLen.getD i.1 0 ∧ (strByt.getD i.1 []).getD k.1 0 ≠ (strByt.getD j.1 []).getD k.1 0 := by decide +kernel
theorem isW_one {T : Nat → Int32} {L e i j : Nat} (hi : i < 14) (hj : j < 14) (h1 : isW T L e i = true) (h2 : isW T L e j = true) : i = j := by
  by_cases hij : i = j
  · exact hij
  · exfalso
    unfold isW at h1 h2
    obtain ⟨-, h1⟩ := Bool.and_eq_true_iff.mp h1
    obtain ⟨-, h2⟩ := Bool.and_eq_true_iff.mp h2
    obtain ⟨a1, b1⟩ := Bool.and_eq_true_iff.mp h1
    obtain ⟨a2, b2⟩ := Bool.and_eq_true_iff.mp h2
    have hl := (of_decide_eq_true a1).symm.trans (of_decide_eq_true a2)
    obtain ⟨k, hk, hne⟩ := str_diff ⟨i, hi⟩ ⟨j, hj⟩ (fun z => hij (Fin.mk.inj z)) hl
    have c1 := of_decide_eq_true ((allB_iff _).mp b1 k.1 hk)
    have c2 := of_decide_eq_true ((allB_iff _).mp b2 k.1 (by rw [← hl]; exact hk))
    exact hne (c1.symm.trans c2)
theorem kinds_at {k : Nat} (hk : k < 7) : ([1100, 1101, 1102, 1103, 1104, 1105, 1106] : List Nat)[k]? = some (1100 + k) := by
  have h : k = 0 ∨ k = 1 ∨ k = 2 ∨ k = 3 ∨ k = 4 ∨ k = 5 ∨ k = 6 := by omega
  rcases h with rfl | rfl | rfl | rfl | rfl | rfl | rfl <;> rfl
theorem parts_at {k : Nat} (hk : k < 4) : ([1107, 1108, 1109, 1110] : List Nat)[k]? = some (1100 + (7 + k)) := by
  have h : k = 0 ∨ k = 1 ∨ k = 2 ∨ k = 3 := by omega
  rcases h with rfl | rfl | rfl | rfl <;> rfl
set_option maxRecDepth 20000 in
theorem rf_kindTold {T : Nat → Int32} {L e : Nat} {M : Mem} (hH : TH T L) (hT : TPr T L M) (hK : TR T L e M) (hel : e ≤ L) {Q : Option Value → Mem → Prop} (hQ : Q (some (.int (kindV (kindT T L e)))) M) : CT mX5_kindTold shR 5 [.ref 0] M Q := by
  refine CT.mk [some (.ref 0), none, none] (by decide) (Nat.le_of_ble_eq_true rfl) rfl rfl ?_
  refine G_iconst (K := mX5_kindTold) (v := -1) dX5_kindTold_0 (by decide) ?_
  refine G_istore_n (K := mX5_kindTold) (i := 1) dX5_kindTold_1 rfl (by decide) ?_
  refine G_iconst (K := mX5_kindTold) (v := 0) dX5_kindTold_2 (by decide) ?_
  refine G_istore_n (K := mX5_kindTold) (i := 2) dX5_kindTold_3 rfl (by decide) ?_
  have loop4 : ∀ k, k ≤ 7 → ∀ s : Int32, ((s = -1 ∧ ∀ j, j < k → isW T L e j = false) ∨ ∃ j, j < k ∧ s = nI j ∧ isW T L e j = true) → G mX5_kindTold shR 5 Q 4 [some (.ref 0), some (.int s), some (.int (nI k))] [] M := by
    refine upto 7 (fun k hk ih => ?_)
    intro s hs
    refine G_iload_n (K := mX5_kindTold) (i := 2) dX5_kindTold_4 rfl rfl ?_
    refine G_aload_n (K := mX5_kindTold) (i := 0) dX5_kindTold_5 rfl rfl ?_
    refine G_getr (K := mX5_kindTold) fX5_62 dX5_kindTold_6 rfl rfl ?_
    refine G_alenR (K := mX5_kindTold) dX5_kindTold_9 rfl (fun _ => ⟨_, rfl⟩) ?_
    refine G_icmp_ge (K := mX5_kindTold) (tgt := 38) dX5_kindTold_10 (by decide) (fun c10 => ?_) (fun c10 => ?_)
    · skip
      have hk7 : k = 7 := by
        have h := (le_nn (i := k) (n := 7) (by omega) (by omega)).mp c10
        omega
      subst hk7
      refine G_iload_n (K := mX5_kindTold) (i := 1) dX5_kindTold_38 rfl rfl ?_
      refine G_irm (K := mX5_kindTold) dX5_kindTold_39 rfl ?_ rfl hQ
      unfold kindT
      rcases hs with ⟨h1, h2⟩ | ⟨j, hj, h1, h2⟩
      · rw [findF_n0 h2]; exact h1
      · rw [findF_0 (p := fun k => isW T L e k) (j := j) hj (fun q hq => eq_false_of_ne_true (fun z => absurd (isW_one (show q < 14 by omega) (show j < 14 by omega) z h2) (by omega))) h2]; exact h1
    · skip
      have hk7 : k < 7 := by
        have h : ¬ 7 ≤ k := fun z => c10 ((le_nn (i := k) (n := 7) (by omega) (by omega)).mpr z)
        omega
      refine G_aload_n (K := mX5_kindTold) (i := 0) dX5_kindTold_13 rfl rfl ?_
      refine G_aload_n (K := mX5_kindTold) (i := 0) dX5_kindTold_14 rfl rfl ?_
      refine G_getr (K := mX5_kindTold) fX5_62 dX5_kindTold_15 rfl rfl ?_
      refine G_iload_n (K := mX5_kindTold) (i := 2) dX5_kindTold_18 rfl rfl ?_
      refine G_aald (K := mX5_kindTold) (r := 1100 + k) k dX5_kindTold_19 rfl (fun _ => ⟨_, rfl⟩) rfl (kinds_at hk7) (by decide) ?_
      refine G_cv (K := mX5_kindTold) (rf_isWord (T := T) (L := L) (e := e) (i := k) (M := M) hH hT hK hel (by omega) ⟨rfl, rfl⟩) vX5_isWord rfl lX5_299 dX5_kindTold_20 ⟨_, _, _, rfl, rfl, rfl⟩ (by decide) rfl (Nat.le_of_ble_eq_true rfl) ?_
      refine G_if_eq (K := mX5_kindTold) (tgt := 30) dX5_kindTold_23 (by decide) (fun c23 => ?_) (fun c23 => ?_)
      · skip
        have hw : isW T L e k = false := bI_0 c23
        refine G_iload_n (K := mX5_kindTold) (i := 1) dX5_kindTold_30 rfl rfl ?_
        refine G_istore_n (K := mX5_kindTold) (i := 1) dX5_kindTold_31 rfl (by decide) ?_
        refine G_iincN (K := mX5_kindTold) dX5_kindTold_32 (by decide) rfl ?_
        refine G_goto (K := mX5_kindTold) (tgt := 4) dX5_kindTold_35 (by decide) ?_
        refine ih (k + 1) (by omega) (by omega) _ ?_
        rcases hs with ⟨h1, h2⟩ | ⟨j, hj, h1, h2⟩
        · refine Or.inl ⟨h1, fun j hj => ?_⟩
          by_cases h : j = k
          · subst h; exact hw
          · exact h2 j (by omega)
        · exact Or.inr ⟨j, by omega, h1, h2⟩
      · skip
        have hw : isW T L e k = true := bI_1 c23
        refine G_iload_n (K := mX5_kindTold) (i := 2) dX5_kindTold_26 rfl rfl ?_
        refine G_goto (K := mX5_kindTold) (tgt := 31) dX5_kindTold_27 (by decide) ?_
        refine G_istore_n (K := mX5_kindTold) (i := 1) dX5_kindTold_31 rfl (by decide) ?_
        refine G_iincN (K := mX5_kindTold) dX5_kindTold_32 (by decide) rfl ?_
        refine G_goto (K := mX5_kindTold) (tgt := 4) dX5_kindTold_35 (by decide) ?_
        refine ih (k + 1) (by omega) (by omega) _ ?_
        exact Or.inr ⟨k, by omega, rfl, hw⟩
  exact loop4 0 (by omega) _ (Or.inl ⟨rfl, fun j hj => absurd hj (by omega)⟩)

