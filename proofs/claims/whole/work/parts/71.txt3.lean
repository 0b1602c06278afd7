set_option maxRecDepth 20000 in
theorem cl_isWord {T : Nat → Int32} {L e i : Nat} {M : Mem} (hH : TH T L) (hT : TP T L M) (hK : TK T L e M) (hel : e ≤ L) (hi : i < 14) {Q : Option Value → Mem → Prop} (hQ : Q (some (.int (bI (isW T L e i)))) M) : CT mX3_isWord shC 4 [.ref 45, .ref (1100 + i)] M Q := by
  refine CT.mk [some (.ref 45), some (.ref (1100 + i)), none] (by decide) (Nat.le_of_ble_eq_true rfl) rfl rfl ?_
  have hL := hH.1
  have hlen : strLen.getD i 0 < 9 := str_small ⟨i, hi⟩
  have hbl := tB_le (T := T) hel
  have hEl := tE_le (T := T) hel
  have hBE := tE_ge (T := T) (L := L) (e := e)
  refine G_aload_n (K := mX3_isWord) (i := 0) dX3_isWord_0 rfl rfl ?_
  refine G_geti (K := mX3_isWord) fX3_40 dX3_isWord_1 rfl rfl ?_
  refine G_iconst (K := mX3_isWord) (v := 1) dX3_isWord_4 (by decide) ?_
  rw [hK.1]
  refine G_icmp_ne (K := mX3_isWord) (tgt := 24) dX3_isWord_5 (by decide) (fun c5 => ?_) (fun c5 => ?_)
  · skip
    refine G_iconst (K := mX3_isWord) (v := 0) dX3_isWord_24 (by decide) ?_
    exact G_zrm (K := mX3_isWord) dX3_isWord_25 rfl rfl (bI_f (by unfold isW; rw [decide_eq_false c5, Bool.false_and])).symm rfl hQ
  · skip
    refine G_aload_n (K := mX3_isWord) (i := 0) dX3_isWord_8 rfl rfl ?_
    refine G_geti (K := mX3_isWord) fX3_29 dX3_isWord_9 rfl rfl ?_
    refine G_aload_n (K := mX3_isWord) (i := 0) dX3_isWord_12 rfl rfl ?_
    refine G_geti (K := mX3_isWord) fX3_43 dX3_isWord_13 rfl rfl ?_
    refine G_isub (K := mX3_isWord) dX3_isWord_16 ?_
    rw [hK.2.2.1, hK.2.1, nI_subI hBE (by omega)]
    refine G_aload_n (K := mX3_isWord) (i := 1) dX3_isWord_17 rfl rfl ?_
    refine G_callStr (K := mX3_isWord) (as := []) (Q' := fun v M' => v = some (.int (nI (strLen.getD i 0))) ∧ M' = M) hi (j_length hi ⟨rfl, rfl⟩) vJ0_length_8abf5 rfl lX3_129 rfl (by decide) (Nat.le_of_ble_eq_true rfl) dX3_isWord_18 rfl ?_
    rintro v M' ⟨rfl, e'⟩
    obtain rfl := e'.symm
    refine G_icmp_eq (K := mX3_isWord) (tgt := 26) dX3_isWord_21 (by decide) (fun c21 => ?_) (fun c21 => ?_)
    · skip
      refine G_iconst (K := mX3_isWord) (v := 0) dX3_isWord_26 (by decide) ?_
      refine G_istore_n (K := mX3_isWord) (i := 2) dX3_isWord_27 rfl (by decide) ?_
      have loop28 : ∀ k, k ≤ strLen.getD i 0 → (∀ j, j < k → decide (byt T L (tB T L e + j) = (strByt.getD i []).getD j 0) = true) → G mX3_isWord shC 4 Q 28 [some (.ref 45), some (.ref (1100 + i)), some (.int (nI k))] [] M := by
        refine upto (strLen.getD i 0) (fun k hk ih => ?_)
        intro hok
        refine G_iload_n (K := mX3_isWord) (i := 2) dX3_isWord_28 rfl rfl ?_
        refine G_aload_n (K := mX3_isWord) (i := 1) dX3_isWord_29 rfl rfl ?_
        refine G_callStr (K := mX3_isWord) (as := []) (Q' := fun v M' => v = some (.int (nI (strLen.getD i 0))) ∧ M' = M) hi (j_length hi ⟨rfl, rfl⟩) vJ0_length_8abf5 rfl lX3_129 rfl (by decide) (Nat.le_of_ble_eq_true rfl) dX3_isWord_30 rfl ?_
        rintro v M' ⟨rfl, e'⟩
        obtain rfl := e'.symm
        refine G_icmp_ge (K := mX3_isWord) (tgt := 65) dX3_isWord_33 (by decide) (fun c33 => ?_) (fun c33 => ?_)
        · skip
          rw [le_nn (by omega) (by omega)] at c33
          have hkl : k = strLen.getD i 0 := by omega
          refine G_iconst (K := mX3_isWord) (v := 1) dX3_isWord_65 (by decide) ?_
          exact G_zrm (K := mX3_isWord) dX3_isWord_66 rfl rfl (bI_t (by
            unfold isW wordB
            rw [decide_eq_true c5, decide_eq_true ((nI_eqI (by omega) (by omega)).mp c21), (allB_iff _).mpr (fun j hj => hok j (by omega))]
            rfl)).symm rfl hQ
        · skip
          rw [le_nn (by omega) (by omega)] at c33
          refine G_aload_n (K := mX3_isWord) (i := 0) dX3_isWord_36 rfl rfl ?_
          refine G_getr (K := mX3_isWord) fX3_12 dX3_isWord_37 rfl rfl ?_
          refine G_aload_n (K := mX3_isWord) (i := 0) dX3_isWord_40 rfl rfl ?_
          refine G_geti (K := mX3_isWord) fX3_43 dX3_isWord_41 rfl rfl ?_
          refine G_iload_n (K := mX3_isWord) (i := 2) dX3_isWord_44 rfl rfl ?_
          refine G_iadd (K := mX3_isWord) dX3_isWord_45 ?_
          rw [hK.2.1, nI_add]
          refine G_cv (K := mX3_isWord) (cl_byteAt (T := T) (L := L) (k := tB T L e + k) (M := M) hT hL (by omega) ⟨rfl, rfl⟩) vX2_byteAt rfl lX3_134 dX3_isWord_46 ⟨_, _, _, rfl, rfl, rfl⟩ (by decide) rfl (Nat.le_of_ble_eq_true rfl) ?_
          refine G_aload_n (K := mX3_isWord) (i := 1) dX3_isWord_49 rfl rfl ?_
          refine G_iload_n (K := mX3_isWord) (i := 2) dX3_isWord_50 rfl rfl ?_
          refine G_callStr (K := mX3_isWord) (as := [.int (nI k)]) (Q' := fun v M' => v = some (.int ((strByt.getD i []).getD k 0)) ∧ M' = M) hi (j_charAt hi (by omega) ⟨rfl, rfl⟩) vJ0_charAt_5068e rfl lX3_137 rfl (by decide) (Nat.le_of_ble_eq_true rfl) dX3_isWord_51 rfl ?_
          rintro v M' ⟨rfl, e'⟩
          obtain rfl := e'.symm
          refine G_icmp_eq (K := mX3_isWord) (tgt := 59) dX3_isWord_54 (by decide) (fun c54 => ?_) (fun c54 => ?_)
          · skip
            refine G_iincN (K := mX3_isWord) dX3_isWord_59 (by decide) rfl ?_
            refine G_goto (K := mX3_isWord) (tgt := 28) dX3_isWord_62 (by decide) ?_
            exact ih (k + 1) (by omega) (by omega) (fun j hj => by
                by_cases h : j = k
                · subst h; exact decide_eq_true c54
                · exact hok j (by omega))
          · skip
            refine G_iconst (K := mX3_isWord) (v := 0) dX3_isWord_57 (by decide) ?_
            exact G_zrm (K := mX3_isWord) dX3_isWord_58 rfl rfl (bI_f (by unfold isW wordB; rw [allB_f (i := k) (decide_eq_false c54) _ (by omega), Bool.and_false, Bool.and_false])).symm rfl hQ
      exact loop28 0 (by omega) (fun j hj => absurd hj (by omega))
    · skip
      refine G_iconst (K := mX3_isWord) (v := 0) dX3_isWord_24 (by decide) ?_
      exact G_zrm (K := mX3_isWord) dX3_isWord_25 rfl rfl (bI_f (by unfold isW; rw [decide_eq_false (show ¬ tE T L e - tB T L e = strLen.getD i 0 from fun z => c21 (by rw [z])), Bool.false_and, Bool.and_false])).symm rfl hQ

set_option maxRecDepth 20000 in
theorem cl_wordOfKind {M : Mem} {k : Nat} (hk : k < 7) {Q : Option Value → Mem → Prop} (hQ : Q (some (.ref (1100 + k))) M) : CT mX3_wordOfKind shC 0 [.int (nI k)] M Q := by
  refine CT.mk [some (.int (nI k))] (by decide) (Nat.le_of_ble_eq_true rfl) rfl rfl ?_
  refine G_iload_n (K := mX3_wordOfKind) (i := 0) dX3_wordOfKind_0 rfl rfl ?_
  by_cases e1_0 : nI k = 0
  · refine G_tableIn (K := mX3_wordOfKind) (tgt := 40) dX3_wordOfKind_1 (by rw [e1_0]; decide) (by rw [e1_0]; decide) (by rw [e1_0]; rfl) (by decide) ?_
    refine G_ldcs (K := mX3_wordOfKind) (i := 0) (tx := "even") dX3_wordOfKind_40 (by decide +kernel) ?_
    have hkj : k = 0 := (nI_eqI (by omega) (by omega)).mp e1_0
    subst hkj
    exact G_aret (st := []) (K := mX3_wordOfKind) dX3_wordOfKind_42 ⟨_, rfl, Or.inl ⟨_, rfl⟩⟩ hQ
  by_cases e1_1 : nI k = 1
  · refine G_tableIn (K := mX3_wordOfKind) (tgt := 43) dX3_wordOfKind_1 (by rw [e1_1]; decide) (by rw [e1_1]; decide) (by rw [e1_1]; rfl) (by decide) ?_
    refine G_ldcs (K := mX3_wordOfKind) (i := 1) (tx := "kindly") dX3_wordOfKind_43 (by decide +kernel) ?_
    have hkj : k = 1 := (nI_eqI (by omega) (by omega)).mp e1_1
    subst hkj
    exact G_aret (st := []) (K := mX3_wordOfKind) dX3_wordOfKind_45 ⟨_, rfl, Or.inl ⟨_, rfl⟩⟩ hQ
  by_cases e1_2 : nI k = 2
  · refine G_tableIn (K := mX3_wordOfKind) (tgt := 46) dX3_wordOfKind_1 (by rw [e1_2]; decide) (by rw [e1_2]; decide) (by rw [e1_2]; rfl) (by decide) ?_
    refine G_ldcs (K := mX3_wordOfKind) (i := 2) (tx := "just") dX3_wordOfKind_46 (by decide +kernel) ?_
    have hkj : k = 2 := (nI_eqI (by omega) (by omega)).mp e1_2
    subst hkj
    exact G_aret (st := []) (K := mX3_wordOfKind) dX3_wordOfKind_48 ⟨_, rfl, Or.inl ⟨_, rfl⟩⟩ hQ
  by_cases e1_3 : nI k = 3
  · refine G_tableIn (K := mX3_wordOfKind) (tgt := 49) dX3_wordOfKind_1 (by rw [e1_3]; decide) (by rw [e1_3]; decide) (by rw [e1_3]; rfl) (by decide) ?_
    refine G_ldcs (K := mX3_wordOfKind) (i := 3) (tx := "miser") dX3_wordOfKind_49 (by decide +kernel) ?_
    have hkj : k = 3 := (nI_eqI (by omega) (by omega)).mp e1_3
    subst hkj
    exact G_aret (st := []) (K := mX3_wordOfKind) dX3_wordOfKind_51 ⟨_, rfl, Or.inl ⟨_, rfl⟩⟩ hQ
  by_cases e1_4 : nI k = 4
  · refine G_tableIn (K := mX3_wordOfKind) (tgt := 52) dX3_wordOfKind_1 (by rw [e1_4]; decide) (by rw [e1_4]; decide) (by rw [e1_4]; rfl) (by decide) ?_
    refine G_ldcs (K := mX3_wordOfKind) (i := 4) (tx := "saintly") dX3_wordOfKind_52 (by decide +kernel) ?_
    have hkj : k = 4 := (nI_eqI (by omega) (by omega)).mp e1_4
    subst hkj
    exact G_aret (st := []) (K := mX3_wordOfKind) dX3_wordOfKind_54 ⟨_, rfl, Or.inl ⟨_, rfl⟩⟩ hQ
  by_cases e1_5 : nI k = 5
  · refine G_tableIn (K := mX3_wordOfKind) (tgt := 55) dX3_wordOfKind_1 (by rw [e1_5]; decide) (by rw [e1_5]; decide) (by rw [e1_5]; rfl) (by decide) ?_
    refine G_ldcs (K := mX3_wordOfKind) (i := 5) (tx := "slow") dX3_wordOfKind_55 (by decide +kernel) ?_
    have hkj : k = 5 := (nI_eqI (by omega) (by omega)).mp e1_5
    subst hkj
    exact G_aret (st := []) (K := mX3_wordOfKind) dX3_wordOfKind_57 ⟨_, rfl, Or.inl ⟨_, rfl⟩⟩ hQ
  have fe1_0 : (nI k).toInt ≠ 0 := fun h => e1_0 (Int32.toInt_inj.mp (h.trans (by decide)))
  have fe1_1 : (nI k).toInt ≠ 1 := fun h => e1_1 (Int32.toInt_inj.mp (h.trans (by decide)))
  have fe1_2 : (nI k).toInt ≠ 2 := fun h => e1_2 (Int32.toInt_inj.mp (h.trans (by decide)))
  have fe1_3 : (nI k).toInt ≠ 3 := fun h => e1_3 (Int32.toInt_inj.mp (h.trans (by decide)))
  have fe1_4 : (nI k).toInt ≠ 4 := fun h => e1_4 (Int32.toInt_inj.mp (h.trans (by decide)))
  have fe1_5 : (nI k).toInt ≠ 5 := fun h => e1_5 (Int32.toInt_inj.mp (h.trans (by decide)))
  refine G_tableOut (K := mX3_wordOfKind) (tgt := 58) dX3_wordOfKind_1 (by omega) (by decide) ?_
  refine G_ldcs (K := mX3_wordOfKind) (i := 6) (tx := "spiteful") dX3_wordOfKind_58 (by decide +kernel) ?_
  have hk6 : k = 6 := by
    have q0 : k ≠ 0 := fun z => e1_0 (by rw [z]; rfl)
    have q1 : k ≠ 1 := fun z => e1_1 (by rw [z]; rfl)
    have q2 : k ≠ 2 := fun z => e1_2 (by rw [z]; rfl)
    have q3 : k ≠ 3 := fun z => e1_3 (by rw [z]; rfl)
    have q4 : k ≠ 4 := fun z => e1_4 (by rw [z]; rfl)
    have q5 : k ≠ 5 := fun z => e1_5 (by rw [z]; rfl)
    omega
  subst hk6
  exact G_aret (st := []) (K := mX3_wordOfKind) dX3_wordOfKind_60 ⟨_, rfl, Or.inl ⟨_, rfl⟩⟩ hQ

set_option maxRecDepth 20000 in
theorem cl_wordOfPart {M : Mem} {p : Nat} (hp1 : 1 ≤ p) (hp4 : p ≤ 4) {Q : Option Value → Mem → Prop} (hQ : Q (some (.ref (1100 + (6 + p)))) M) : CT mX3_wordOfPart shC 0 [.int (nI p)] M Q := by
  refine CT.mk [some (.int (nI p))] (by decide) (Nat.le_of_ble_eq_true rfl) rfl rfl ?_
  refine G_iload_n (K := mX3_wordOfPart) (i := 0) dX3_wordOfPart_0 rfl rfl ?_
  by_cases e1_0 : nI p = 1
  · refine G_tableIn (K := mX3_wordOfPart) (tgt := 28) dX3_wordOfPart_1 (by rw [e1_0]; decide) (by rw [e1_0]; decide) (by rw [e1_0]; rfl) (by decide) ?_
    refine G_ldcs (K := mX3_wordOfPart) (i := 7) (tx := "warm") dX3_wordOfPart_28 (by decide +kernel) ?_
    have hkj : p = 1 := (nI_eqI (by omega) (by omega)).mp e1_0
    subst hkj
    exact G_aret (st := []) (K := mX3_wordOfPart) dX3_wordOfPart_30 ⟨_, rfl, Or.inl ⟨_, rfl⟩⟩ hQ
  by_cases e1_1 : nI p = 2
  · refine G_tableIn (K := mX3_wordOfPart) (tgt := 31) dX3_wordOfPart_1 (by rw [e1_1]; decide) (by rw [e1_1]; decide) (by rw [e1_1]; rfl) (by decide) ?_
    refine G_ldcs (K := mX3_wordOfPart) (i := 8) (tx := "coal") dX3_wordOfPart_31 (by decide +kernel) ?_
    have hkj : p = 2 := (nI_eqI (by omega) (by omega)).mp e1_1
    subst hkj
    exact G_aret (st := []) (K := mX3_wordOfPart) dX3_wordOfPart_33 ⟨_, rfl, Or.inl ⟨_, rfl⟩⟩ hQ
  by_cases e1_2 : nI p = 3
  · refine G_tableIn (K := mX3_wordOfPart) (tgt := 34) dX3_wordOfPart_1 (by rw [e1_2]; decide) (by rw [e1_2]; decide) (by rw [e1_2]; rfl) (by decide) ?_
    refine G_ldcs (K := mX3_wordOfPart) (i := 9) (tx := "wall") dX3_wordOfPart_34 (by decide +kernel) ?_
    have hkj : p = 3 := (nI_eqI (by omega) (by omega)).mp e1_2
    subst hkj
    exact G_aret (st := []) (K := mX3_wordOfPart) dX3_wordOfPart_36 ⟨_, rfl, Or.inl ⟨_, rfl⟩⟩ hQ
  have fe1_0 : (nI p).toInt ≠ 1 := fun h => e1_0 (Int32.toInt_inj.mp (h.trans (by decide)))
  have fe1_1 : (nI p).toInt ≠ 2 := fun h => e1_1 (Int32.toInt_inj.mp (h.trans (by decide)))
  have fe1_2 : (nI p).toInt ≠ 3 := fun h => e1_2 (Int32.toInt_inj.mp (h.trans (by decide)))
  refine G_tableOut (K := mX3_wordOfPart) (tgt := 37) dX3_wordOfPart_1 (by omega) (by decide) ?_
  refine G_ldcs (K := mX3_wordOfPart) (i := 10) (tx := "heats") dX3_wordOfPart_37 (by decide +kernel) ?_
  have hp : p = 4 := by
    have q1 : p ≠ 1 := fun z => e1_0 (by rw [z]; rfl)
    have q2 : p ≠ 2 := fun z => e1_1 (by rw [z]; rfl)
    have q3 : p ≠ 3 := fun z => e1_2 (by rw [z]; rfl)
    omega
  subst hp
  exact G_aret (st := []) (K := mX3_wordOfPart) dX3_wordOfPart_39 ⟨_, rfl, Or.inl ⟨_, rfl⟩⟩ hQ

def kindV (o : Option Nat) : Int32 := match o with
  | some k => nI k
  | none => -1
set_option maxRecDepth 20000 in
theorem cl_kindTold {T : Nat → Int32} {L e : Nat} {M : Mem} (hH : TH T L) (hT : TP T L M) (hK : TK T L e M) (hel : e ≤ L) {Q : Option Value → Mem → Prop} (hQ : Q (some (.int (kindV (kindT T L e)))) M) : CT mX3_kindTold shC 5 [.ref 45] M Q := by
  refine CT.mk [some (.ref 45), none] (by decide) (Nat.le_of_ble_eq_true rfl) rfl rfl ?_
  refine G_iconst (K := mX3_kindTold) (v := 0) dX3_kindTold_0 (by decide) ?_
  refine G_istore_n (K := mX3_kindTold) (i := 1) dX3_kindTold_1 rfl (by decide) ?_
  have loop2 : ∀ k, k ≤ 7 → (∀ j, j < k → isW T L e j = false) → G mX3_kindTold shC 5 Q 2 [some (.ref 45), some (.int (nI k))] [] M := by
    refine upto 7 (fun k hk ih => ?_)
    intro hno
    refine G_iload_n (K := mX3_kindTold) (i := 1) dX3_kindTold_2 rfl rfl ?_
    refine G_bipush (K := mX3_kindTold) (v := 6) dX3_kindTold_3 (by decide) ?_
    refine G_icmp_gt (K := mX3_kindTold) (tgt := 27) dX3_kindTold_5 (by decide) (fun c5 => ?_) (fun c5 => ?_)
    · skip
      rw [show (6 : Int32) = nI 6 from rfl, lt_nn (by omega) (by omega)] at c5
      have hk7 : k = 7 := by omega
      subst hk7
      refine G_iconst (K := mX3_kindTold) (v := -1) dX3_kindTold_27 (by decide) ?_
      exact G_irm (K := mX3_kindTold) dX3_kindTold_28 rfl (show _ = kindV (kindT T L e) from by unfold kindT; rw [findF_n0 hno]; rfl) rfl hQ
    · skip
      rw [show (6 : Int32) = nI 6 from rfl, lt_nn (by omega) (by omega)] at c5
      refine G_aload_n (K := mX3_kindTold) (i := 0) dX3_kindTold_8 rfl rfl ?_
      refine G_iload_n (K := mX3_kindTold) (i := 1) dX3_kindTold_9 rfl rfl ?_
      refine G_callS0 (K := mX3_kindTold) (as := [.int (nI k)]) (Q' := fun v M' => v = some (.ref (1100 + k)) ∧ M' = M) (cl_wordOfKind (by omega) ⟨rfl, rfl⟩) sX3_wordOfKind rfl lX3_104 (by decide) (Nat.le_of_ble_eq_true rfl) dX3_kindTold_10 rfl ?_
      rintro v M' ⟨rfl, e'⟩
      obtain rfl := e'.symm
      refine G_cv (K := mX3_kindTold) (cl_isWord (T := T) (L := L) (e := e) (i := k) (M := M) hH hT hK hel (by omega) ⟨rfl, rfl⟩) vX3_isWord rfl lX3_56 dX3_kindTold_13 ⟨_, _, _, rfl, rfl, rfl⟩ (by decide) rfl (Nat.le_of_ble_eq_true rfl) ?_
      refine G_if_eq (K := mX3_kindTold) (tgt := 21) dX3_kindTold_16 (by decide) (fun c16 => ?_) (fun c16 => ?_)
      · skip
        refine G_iincN (K := mX3_kindTold) dX3_kindTold_21 (by decide) rfl ?_
        refine G_goto (K := mX3_kindTold) (tgt := 2) dX3_kindTold_24 (by decide) ?_
        exact ih (k + 1) (by omega) (by omega) (fun j hj => by
            by_cases h : j = k
            · subst h; exact bI_0 c16
            · exact hno j (by omega))
      · skip
        refine G_iload_n (K := mX3_kindTold) (i := 1) dX3_kindTold_19 rfl rfl ?_
        exact G_irm (K := mX3_kindTold) dX3_kindTold_20 rfl (show nI k = kindV (kindT T L e) from by unfold kindT; rw [findF_0 (j := k) (by omega) hno (bI_1 c16)]; rfl) rfl hQ
  exact loop2 0 (by omega) (fun j hj => absurd hj (by omega))

