theorem RR.img {M σ : Mem} (hR : RR M σ) : RR (ups (cpyM M 1 2 86) 0 3 1) (imgS σ) := by
  have em : ∀ c, c ≠ 0 → c ≠ 2 → ups (cpyM M 1 2 86) 0 3 1 c = M c := fun c a b => by rw [ups_cell a, cpyM_c b]
  have e2 : toH (ups (cpyM M 1 2 86) 0 3 1 2) = toH (M 1) := by rw [ups_cell (by decide)]; exact toH_cpy
  have ek : ∀ j, j < 11 → keptH (imgS σ) j = σ j := fun j hj => by
    funext i
    show (if 20 ≤ 20 + j ∧ 20 + j < 31 then σ (20 + j - 20) i else _) = _
    rw [if_pos (by omega), show 20 + j - 20 = j by omega]
  have es : ∀ c, (c < 20 ∨ 41 ≤ c) → imgS σ c = σ c := fun c hc => by
    funext i
    show (if 20 ≤ c ∧ c < 31 then _ else if c = 40 ∧ i = 0 then 1 else σ c i) = _
    rw [if_neg (by omega), if_neg (by omega)]
  have hnk : nOf (keptH (imgS σ)) = nOf σ := by unfold nOf; rw [ek 0 (by omega)]
  obtain ⟨r1, r2, r3, r4, r5, r6, r7, r8⟩ := id hR
  refine ⟨hR.one (by rw [em 1 (by decide) (by decide)]) (fun j hj => es j (by omega)), ?_, ?_, by rw [em 4 (by decide) (by decide), es 41 (by omega)]; exact r4, by rw [em 12 (by decide) (by decide), es 42 (by omega)]; exact r5, ?_, fun s hs => ?_, by rw [em 5 (by decide) (by decide), em 6 (by decide) (by decide)]; exact r8⟩
  · rw [hnk, e2]
    exact fun _ => r1.tr (HR.ofEq (fun j hj => (ek j hj).symm) (HR.rf _ _))
  · rw [ups_same]
    exact ((if_neg (by omega)).trans (if_pos ⟨rfl, rfl⟩)).symm
  · rw [ups_ne (by omega), cpyM_c (by decide), es 43 (by omega)]; exact r6
  · rw [em 16 (by decide) (by decide), em 17 (by decide) (by decide), em 18 (by decide) (by decide), es 44 (by omega), es 45 (by omega), es (46 + s) (by omega)]
    exact r7 s hs
theorem RR.un {M σ : Mem} (hR : RR M σ) (h0 : ¬ σ 40 0 = 0) : RR (cpyM M 2 1 86) (unS σ) := by
  have em : ∀ c, c ≠ 1 → cpyM M 2 1 86 c = M c := fun c a => cpyM_c a
  have e1 : ∀ j, j < 11 → unS σ j = keptH σ j := fun j hj => if_pos hj
  have es : ∀ c, 11 ≤ c → unS σ c = σ c := fun c hc => if_neg (by omega)
  have hn : nOf (unS σ) = nOf (keptH σ) := by unfold nOf; rw [e1 0 (by omega)]
  obtain ⟨r1, r2, r3, r4, r5, r6, r7, r8⟩ := id hR
  refine ⟨?_, hR.two (by rw [em 2 (by decide)]) (fun j hj => es _ (by omega)) (by rw [es 40 (by omega)]), by rw [em 0 (by decide), es 40 (by omega)]; exact r3, by rw [em 4 (by decide), es 41 (by omega)]; exact r4, by rw [em 12 (by decide), es 42 (by omega)]; exact r5, by rw [em 0 (by decide), es 43 (by omega)]; exact r6, fun s hs => ?_, by rw [em 5 (by decide), em 6 (by decide)]; exact r8⟩
  · rw [hn, toH_cpy]
    exact (r2 h0).tr (HR.ofEq (fun j hj => (e1 j hj).symm) (HR.rf _ _))
  · rw [em 16 (by decide), em 17 (by decide), em 18 (by decide), es 44 (by omega), es 45 (by omega), es (46 + s) (by omega)]
    exact r7 s hs
theorem away_bit {x : Int32} {i : Nat} (hi : i < 8) (hx : rg x 0 1) : x <<< (nI i &&& 31) = if x = 1 then bitI i else 0 := by
  unfold rg at hx
  have h : x = 0 ∨ x = 1 := by
    have h2 : x.toInt = 0 ∨ x.toInt = 1 := by omega
    rcases h2 with h2 | h2
    · exact Or.inl (i32_ext h2)
    · exact Or.inr (i32_ext h2)
  have h8 : i = 0 ∨ i = 1 ∨ i = 2 ∨ i = 3 ∨ i = 4 ∨ i = 5 ∨ i = 6 ∨ i = 7 := by omega
  rcases h with rfl | rfl
  · rw [if_neg (by decide)]
    rcases h8 with rfl | rfl | rfl | rfl | rfl | rfl | rfl | rfl <;> decide
  · rw [if_pos rfl]
    rfl
theorem trav_s {h : Mem} {j : Nat} (hj : j < 8) (ej : remI (ushr8 (drawF (h 0 3))) (h 0 0) = nI j) : travS h = ups (ups h 0 3 (drawF (h 0 3))) 6 j (1 - h 6 j) := by
  unfold travS
  rw [ej, cut_nI (by omega)]
theorem travN_away {h : Mem} {n : Nat} (hn : h 0 0 = nI n) (h1 : 0 < n) (h8 : n ≤ 8) (ha : ∀ i, i < n → rg (h 6 i) 0 1) : ∀ k i, i < n → rg (travN k h 6 i) 0 1
  | 0, i, hi => ha i hi
  | k + 1, i, hi => by
    obtain ⟨j, hj, ej⟩ := trav_j (h := travN k h) ((travN_n h k).trans hn) h1 h8
    show rg (travS (travN k h) 6 i) 0 1
    rw [trav_s (by omega) ej]
    by_cases hij : i = j
    · subst hij
      rw [ups_same]
      have h2 := travN_away hn h1 h8 ha k i hi
      unfold rg at h2 ⊢
      have e1 : (1 : Int32).toInt = 1 := rfl
      rw [sub_I (by rw [e1]; omega) (by rw [e1]; omega), e1]
      omega
    · rw [ups_ne (fun z => hij z.2), ups_cell (by decide)]
      exact travN_away hn h1 h8 ha k i hi
set_option maxRecDepth 20000 in
theorem rf_image {M σ : Mem}  (hR : RR M σ) (hI : Inv σ) {Q : Option Value → Mem → Prop} (hQ : ∀ u' M', PostR (opImage σ) u' M' → Q u' M') : CT mX5_image shR 8 [.ref 0] M Q := by
  refine CT.mk [some (.ref 0)] (by decide) (Nat.le_of_ble_eq_true rfl) rfl rfl ?_
  refine G_aload_n (K := mX5_image) (i := 0) dX5_image_0 rfl rfl ?_
  refine G_getr (K := mX5_image) fX5_9 dX5_image_1 rfl rfl ?_
  refine G_aload_n (K := mX5_image) (i := 0) dX5_image_4 rfl rfl ?_
  refine G_getr (K := mX5_image) fX5_13 dX5_image_5 rfl rfl ?_
  refine G_sn (K := mX5_image) (c_X5_copyRow (a := 1) (b := 2) rfl rfl (by decide) ⟨rfl, rfl⟩) sX5_copyRow rfl lX5_93 dX5_image_8 (by decide) rfl (Nat.le_of_ble_eq_true rfl) ?_
  refine G_aload_n (K := mX5_image) (i := 0) dX5_image_11 rfl rfl ?_
  refine G_iconst (K := mX5_image) (v := 1) dX5_image_12 (by decide) ?_
  refine G_put (K := mX5_image) fX5_348 w5_3 dX5_image_13 rfl rfl rfl rfl ?_
  refine G_iconst (K := mX5_image) (v := 1) dX5_image_16 (by decide) ?_
  exact G_iret (st := []) (K := mX5_image) dX5_image_17 rfl (hQ _ _ ⟨rfl, hR.img⟩)

set_option maxRecDepth 20000 in
theorem rf_undo {M σ : Mem}  (hR : RR M σ) (hI : Inv σ) {Q : Option Value → Mem → Prop} (hQ : ∀ u' M', PostR (opUndo σ) u' M' → Q u' M') : CT mX5_undo shR 8 [.ref 0] M Q := by
  refine CT.mk [some (.ref 0)] (by decide) (Nat.le_of_ble_eq_true rfl) rfl rfl ?_
  refine G_aload_n (K := mX5_undo) (i := 0) dX5_undo_0 rfl rfl ?_
  refine G_geti (K := mX5_undo) fX5_348 dX5_undo_1 rfl rfl ?_
  rw [hR.2.2.1]
  refine G_if_ne (K := mX5_undo) (tgt := 14) dX5_undo_4 (by decide) (fun c4 => ?_) (fun c4 => ?_)
  · skip
    refine G_aload_n (K := mX5_undo) (i := 0) dX5_undo_14 rfl rfl ?_
    refine G_getr (K := mX5_undo) fX5_13 dX5_undo_15 rfl rfl ?_
    refine G_aload_n (K := mX5_undo) (i := 0) dX5_undo_18 rfl rfl ?_
    refine G_getr (K := mX5_undo) fX5_9 dX5_undo_19 rfl rfl ?_
    refine G_sn (K := mX5_undo) (c_X5_copyRow (a := 2) (b := 1) rfl rfl (by decide) ⟨rfl, rfl⟩) sX5_copyRow rfl lX5_93 dX5_undo_22 (by decide) rfl (Nat.le_of_ble_eq_true rfl) ?_
    refine G_aload_n (K := mX5_undo) (i := 0) dX5_undo_25 rfl rfl ?_
    refine G_getr (K := mX5_undo) fX5_9 dX5_undo_26 rfl rfl ?_
    refine G_iconst (K := mX5_undo) (v := 0) dX5_undo_29 (by decide) ?_
    refine G_ld (K := mX5_undo) 0 dX5_undo_30 rfl rfl (by omega) (by decide) ?_
    exact G_iret (st := []) (K := mX5_undo) dX5_undo_31 rfl (hQ _ _ (by rw [show opUndo σ = (σ 20 2, unS σ) from if_neg c4]; exact ⟨congrArg (fun z => some (Value.int z)) ((congrFun (congrFun (toH_cpy (M := M) (a := 2) (b := 1)) 0) 2).trans ((hR.2.1 c4).1 2 (by omega))), hR.un c4⟩))
  · skip
    refine G_aload_n (K := mX5_undo) (i := 0) dX5_undo_7 rfl rfl ?_
    refine G_ldc (K := mX5_undo) dX5_undo_8 kX5_186 ?_
    refine G_call0 (K := mX5_undo) (Q' := PostR (tl σ 3)) (rf_finding hR (k := 3) (by omega) (fun _ _ h => h)) vX5_finding rfl lX5_109 ⟨_, _, _, rfl, rfl, rfl⟩ (by decide) (Nat.le_of_ble_eq_true rfl) dX5_undo_10 rfl ?_
    rintro v M1 ⟨rfl, hR1⟩
    exact G_iret (st := []) (K := mX5_undo) dX5_undo_13 rfl (hQ _ _ (by rw [show opUndo σ = _ from (by unfold opUndo; exact if_pos c4)]; exact ⟨rfl, hR1⟩))

set_option maxRecDepth 20000 in
theorem rf_count {M σ : Mem} {w : Int32} (hR : RR M σ) (hI : Inv σ) {Q : Option Value → Mem → Prop} (hQ : ∀ u' M', PostR (opCount σ w) u' M' → Q u' M') : CT mX5_count shR 8 [.ref 0, .int w] M Q := by
  refine CT.mk [some (.ref 0), some (.int w), none, none] (by decide) (Nat.le_of_ble_eq_true rfl) rfl rfl ?_
  refine G_iconst (K := mX5_count) (v := 0) dX5_count_0 (by decide) ?_
  refine G_istore_n (K := mX5_count) (i := 2) dX5_count_1 rfl (by decide) ?_
  refine G_iload_n (K := mX5_count) (i := 1) dX5_count_2 rfl rfl ?_
  by_cases e3_0 : w = 0
  · refine G_tableIn (K := mX5_count) (tgt := 48) dX5_count_3 (by rw [e3_0]; decide) (by rw [e3_0]; decide) (by rw [e3_0]; rfl) (by decide) ?_
    refine G_aload_n (K := mX5_count) (i := 0) dX5_count_48 rfl rfl ?_
    refine G_getr (K := mX5_count) fX5_9 dX5_count_49 rfl rfl ?_
    refine G_iconst (K := mX5_count) (v := 0) dX5_count_52 (by decide) ?_
    refine G_ld (K := mX5_count) 0 dX5_count_53 rfl rfl (by omega) (by decide) ?_
    exact G_iret (st := []) (K := mX5_count) dX5_count_54 rfl (hQ _ _ (by rw [show opCount σ w = _ from if_pos e3_0]; exact ⟨congrArg (fun z => some (Value.int z)) (hR.hour), hR⟩))
  by_cases e3_1 : w = 1
  · refine G_tableIn (K := mX5_count) (tgt := 55) dX5_count_3 (by rw [e3_1]; decide) (by rw [e3_1]; decide) (by rw [e3_1]; rfl) (by decide) ?_
    refine G_aload_n (K := mX5_count) (i := 0) dX5_count_55 rfl rfl ?_
    refine G_getr (K := mX5_count) fX5_9 dX5_count_56 rfl rfl ?_
    refine G_iconst (K := mX5_count) (v := 2) dX5_count_59 (by decide) ?_
    refine G_ld (K := mX5_count) 2 dX5_count_60 rfl rfl (by omega) (by decide) ?_
    exact G_iret (st := []) (K := mX5_count) dX5_count_61 rfl (hQ _ _ (by rw [show opCount σ w = _ from (if_neg e3_0).trans (if_pos e3_1)]; exact ⟨congrArg (fun z => some (Value.int z)) (hR.1.1 0 (by omega)), hR⟩))
  by_cases e3_2 : w = 2
  · refine G_tableIn (K := mX5_count) (tgt := 62) dX5_count_3 (by rw [e3_2]; decide) (by rw [e3_2]; decide) (by rw [e3_2]; rfl) (by decide) ?_
    refine G_aload_n (K := mX5_count) (i := 0) dX5_count_62 rfl rfl ?_
    refine G_iconst (K := mX5_count) (v := 2) dX5_count_63 (by decide) ?_
    refine G_cv (K := mX5_count) (c_X5_sum (M := M) (n := nOf σ) (f := 2) (by omega) (hR.n hI) hI.n8 ⟨rfl, rfl⟩) vX5_sum rfl lX5_173 dX5_count_64 ⟨_, _, _, rfl, rfl, rfl⟩ (by decide) rfl (Nat.le_of_ble_eq_true rfl) ?_
    exact G_iret (st := []) (K := mX5_count) dX5_count_67 rfl (hQ _ _ (by rw [show opCount σ w = _ from (if_neg e3_0).trans ((if_neg e3_1).trans (if_pos e3_2))]; exact ⟨congrArg (fun z => some (Value.int z)) (sumN_congr _ (fun i hi => hR.1.f 3 (by omega) (by omega) hi)), hR⟩))
  by_cases e3_3 : w = 3
  · refine G_tableIn (K := mX5_count) (tgt := 68) dX5_count_3 (by rw [e3_3]; decide) (by rw [e3_3]; decide) (by rw [e3_3]; rfl) (by decide) ?_
    refine G_aload_n (K := mX5_count) (i := 0) dX5_count_68 rfl rfl ?_
    refine G_iconst (K := mX5_count) (v := 1) dX5_count_69 (by decide) ?_
    refine G_cv (K := mX5_count) (c_X5_sum (M := M) (n := nOf σ) (f := 1) (by omega) (hR.n hI) hI.n8 ⟨rfl, rfl⟩) vX5_sum rfl lX5_173 dX5_count_70 ⟨_, _, _, rfl, rfl, rfl⟩ (by decide) rfl (Nat.le_of_ble_eq_true rfl) ?_
    exact G_iret (st := []) (K := mX5_count) dX5_count_73 rfl (hQ _ _ (by rw [show opCount σ w = _ from (if_neg e3_0).trans ((if_neg e3_1).trans ((if_neg e3_2).trans (if_pos e3_3)))]; exact ⟨congrArg (fun z => some (Value.int z)) (sumN_congr _ (fun i hi => hR.1.f 2 (by omega) (by omega) hi)), hR⟩))
  by_cases e3_4 : w = 4
  · refine G_tableIn (K := mX5_count) (tgt := 74) dX5_count_3 (by rw [e3_4]; decide) (by rw [e3_4]; decide) (by rw [e3_4]; rfl) (by decide) ?_
    refine G_aload_n (K := mX5_count) (i := 0) dX5_count_74 rfl rfl ?_
    refine G_iconst (K := mX5_count) (v := 5) dX5_count_75 (by decide) ?_
    refine G_cv (K := mX5_count) (c_X5_sum (M := M) (n := nOf σ) (f := 5) (by omega) (hR.n hI) hI.n8 ⟨rfl, rfl⟩) vX5_sum rfl lX5_173 dX5_count_76 ⟨_, _, _, rfl, rfl, rfl⟩ (by decide) rfl (Nat.le_of_ble_eq_true rfl) ?_
    exact G_iret (st := []) (K := mX5_count) dX5_count_79 rfl (hQ _ _ (by rw [show opCount σ w = _ from (if_neg e3_0).trans ((if_neg e3_1).trans ((if_neg e3_2).trans ((if_neg e3_3).trans (if_pos e3_4))))]; exact ⟨congrArg (fun z => some (Value.int z)) (sumN_congr _ (fun i hi => hR.1.f 6 (by omega) (by omega) hi)), hR⟩))
  by_cases e3_5 : w = 5
  · refine G_tableIn (K := mX5_count) (tgt := 80) dX5_count_3 (by rw [e3_5]; decide) (by rw [e3_5]; decide) (by rw [e3_5]; rfl) (by decide) ?_
    refine G_aload_n (K := mX5_count) (i := 0) dX5_count_80 rfl rfl ?_
    refine G_geti (K := mX5_count) fX5_260 dX5_count_81 rfl rfl ?_
    exact G_iret (st := []) (K := mX5_count) dX5_count_84 rfl (hQ _ _ (by rw [show opCount σ w = _ from (if_neg e3_0).trans ((if_neg e3_1).trans ((if_neg e3_2).trans ((if_neg e3_3).trans ((if_neg e3_4).trans (if_pos e3_5)))))]; exact ⟨congrArg (fun z => some (Value.int z)) (hR.2.2.2.2.2.1), hR⟩))
  by_cases e3_6 : w = 6
  · refine G_tableIn (K := mX5_count) (tgt := 85) dX5_count_3 (by rw [e3_6]; decide) (by rw [e3_6]; decide) (by rw [e3_6]; rfl) (by decide) ?_
    refine G_aload_n (K := mX5_count) (i := 0) dX5_count_85 rfl rfl ?_
    refine G_getr (K := mX5_count) fX5_9 dX5_count_86 rfl rfl ?_
    refine G_iconst (K := mX5_count) (v := 3) dX5_count_89 (by decide) ?_
    refine G_ld (K := mX5_count) 3 dX5_count_90 rfl rfl (by omega) (by decide) ?_
    exact G_iret (st := []) (K := mX5_count) dX5_count_91 rfl (hQ _ _ (by rw [show opCount σ w = _ from (if_neg e3_0).trans ((if_neg e3_1).trans ((if_neg e3_2).trans ((if_neg e3_3).trans ((if_neg e3_4).trans ((if_neg e3_5).trans (if_pos e3_6))))))]; exact ⟨congrArg (fun z => some (Value.int z)) (hR.z), hR⟩))
  by_cases e3_7 : w = 7
  · refine G_tableIn (K := mX5_count) (tgt := 92) dX5_count_3 (by rw [e3_7]; decide) (by rw [e3_7]; decide) (by rw [e3_7]; rfl) (by decide) ?_
    refine G_iconst (K := mX5_count) (v := 0) dX5_count_92 (by decide) ?_
    refine G_istore_n (K := mX5_count) (i := 3) dX5_count_93 rfl (by decide) ?_
    have loop94 : ∀ i, i ≤ 10 → ∀ s, s = cntN (fun k => decide (0 ≤ σ 10 k)) i → G mX5_count shR 8 Q 94 [some (.ref 0), some (.int w), some (.int s), some (.int (nI i))] [] M := by
      refine upto 10 (fun i hi ih => ?_)
      intro s hs2
      refine G_iload_n (K := mX5_count) (i := 3) dX5_count_94 rfl rfl ?_
      refine G_bipush (K := mX5_count) (v := 10) dX5_count_95 (by decide) ?_
      refine G_icmp_ge (K := mX5_count) (tgt := 125) dX5_count_97 (by decide) (fun c97 => ?_) (fun c97 => ?_)
      · skip
        rw [show (10 : Int32) = nI 10 from rfl, le_nn (by omega) (by omega)] at c97
        have hi10 : i = 10 := by omega
        subst hi10
        refine G_iload_n (K := mX5_count) (i := 2) dX5_count_125 rfl rfl ?_
        exact G_iret (st := []) (K := mX5_count) dX5_count_126 rfl (hQ _ _ (by rw [show opCount σ w = _ from (if_neg e3_0).trans ((if_neg e3_1).trans ((if_neg e3_2).trans ((if_neg e3_3).trans ((if_neg e3_4).trans ((if_neg e3_5).trans ((if_neg e3_6).trans (if_pos e3_7)))))))]; exact ⟨congrArg (fun z => some (Value.int z)) (hs2), hR⟩))
      · skip
        rw [show (10 : Int32) = nI 10 from rfl, le_nn (by omega) (by omega)] at c97
        refine G_iload_n (K := mX5_count) (i := 2) dX5_count_100 rfl rfl ?_
        refine G_aload_n (K := mX5_count) (i := 0) dX5_count_101 rfl rfl ?_
        refine G_getr (K := mX5_count) fX5_9 dX5_count_102 rfl rfl ?_
        refine G_iconst (K := mX5_count) (v := 4) dX5_count_105 (by decide) ?_
        refine G_iload_n (K := mX5_count) (i := 3) dX5_count_106 rfl rfl ?_
        refine G_iadd (K := mX5_count) dX5_count_107 ?_
        rw [show (4 : Int32) + nI i = nI (4 + i) from nI_add 4 i]
        refine G_ld (K := mX5_count) (4 + i) dX5_count_108 rfl rfl (by omega) (by decide) ?_
        rw [show M 1 (4 + i) = σ 10 i from (toH_spv (M 1) (by omega)).symm.trans (hR.1.2.1 i (by omega))]
        refine G_if_ge (K := mX5_count) (tgt := 116) dX5_count_109 (by decide) (fun c109 => ?_) (fun c109 => ?_)
        · skip
          refine G_iconst (K := mX5_count) (v := 1) dX5_count_116 (by decide) ?_
          refine G_iadd (K := mX5_count) dX5_count_117 ?_
          refine G_istore_n (K := mX5_count) (i := 2) dX5_count_118 rfl (by decide) ?_
          refine G_iincN (K := mX5_count) dX5_count_119 (by decide) rfl ?_
          refine G_goto (K := mX5_count) (tgt := 94) dX5_count_122 (by decide) ?_
          exact ih (i + 1) (by omega) (by omega) _ (by rw [cntN_t (decide_eq_true c109), hs2])
        · skip
          refine G_iconst (K := mX5_count) (v := 0) dX5_count_112 (by decide) ?_
          refine G_goto (K := mX5_count) (tgt := 117) dX5_count_113 (by decide) ?_
          refine G_iadd (K := mX5_count) dX5_count_117 ?_
          refine G_istore_n (K := mX5_count) (i := 2) dX5_count_118 rfl (by decide) ?_
          refine G_iincN (K := mX5_count) dX5_count_119 (by decide) rfl ?_
          refine G_goto (K := mX5_count) (tgt := 94) dX5_count_122 (by decide) ?_
          exact ih (i + 1) (by omega) (by omega) _ (by rw [cntN_f (by rw [decide_eq_true_iff]; exact c109), hs2]; exact Int32.add_zero _)
    exact loop94 0 (by omega) _ rfl
  have fe3_0 : (w).toInt ≠ 0 := fun h => e3_0 (Int32.toInt_inj.mp (h.trans (by decide)))
  have fe3_1 : (w).toInt ≠ 1 := fun h => e3_1 (Int32.toInt_inj.mp (h.trans (by decide)))
  have fe3_2 : (w).toInt ≠ 2 := fun h => e3_2 (Int32.toInt_inj.mp (h.trans (by decide)))
  have fe3_3 : (w).toInt ≠ 3 := fun h => e3_3 (Int32.toInt_inj.mp (h.trans (by decide)))
  have fe3_4 : (w).toInt ≠ 4 := fun h => e3_4 (Int32.toInt_inj.mp (h.trans (by decide)))
  have fe3_5 : (w).toInt ≠ 5 := fun h => e3_5 (Int32.toInt_inj.mp (h.trans (by decide)))
  have fe3_6 : (w).toInt ≠ 6 := fun h => e3_6 (Int32.toInt_inj.mp (h.trans (by decide)))
  have fe3_7 : (w).toInt ≠ 7 := fun h => e3_7 (Int32.toInt_inj.mp (h.trans (by decide)))
  refine G_tableOut (K := mX5_count) (tgt := 127) dX5_count_3 (by omega) (by decide) ?_
  refine G_aload_n (K := mX5_count) (i := 0) dX5_count_127 rfl rfl ?_
  refine G_ldc (K := mX5_count) dX5_count_128 kX5_92 ?_
  refine G_call0 (K := mX5_count) (Q' := PostR (tl σ 0)) (rf_finding hR (k := 0) (by omega) (fun _ _ h => h)) vX5_finding rfl lX5_109 ⟨_, _, _, rfl, rfl, rfl⟩ (by decide) (Nat.le_of_ble_eq_true rfl) dX5_count_130 rfl ?_
  rintro v M1 ⟨rfl, hR1⟩
  exact G_iret (st := []) (K := mX5_count) dX5_count_133 rfl (hQ _ _ (by rw [show opCount σ w = _ from (by unfold opCount; exact (if_neg e3_0).trans ((if_neg e3_1).trans ((if_neg e3_2).trans ((if_neg e3_3).trans ((if_neg e3_4).trans ((if_neg e3_5).trans ((if_neg e3_6).trans (if_neg e3_7))))))))]; exact ⟨rfl, hR1⟩))

set_option maxRecDepth 20000 in
theorem rf_status {M σ : Mem} {w : Int32} (hR : RR M σ) (hI : Inv σ) {Q : Option Value → Mem → Prop} (hQ : ∀ u' M', PostR (opStatus σ w) u' M' → Q u' M') : CT mX5_status shR 8 [.ref 0, .int w] M Q := by
  refine CT.mk [some (.ref 0), some (.int w)] (by decide) (Nat.le_of_ble_eq_true rfl) rfl rfl ?_
  refine G_iload_n (K := mX5_status) (i := 1) dX5_status_0 rfl rfl ?_
  refine G_iconst (K := mX5_status) (v := -1) dX5_status_1 (by decide) ?_
  refine G_bipush (K := mX5_status) (v := 6) dX5_status_2 (by decide) ?_
  refine G_sv (K := mX5_status) (c_X5_within (v := w) (a := -1) (b := 6) ⟨rfl, rfl⟩) sX5_within rfl lX5_97 dX5_status_4 (by decide) rfl (Nat.le_of_ble_eq_true rfl) ?_
  refine G_if_eq (K := mX5_status) (tgt := 21) dX5_status_7 (by decide) (fun c7 => ?_) (fun c7 => ?_)
  · skip
    refine G_aload_n (K := mX5_status) (i := 0) dX5_status_21 rfl rfl ?_
    refine G_ldc (K := mX5_status) dX5_status_22 kX5_92 ?_
    refine G_call0 (K := mX5_status) (Q' := PostR (tl σ 0)) (rf_finding hR (k := 0) (by omega) (fun _ _ h => h)) vX5_finding rfl lX5_109 ⟨_, _, _, rfl, rfl, rfl⟩ (by decide) (Nat.le_of_ble_eq_true rfl) dX5_status_24 rfl ?_
    rintro v M1 ⟨rfl, hR1⟩
    exact G_iret (st := []) (K := mX5_status) dX5_status_27 rfl (hQ _ _ (by rw [show opStatus σ w = _ from (by unfold opStatus; exact ((within_3 c7).elim (fun h => if_pos h) (fun h => (if_neg h.1).trans (if_pos h.2))))]; exact ⟨rfl, hR1⟩))
  · skip
    obtain ⟨kk1, kk2⟩ := within_2 c7
    obtain ⟨j, hj, ej, hneg, hpos⟩ : ∃ j, j < 8 ∧ w + 1 = nI j ∧ (w < 0 → j = 0) ∧ (¬ w < 0 → j = cut w + 1 ∧ cut w < 7) := by
      rw [i32_lt] at kk1 kk2
      have e0 : (0 : Int32).toInt = 0 := rfl
      have e1 : (1 : Int32).toInt = 1 := rfl
      have em : (-1 : Int32).toInt = -1 := by decide
      have e6 : (6 : Int32).toInt = 6 := rfl
      have ec : (cut w : Nat) = w.toInt.toNat := rfl
      refine ⟨(w.toInt + 1).toNat, by omega, i32_ext ?_, fun h => ?_, fun h => ?_⟩
      · rw [add_I (by omega) (by omega), nI_toI (by omega)]
        omega
      · rw [i32_lt] at h; omega
      · rw [i32_lt] at h; omega
    refine G_aload_n (K := mX5_status) (i := 0) dX5_status_10 rfl rfl ?_
    refine G_getr (K := mX5_status) fX5_19 dX5_status_11 rfl rfl ?_
    refine G_iload_n (K := mX5_status) (i := 1) dX5_status_14 rfl rfl ?_
    refine G_iconst (K := mX5_status) (v := 1) dX5_status_15 (by decide) ?_
    refine G_iadd (K := mX5_status) dX5_status_16 ?_
    rw [ej]
    refine G_ld (K := mX5_status) j dX5_status_17 rfl rfl (by omega) (by decide) ?_
    refine G_goto (K := mX5_status) (tgt := 27) dX5_status_18 (by decide) ?_
    by_cases hw : w < 0
    · have hj0 := hneg hw
      subst hj0
      exact G_iret (st := []) (K := mX5_status) dX5_status_27 rfl (hQ _ _ (by rw [show opStatus σ w = (sumN (σ 41) 7, σ) from (if_neg kk1).trans ((if_neg kk2).trans (if_pos hw))]; exact ⟨congrArg (fun z => some (Value.int z)) hR.2.2.2.1.2, hR⟩))
    · obtain ⟨hj1, hj2⟩ := hpos hw
      subst hj1
      exact G_iret (st := []) (K := mX5_status) dX5_status_27 rfl (hQ _ _ (by rw [show opStatus σ w = (σ 41 (cut w), σ) from (if_neg kk1).trans ((if_neg kk2).trans (if_neg hw))]; exact ⟨congrArg (fun z => some (Value.int z)) (hR.2.2.2.1.1 (cut w) hj2), hR⟩))

set_option maxRecDepth 20000 in
theorem c_X5_drawn {M : Mem} {b : Int32} (hb : ¬ b = 0) {Q : Option Value → Mem → Prop} (hQ : Q (some (.int (remI (ushr8 (drawF (M 1 3))) b))) (ups M 1 3 (drawF (M 1 3)))) : CT mX5_drawn shR 1 [.ref 0, .int b] M Q := by
  refine CT.mk [some (.ref 0), some (.int b)] (by decide) (Nat.le_of_ble_eq_true rfl) rfl rfl ?_
  refine G_aload_n (K := mX5_drawn) (i := 0) dX5_drawn_0 rfl rfl ?_
  refine G_getr (K := mX5_drawn) fX5_9 dX5_drawn_1 rfl rfl ?_
  refine G_iconst (K := mX5_drawn) (v := 3) dX5_drawn_4 (by decide) ?_
  refine G_aload_n (K := mX5_drawn) (i := 0) dX5_drawn_5 rfl rfl ?_
  refine G_getr (K := mX5_drawn) fX5_9 dX5_drawn_6 rfl rfl ?_
  refine G_iconst (K := mX5_drawn) (v := 3) dX5_drawn_9 (by decide) ?_
  refine G_ld (K := mX5_drawn) 3 dX5_drawn_10 rfl rfl (by omega) (by decide) ?_
  refine G_ldc (K := mX5_drawn) dX5_drawn_11 kX5_253 ?_
  refine G_imul (K := mX5_drawn) dX5_drawn_13 ?_
  refine G_sipush (K := mX5_drawn) (v := 12345) dX5_drawn_14 (by decide) ?_
  refine G_iadd (K := mX5_drawn) dX5_drawn_17 ?_
  refine G_sto (K := mX5_drawn) 3 dX5_drawn_18 rfl rfl (by omega) (by decide) ?_
  refine G_aload_n (K := mX5_drawn) (i := 0) dX5_drawn_19 rfl rfl ?_
  refine G_getr (K := mX5_drawn) fX5_9 dX5_drawn_20 rfl rfl ?_
  refine G_iconst (K := mX5_drawn) (v := 3) dX5_drawn_23 (by decide) ?_
  refine G_ld (K := mX5_drawn) 3 dX5_drawn_24 rfl rfl (by omega) (by decide) ?_
  rw [ups_same]
  refine G_bipush (K := mX5_drawn) (v := 8) dX5_drawn_25 (by decide) ?_
  refine G_iushr (K := mX5_drawn) dX5_drawn_27 ?_
  refine G_iload_n (K := mX5_drawn) (i := 1) dX5_drawn_28 rfl rfl ?_
  refine G_irem (K := mX5_drawn) dX5_drawn_29 hb ?_
  exact G_irm (K := mX5_drawn) dX5_drawn_30 rfl rfl rfl hQ

set_option maxRecDepth 20000 in
theorem c_X5_aways {M : Mem} {n : Nat} (hn : M 1 2 = nI n) (hn8 : n ≤ 8) (h6 : ∀ i, i < n → rg (toH (M 1) 6 i) 0 1) {Q : Option Value → Mem → Prop} (hQ : Q (some (.int (awayB (toH (M 1)) n))) M) : CT mX5_aways shR 2 [.ref 0] M Q := by
  refine CT.mk [some (.ref 0), none, none] (by decide) (Nat.le_of_ble_eq_true rfl) rfl rfl ?_
  refine G_iconst (K := mX5_aways) (v := 0) dX5_aways_0 (by decide) ?_
  refine G_istore_n (K := mX5_aways) (i := 1) dX5_aways_1 rfl (by decide) ?_
  refine G_iconst (K := mX5_aways) (v := 0) dX5_aways_2 (by decide) ?_
  refine G_istore_n (K := mX5_aways) (i := 2) dX5_aways_3 rfl (by decide) ?_
  have loop4 : ∀ i, i ≤ n → ∀ s, s = awayB (toH (M 1)) i → G mX5_aways shR 2 Q 4 [some (.ref 0), some (.int s), some (.int (nI i))] [] M := by
    refine upto n (fun i hi ih => ?_)
    intro s hs2
    refine G_iload_n (K := mX5_aways) (i := 2) dX5_aways_4 rfl rfl ?_
    refine G_aload_n (K := mX5_aways) (i := 0) dX5_aways_5 rfl rfl ?_
    refine G_getr (K := mX5_aways) fX5_9 dX5_aways_6 rfl rfl ?_
    refine G_iconst (K := mX5_aways) (v := 2) dX5_aways_9 (by decide) ?_
    refine G_ld (K := mX5_aways) 2 dX5_aways_10 rfl rfl (by omega) (by decide) ?_
    refine G_icmp_ge (K := mX5_aways) (tgt := 31) dX5_aways_11 (by decide) (fun c11 => ?_) (fun c11 => ?_)
    · skip
      rw [hn, le_nn (by omega) (by omega)] at c11
      have hin : i = n := by omega
      subst hin
      refine G_iload_n (K := mX5_aways) (i := 1) dX5_aways_31 rfl rfl ?_
      exact G_irm (K := mX5_aways) dX5_aways_32 rfl hs2 rfl hQ
    · skip
      rw [hn, le_nn (by omega) (by omega)] at c11
      refine G_iload_n (K := mX5_aways) (i := 1) dX5_aways_14 rfl rfl ?_
      refine G_aload_n (K := mX5_aways) (i := 0) dX5_aways_15 rfl rfl ?_
      refine G_iload_n (K := mX5_aways) (i := 2) dX5_aways_16 rfl rfl ?_
      refine G_iconst (K := mX5_aways) (v := 5) dX5_aways_17 (by decide) ?_
      refine G_cv (K := mX5_aways) (c_X5_roomIs (i := i) (f := 5) (by omega) (by omega) ⟨rfl, rfl⟩) vX5_roomIs rfl lX5_120 dX5_aways_18 ⟨_, _, _, rfl, rfl, rfl⟩ (by decide) rfl (Nat.le_of_ble_eq_true rfl) ?_
      refine G_iload_n (K := mX5_aways) (i := 2) dX5_aways_21 rfl rfl ?_
      refine G_ishl (K := mX5_aways) dX5_aways_22 ?_
      refine G_ior (K := mX5_aways) dX5_aways_23 ?_
      refine G_istore_n (K := mX5_aways) (i := 1) dX5_aways_24 rfl (by decide) ?_
      refine G_iincN (K := mX5_aways) dX5_aways_25 (by decide) rfl ?_
      refine G_goto (K := mX5_aways) (tgt := 4) dX5_aways_28 (by decide) ?_
      refine ih (i + 1) (by omega) (by omega) _ ?_
      unfold awayB at hs2 ⊢
      by_cases h1 : toH (M 1) 6 i = 1
      · rw [bits_t (decide_eq_true h1), hs2]
        show _ ||| toH (M 1) 6 i <<< (nI i &&& 31) = _
        rw [h1]; rfl
      · rw [bits_f (by rw [decide_eq_true_iff]; exact h1), hs2]
        show _ ||| toH (M 1) 6 i <<< (nI i &&& 31) = _
        rw [away_bit (by omega) (h6 i (by omega)), if_neg h1]
        exact Int32.or_zero
  exact loop4 0 (by omega) _ rfl

set_option maxRecDepth 20000 in
theorem rf_travel {M σ : Mem} {a : Int32} (hR : RR M σ) (hI : Inv σ) {Q : Option Value → Mem → Prop} (hQ : ∀ u' M', PostR (opTravel σ a) u' M' → Q u' M') : CT mX5_travel shR 8 [.ref 0, .int a] M Q := by
  refine CT.mk [some (.ref 0), some (.int a), none, none] (by decide) (Nat.le_of_ble_eq_true rfl) rfl rfl ?_
  refine G_iload_n (K := mX5_travel) (i := 1) dX5_travel_0 rfl rfl ?_
  refine G_iconst (K := mX5_travel) (v := 1) dX5_travel_1 (by decide) ?_
  refine G_bipush (K := mX5_travel) (v := 12) dX5_travel_2 (by decide) ?_
  refine G_sv (K := mX5_travel) (c_X5_within (v := a) (a := 1) (b := 12) ⟨rfl, rfl⟩) sX5_within rfl lX5_97 dX5_travel_4 (by decide) rfl (Nat.le_of_ble_eq_true rfl) ?_
  refine G_if_ne (K := mX5_travel) (tgt := 17) dX5_travel_7 (by decide) (fun c7 => ?_) (fun c7 => ?_)
  · skip
    obtain ⟨kk1, kk2⟩ := within_2 c7
    obtain ⟨k, hk2, rfl⟩ := nat_of (a := a) (fun z => kk1 (by rw [i32_lt] at z ⊢; have z2 : a.toInt < 0 := z; show a.toInt < 1; omega))
    have hn8 := hI.n8
    refine G_aload_n (K := mX5_travel) (i := 0) dX5_travel_17 rfl rfl ?_
    refine G_getr (K := mX5_travel) fX5_9 dX5_travel_18 rfl rfl ?_
    refine G_iconst (K := mX5_travel) (v := 2) dX5_travel_21 (by decide) ?_
    refine G_ld (K := mX5_travel) 2 dX5_travel_22 rfl rfl (by omega) (by decide) ?_
    rw [show M 1 2 = σ 0 0 from hR.1.1 0 (by omega)]
    refine G_if_ne (K := mX5_travel) (tgt := 33) dX5_travel_23 (by decide) (fun c23 => ?_) (fun c23 => ?_)
    · skip
      have hn0 : 0 < nOf σ := by
        rcases Nat.eq_zero_or_pos (nOf σ) with h | h
        · exact absurd (by rw [hI.nI, h]; rfl) c23
        · exact h
      refine G_iconst (K := mX5_travel) (v := 0) dX5_travel_33 (by decide) ?_
      refine G_istore_n (K := mX5_travel) (i := 2) dX5_travel_34 rfl (by decide) ?_
      have loop35 : ∀ i, i ≤ k → ∀ (M3 : Mem) (x3 : Option Value), HR (toH (M3 1)) (travN i σ) (nOf σ) → (∀ c, c ≠ 1 → M3 c = M c) → G mX5_travel shR 8 Q 35 [some (.ref 0), some (.int (nI k)), some (.int (nI i)), x3] [] M3 := by
        refine upto k (fun i hi ih => ?_)
        intro M3 x3 hT h3c
        have hn3 : M3 1 2 = nI (nOf σ) := (hT.1 0 (by omega)).trans ((travN_n σ i).trans hI.nI)
        refine G_iload_n (K := mX5_travel) (i := 2) dX5_travel_35 rfl rfl ?_
        refine G_iload_n (K := mX5_travel) (i := 1) dX5_travel_36 rfl rfl ?_
        refine G_icmp_ge (K := mX5_travel) (tgt := 75) dX5_travel_37 (by decide) (fun c37 => ?_) (fun c37 => ?_)
        · skip
          rw [le_nn (by omega) (by omega)] at c37
          have hin : i = k := by omega
          refine G_aload_n (K := mX5_travel) (i := 0) dX5_travel_75 rfl rfl ?_
          refine G_cv (K := mX5_travel) (c_X5_aways (M := M3) (n := nOf σ) hn3 hn8 (fun x hx => by rw [hT.f 6 (by omega) (by omega) hx]; exact travN_away hI.nI hn0 hn8 (fun y hy => (hI.1.2.2.2.2 y hy).2.2.2.2.2.1) i x hx) ⟨rfl, rfl⟩) vX5_aways rfl lX5_257 dX5_travel_76 ⟨_, _, _, rfl, rfl, rfl⟩ (by decide) rfl (Nat.le_of_ble_eq_true rfl) ?_
          exact G_iret (st := []) (K := mX5_travel) dX5_travel_79 rfl (hQ _ _ (by rw [show opTravel σ (nI k) = (awayB (travN (cut (nI k)) σ) (nOf σ), travN (cut (nI k)) σ) from (if_neg kk1).trans ((if_neg kk2).trans (if_neg c23)), cut_nI hk2, ← hin]; exact ⟨congrArg (fun z => some (Value.int z)) (bits_congr _ (fun q hq => by rw [hT.f 6 (by omega) (by omega) hq])), hR.house (fun c hc => travN_cell σ i c (by omega)) (by rw [show nOf (travN i σ) = nOf σ from by unfold nOf; rw [travN_n]]; exact hT) (fun c hc => h3c c (by unfold solid at hc; omega)) (congrFun (h3c 0 (by omega)) 3) (congrFun (h3c 0 (by omega)) 19)⟩))
        · skip
          rw [le_nn (by omega) (by omega)] at c37
          refine G_aload_n (K := mX5_travel) (i := 0) dX5_travel_40 rfl rfl ?_
          refine G_aload_n (K := mX5_travel) (i := 0) dX5_travel_41 rfl rfl ?_
          refine G_getr (K := mX5_travel) fX5_9 dX5_travel_42 rfl rfl ?_
          refine G_iconst (K := mX5_travel) (v := 2) dX5_travel_45 (by decide) ?_
          refine G_ld (K := mX5_travel) 2 dX5_travel_46 rfl rfl (by omega) (by decide) ?_
          rw [hn3]
          refine G_cv (K := mX5_travel) (c_X5_drawn (M := M3) (b := nI (nOf σ)) (by rw [← hI.nI]; exact c23) ⟨rfl, rfl⟩) vX5_drawn rfl lX5_254 dX5_travel_47 ⟨_, _, _, rfl, rfl, rfl⟩ (by decide) rfl (Nat.le_of_ble_eq_true rfl) ?_
          have e03 : M3 1 3 = travN i σ 0 3 := hT.1 3 (by omega)
          obtain ⟨j, hj, ej⟩ := trav_j (h := travN i σ) ((travN_n σ i).trans hI.nI) hn0 hn8
          rw [show remI (ushr8 (drawF (M3 1 3))) (nI (nOf σ)) = nI j from by rw [e03, ← ej, travN_n, hI.nI]]
          refine G_istore_n (K := mX5_travel) (i := 3) dX5_travel_50 rfl (by decide) ?_
          refine G_aload_n (K := mX5_travel) (i := 0) dX5_travel_51 rfl rfl ?_
          refine G_getr (K := mX5_travel) fX5_9 dX5_travel_52 rfl rfl ?_
          refine G_iload_n (K := mX5_travel) (i := 3) dX5_travel_55 rfl rfl ?_
          refine G_iconst (K := mX5_travel) (v := 5) dX5_travel_56 (by decide) ?_
          refine G_sv (K := mX5_travel) (c_X5_at (i := j) (f := 5) (by omega) (by omega) ⟨rfl, rfl⟩) sX5_at rfl lX5_101 dX5_travel_57 (by decide) rfl (Nat.le_of_ble_eq_true rfl) ?_
          refine G_iconst (K := mX5_travel) (v := 1) dX5_travel_60 (by decide) ?_
          refine G_aload_n (K := mX5_travel) (i := 0) dX5_travel_61 rfl rfl ?_
          refine G_iload_n (K := mX5_travel) (i := 3) dX5_travel_62 rfl rfl ?_
          refine G_iconst (K := mX5_travel) (v := 5) dX5_travel_63 (by decide) ?_
          refine G_cv (K := mX5_travel) (c_X5_roomIs (M := ups M3 1 3 (drawF (M3 1 3))) (i := j) (f := 5) (by omega) (by omega) ⟨rfl, rfl⟩) vX5_roomIs rfl lX5_120 dX5_travel_64 ⟨_, _, _, rfl, rfl, rfl⟩ (by decide) rfl (Nat.le_of_ble_eq_true rfl) ?_
          refine G_isub (K := mX5_travel) dX5_travel_67 ?_
          refine G_sto (K := mX5_travel) (14 + 9 * j + 5) dX5_travel_68 rfl rfl (by omega) (by decide) ?_
          refine G_iincN (K := mX5_travel) dX5_travel_69 (by decide) rfl ?_
          refine G_goto (K := mX5_travel) (tgt := 35) dX5_travel_72 (by decide) ?_
          refine ih (i + 1) (by omega) (by omega) _ _ ?_ (fun c hc => by rw [ups_cell hc, ups_cell hc]; exact h3c c hc)
          show HR _ (travS (travN i σ)) _
          rw [trav_s (by omega) ej, toH_ups (f := 5) (by omega) (by omega), toH_s 3 3 (by omega)]
          have e6 : toH (M3 1) 6 j = travN i σ 6 j := hT.f 6 (by omega) (by omega) hj
          rw [e03, show ups (toH (M3 1)) 0 3 (drawF (travN i σ 0 3)) (1 + 5) j = travN i σ 6 j from (congrFun (ups_cell (by omega)) j).trans e6]
          exact (HR.out hT).upd1 (c := 6) (by omega) (by omega)
      exact loop35 0 (by omega) M _ hR.1 (fun _ _ => rfl)
    · skip
      refine G_aload_n (K := mX5_travel) (i := 0) dX5_travel_26 rfl rfl ?_
      refine G_ldc (K := mX5_travel) dX5_travel_27 kX5_163 ?_
      refine G_call0 (K := mX5_travel) (Q' := PostR (tl σ 4)) (rf_finding hR (k := 4) (by omega) (fun _ _ h => h)) vX5_finding rfl lX5_109 ⟨_, _, _, rfl, rfl, rfl⟩ (by decide) (Nat.le_of_ble_eq_true rfl) dX5_travel_29 rfl ?_
      rintro v M1 ⟨rfl, hR1⟩
      exact G_iret (st := []) (K := mX5_travel) dX5_travel_32 rfl (hQ _ _ (by rw [show opTravel σ (nI k) = _ from (by unfold opTravel; exact (if_neg kk1).trans ((if_neg kk2).trans (if_pos c23)))]; exact ⟨rfl, hR1⟩))
  · skip
    refine G_aload_n (K := mX5_travel) (i := 0) dX5_travel_10 rfl rfl ?_
    refine G_ldc (K := mX5_travel) dX5_travel_11 kX5_92 ?_
    refine G_call0 (K := mX5_travel) (Q' := PostR (tl σ 0)) (rf_finding hR (k := 0) (by omega) (fun _ _ h => h)) vX5_finding rfl lX5_109 ⟨_, _, _, rfl, rfl, rfl⟩ (by decide) (Nat.le_of_ble_eq_true rfl) dX5_travel_13 rfl ?_
    rintro v M1 ⟨rfl, hR1⟩
    exact G_iret (st := []) (K := mX5_travel) dX5_travel_16 rfl (hQ _ _ (by rw [show opTravel σ a = _ from (by unfold opTravel; exact ((within_3 c7).elim (fun h => if_pos h) (fun h => (if_neg h.1).trans (if_pos h.2))))]; exact ⟨rfl, hR1⟩))
