theorem invKn {σ : Mem} (hI : Inv σ) : keptH σ 0 0 = nI (nOf (keptH σ)) := hI.2.2.1.1
theorem invKn8 {σ : Mem} (hI : Inv σ) : nOf (keptH σ) ≤ 8 := hI.2.2.1.2.1
set_option maxRecDepth 20000 in
theorem cl_image {M σ : Mem}  (hR : RC M σ) (hI : Inv σ) {Q : Option Value → Mem → Prop} (hQ : ∀ u' M', PostC (opImage σ) u' M' → Q u' M') : CT mX4_image shC 8 [.ref 0] M Q := by
  refine CT.mk [some (.ref 0)] (by decide) (Nat.le_of_ble_eq_true rfl) rfl rfl ?_
  refine G_aload_n (K := mX4_image) (i := 0) dX4_image_0 rfl rfl ?_
  refine G_getr (K := mX4_image) fX4_22 dX4_image_1 rfl rfl ?_
  refine G_aload_n (K := mX4_image) (i := 0) dX4_image_4 rfl rfl ?_
  refine G_getr (K := mX4_image) fX4_12 dX4_image_5 rfl rfl ?_
  refine G_bec (K := mX4_image) (b := 34) (c := 1) (by unfold isH; omega) (by unfold isH; omega) (by unfold apart; omega) lX4_145 dX4_image_8 (by decide) (Nat.le_of_ble_eq_true rfl) (fun h' hh' => ?_)
  refine G_aload_n (K := mX4_image) (i := 0) dX4_image_11 rfl rfl ?_
  refine G_iconst (K := mX4_image) (v := 1) dX4_image_12 (by decide) ?_
  refine G_put (K := mX4_image) fX4_264 w4_4 dX4_image_13 rfl rfl rfl rfl ?_
  refine G_iconst (K := mX4_image) (v := 1) dX4_image_16 (by decide) ?_
  refine G_iret (st := []) (K := mX4_image) dX4_image_17 rfl (hQ _ _ ⟨rfl, ?_⟩)
  have em : ∀ c, c ≠ 0 → ups (hput M 34 h') 0 4 1 c = hput M 34 h' c := fun c hc => ups_cell hc
  have ek : ∀ j, j < 11 → keptH (imgS σ) j = σ j := fun j hj => by
    funext i
    show (if 20 ≤ 20 + j ∧ 20 + j < 31 then σ (20 + j - 20) i else _) = _
    rw [if_pos (by omega), show 20 + j - 20 = j by omega]
  have es : ∀ c, (c < 20 ∨ 41 ≤ c) → imgS σ c = σ c := fun c hc => by
    funext i
    show (if 20 ≤ c ∧ c < 31 then _ else if c = 40 ∧ i = 0 then 1 else σ c i) = _
    rw [if_neg (by omega), if_neg (by omega)]
  obtain ⟨r1, r2, r3, r4, r5, r6, r7⟩ := id hR
  have hn : nOf (imgS σ) = nOf σ := by unfold nOf; rw [es 0 (by omega)]
  have hnk : nOf (keptH (imgS σ)) = nOf σ := by unfold nOf; rw [ek 0 (by omega)]
  show RC _ (imgS σ)
  refine ⟨?_, ?_, ?_, fun i hi => ?_, fun i hi => ?_, ?_, fun s hs => ?_⟩
  · rw [hn]
    exact (HR.ofEq (fun j hj => (em (1 + j) (by omega)).trans (hput_out (by omega))) r1).tr (HR.ofEq (fun j hj => (es j (by omega)).symm) (HR.rf _ _))
  · rw [hnk]
    exact (HR.ofEq (fun j hj => (em (34 + j) (by omega)).trans (hput_in hj)) ((hh'.le hI.n8).tr r1)).tr (HR.ofEq (fun j hj => (ek j hj).symm) (HR.rf _ _))
  · rw [ups_same]
    show _ = if 20 ≤ 40 ∧ 40 < 31 then _ else if 40 = 40 ∧ 0 = 0 then 1 else _
    rw [if_neg (by omega), if_pos (by omega)]
  · rw [em 60 (by omega), hput_out (by omega), es 41 (by omega)]; exact r4 i hi
  · rw [em 47 (by omega), hput_out (by omega), es 42 (by omega)]; exact r5 i hi
  · rw [em 46 (by omega), hput_out (by omega), es 43 (by omega)]; exact r6
  · rw [em (61 + 2 * s) (by omega), em (62 + 2 * s) (by omega), hput_out (by omega), hput_out (by omega), es 44 (by omega), es 45 (by omega), es (46 + s) (by omega)]; exact r7 s hs

set_option maxRecDepth 20000 in
theorem cl_undo {M σ : Mem}  (hR : RC M σ) (hI : Inv σ) {Q : Option Value → Mem → Prop} (hQ : ∀ u' M', PostC (opUndo σ) u' M' → Q u' M') : CT mX4_undo shC 8 [.ref 0] M Q := by
  refine CT.mk [some (.ref 0)] (by decide) (Nat.le_of_ble_eq_true rfl) rfl rfl ?_
  refine G_aload_n (K := mX4_undo) (i := 0) dX4_undo_0 rfl rfl ?_
  refine G_geti (K := mX4_undo) fX4_264 dX4_undo_1 rfl rfl ?_
  rw [hR.2.2.1]
  refine G_if_ne (K := mX4_undo) (tgt := 14) dX4_undo_4 (by decide) (fun c4 => ?_) (fun c4 => ?_)
  · skip
    refine G_aload_n (K := mX4_undo) (i := 0) dX4_undo_14 rfl rfl ?_
    refine G_getr (K := mX4_undo) fX4_12 dX4_undo_15 rfl rfl ?_
    refine G_aload_n (K := mX4_undo) (i := 0) dX4_undo_18 rfl rfl ?_
    refine G_getr (K := mX4_undo) fX4_22 dX4_undo_19 rfl rfl ?_
    refine G_bec (K := mX4_undo) (b := 1) (c := 34) (by unfold isH; omega) (by unfold isH; omega) (by unfold apart; omega) lX4_145 dX4_undo_22 (by decide) (Nat.le_of_ble_eq_true rfl) (fun h' hh' => ?_)
    refine G_aload_n (K := mX4_undo) (i := 0) dX4_undo_25 rfl rfl ?_
    refine G_getr (K := mX4_undo) fX4_12 dX4_undo_26 rfl rfl ?_
    refine G_geti (K := mX4_undo) fX4_99 dX4_undo_29 rfl rfl ?_
    refine G_iret (st := []) (K := mX4_undo) dX4_undo_32 rfl (hQ _ _ ?_)
    rw [show opUndo σ = (σ 20 2, unS σ) from if_neg c4]
    have hX : HR h' (keptH σ) (nOf (keptH σ)) := (hh'.le (invKn8 hI)).tr hR.2.1
    have hn : nOf (unS σ) = nOf (keptH σ) := rfl
    refine ⟨congrArg (fun z => some (Value.int z)) ((congrFun (hput_in (M := M) (b := 1) (j := 0) (by omega)) 2).trans (hX.1 2 (by omega))), hR.house (fun c hc => if_neg (by omega)) ?_⟩
    rw [hn]
    exact hX.tr (HR.ofEq (fun j hj => (if_pos hj : unS σ j = σ (20 + j)).symm) (HR.rf _ _))
  · skip
    refine G_aload_n (K := mX4_undo) (i := 0) dX4_undo_7 rfl rfl ?_
    refine G_ldc (K := mX4_undo) dX4_undo_8 kX4_137 ?_
    refine G_call0 (K := mX4_undo) (Q' := PostC (tl σ 3)) (cl_tell hR (k := 3) (by omega) (fun _ _ h => h)) vX4_tell rfl lX4_53 ⟨_, _, _, rfl, rfl, rfl⟩ (by decide) (Nat.le_of_ble_eq_true rfl) dX4_undo_10 rfl ?_
    rintro v M1 ⟨rfl, hR1⟩
    exact G_iret (st := []) (K := mX4_undo) dX4_undo_13 rfl (hQ _ _ (by rw [show opUndo σ = _ from (by unfold opUndo; exact if_pos c4)]; exact ⟨rfl, hR1⟩))

set_option maxRecDepth 20000 in
theorem cl_tear {M σ : Mem}  (hR : RC M σ) (hI : Inv σ) {Q : Option Value → Mem → Prop} (hQ : ∀ u' M', PostC (opTear σ) u' M' → Q u' M') : CT mX4_tear shC 8 [.ref 0] M Q := by
  refine CT.mk [some (.ref 0), none] (by decide) (Nat.le_of_ble_eq_true rfl) rfl rfl ?_
  refine G_aload_n (K := mX4_tear) (i := 0) dX4_tear_0 rfl rfl ?_
  refine G_geti (K := mX4_tear) fX4_264 dX4_tear_1 rfl rfl ?_
  rw [hR.2.2.1]
  refine G_if_eq (K := mX4_tear) (tgt := 11) dX4_tear_4 (by decide) (fun c4 => ?_) (fun c4 => ?_)
  · skip
    refine G_iconst (K := mX4_tear) (v := 0) dX4_tear_11 (by decide) ?_
    refine G_istore_n (K := mX4_tear) (i := 1) dX4_tear_12 rfl (by decide) ?_
    refine G_aload_n (K := mX4_tear) (i := 0) dX4_tear_13 rfl rfl ?_
    refine G_iconst (K := mX4_tear) (v := 0) dX4_tear_14 (by decide) ?_
    refine G_put (K := mX4_tear) fX4_264 w4_4 dX4_tear_15 rfl rfl rfl rfl ?_
    refine G_iload_n (K := mX4_tear) (i := 1) dX4_tear_18 rfl rfl ?_
    refine G_iret (st := []) (K := mX4_tear) dX4_tear_19 rfl (hQ _ _ ⟨congrArg (fun z => some (Value.int z)) (by first | exact (if_pos c4).symm | exact (if_neg c4).symm), ?_⟩)
    obtain ⟨-, -, r3, r4, r5, r6, r7⟩ := id hR
    show RC _ (ups σ 40 0 0)
    exact hR.other (fun q h1 h2 => ups_cell (by omega)) (fun q h => ups_cell (by omega)) (by rw [ups_same, ups_same]) r4 r5 r6 (fun s hs => by
      rw [ups_cell (show 61 + 2 * s ≠ 0 by omega), ups_cell (show 62 + 2 * s ≠ 0 by omega), ups_cell (show 44 ≠ 40 by omega), ups_cell (show 45 ≠ 40 by omega), ups_cell (show 46 + s ≠ 40 by omega)]
      exact r7 s hs)
  · skip
    refine G_iconst (K := mX4_tear) (v := 1) dX4_tear_7 (by decide) ?_
    refine G_goto (K := mX4_tear) (tgt := 12) dX4_tear_8 (by decide) ?_
    refine G_istore_n (K := mX4_tear) (i := 1) dX4_tear_12 rfl (by decide) ?_
    refine G_aload_n (K := mX4_tear) (i := 0) dX4_tear_13 rfl rfl ?_
    refine G_iconst (K := mX4_tear) (v := 0) dX4_tear_14 (by decide) ?_
    refine G_put (K := mX4_tear) fX4_264 w4_4 dX4_tear_15 rfl rfl rfl rfl ?_
    refine G_iload_n (K := mX4_tear) (i := 1) dX4_tear_18 rfl rfl ?_
    refine G_iret (st := []) (K := mX4_tear) dX4_tear_19 rfl (hQ _ _ ⟨congrArg (fun z => some (Value.int z)) (by first | exact (if_pos c4).symm | exact (if_neg c4).symm), ?_⟩)
    obtain ⟨-, -, r3, r4, r5, r6, r7⟩ := id hR
    show RC _ (ups σ 40 0 0)
    exact hR.other (fun q h1 h2 => ups_cell (by omega)) (fun q h => ups_cell (by omega)) (by rw [ups_same, ups_same]) r4 r5 r6 (fun s hs => by
      rw [ups_cell (show 61 + 2 * s ≠ 0 by omega), ups_cell (show 62 + 2 * s ≠ 0 by omega), ups_cell (show 44 ≠ 40 by omega), ups_cell (show 45 ≠ 40 by omega), ups_cell (show 46 + s ≠ 40 by omega)]
      exact r7 s hs)

theorem cntN_congr {p q : Nat → Bool} (n : Nat) (h : ∀ i, i < n → p i = q i) : cntN p n = cntN q n := by
  induction n with
  | zero => rfl
  | succ n ih =>
    show (if p n = true then cntN p n + 1 else cntN p n) = (if q n = true then cntN q n + 1 else cntN q n)
    rw [h n (by omega), ih (fun i hi => h i (by omega))]
set_option maxRecDepth 20000 in
theorem cl_count {M σ : Mem} {w : Int32} (hR : RC M σ) (hI : Inv σ) {Q : Option Value → Mem → Prop} (hQ : ∀ u' M', PostC (opCount σ w) u' M' → Q u' M') : CT mX4_count shC 8 [.ref 0, .int w] M Q := by
  refine CT.mk [some (.ref 0), some (.int w)] (by decide) (Nat.le_of_ble_eq_true rfl) rfl rfl ?_
  refine G_iload_n (K := mX4_count) (i := 1) dX4_count_0 rfl rfl ?_
  by_cases e1_0 : w = 0
  · refine G_tableIn (K := mX4_count) (tgt := 48) dX4_count_1 (by rw [e1_0]; decide) (by rw [e1_0]; decide) (by rw [e1_0]; rfl) (by decide) ?_
    refine G_aload_n (K := mX4_count) (i := 0) dX4_count_48 rfl rfl ?_
    refine G_getr (K := mX4_count) fX4_12 dX4_count_49 rfl rfl ?_
    refine G_geti (K := mX4_count) fX4_99 dX4_count_52 rfl rfl ?_
    exact G_iret (st := []) (K := mX4_count) dX4_count_55 rfl (hQ _ _ (by rw [show opCount σ w = _ from (by unfold opCount; exact if_pos e1_0)]; exact ⟨congrArg (fun z => some (Value.int z)) (hR.hour), hR⟩))
  by_cases e1_1 : w = 1
  · refine G_tableIn (K := mX4_count) (tgt := 56) dX4_count_1 (by rw [e1_1]; decide) (by rw [e1_1]; decide) (by rw [e1_1]; rfl) (by decide) ?_
    refine G_aload_n (K := mX4_count) (i := 0) dX4_count_56 rfl rfl ?_
    refine G_getr (K := mX4_count) fX4_12 dX4_count_57 rfl rfl ?_
    refine G_geti (K := mX4_count) fX4_57 dX4_count_60 rfl rfl ?_
    exact G_iret (st := []) (K := mX4_count) dX4_count_63 rfl (hQ _ _ (by rw [show opCount σ w = _ from (by unfold opCount; exact (if_neg e1_0).trans (if_pos e1_1))]; exact ⟨congrArg (fun z => some (Value.int z)) (hR.n), hR⟩))
  by_cases e1_2 : w = 2
  · refine G_tableIn (K := mX4_count) (tgt := 64) dX4_count_1 (by rw [e1_2]; decide) (by rw [e1_2]; decide) (by rw [e1_2]; rfl) (by decide) ?_
    refine G_aload_n (K := mX4_count) (i := 0) dX4_count_64 rfl rfl ?_
    refine G_getr (K := mX4_count) fX4_12 dX4_count_65 rfl rfl ?_
    refine G_aload_n (K := mX4_count) (i := 0) dX4_count_68 rfl rfl ?_
    refine G_getr (K := mX4_count) fX4_12 dX4_count_69 rfl rfl ?_
    refine G_getr (K := mX4_count) fX4_106 dX4_count_72 rfl rfl ?_
    refine G_hp (K := mX4_count) (b := 1) (by unfold isH; omega) (c_X0_sumOf (M := hof M 1) (n := nOf σ) (c := 3) (by omega) (by omega) (hR.nI hI) hI.n8 ⟨rfl, rfl⟩) vX0_sumOf rfl lX4_109 dX4_count_75 rfl (by decide) rfl (Nat.le_of_ble_eq_true rfl) ?_
    exact G_iret (st := []) (K := mX4_count) dX4_count_78 rfl (hQ _ _ (by rw [show opCount σ w = _ from (by unfold opCount; exact (if_neg e1_0).trans ((if_neg e1_1).trans (if_pos e1_2)))]; exact ⟨congrArg (fun z => some (Value.int z)) (sumN_congr _ (fun i hi => hR.1.f 3 (by omega) (by omega) hi)), hR⟩))
  by_cases e1_3 : w = 3
  · refine G_tableIn (K := mX4_count) (tgt := 79) dX4_count_1 (by rw [e1_3]; decide) (by rw [e1_3]; decide) (by rw [e1_3]; rfl) (by decide) ?_
    refine G_aload_n (K := mX4_count) (i := 0) dX4_count_79 rfl rfl ?_
    refine G_getr (K := mX4_count) fX4_12 dX4_count_80 rfl rfl ?_
    refine G_aload_n (K := mX4_count) (i := 0) dX4_count_83 rfl rfl ?_
    refine G_getr (K := mX4_count) fX4_12 dX4_count_84 rfl rfl ?_
    refine G_getr (K := mX4_count) fX4_113 dX4_count_87 rfl rfl ?_
    refine G_hp (K := mX4_count) (b := 1) (by unfold isH; omega) (c_X0_sumOf (M := hof M 1) (n := nOf σ) (c := 2) (by omega) (by omega) (hR.nI hI) hI.n8 ⟨rfl, rfl⟩) vX0_sumOf rfl lX4_109 dX4_count_90 rfl (by decide) rfl (Nat.le_of_ble_eq_true rfl) ?_
    exact G_iret (st := []) (K := mX4_count) dX4_count_93 rfl (hQ _ _ (by rw [show opCount σ w = _ from (by unfold opCount; exact (if_neg e1_0).trans ((if_neg e1_1).trans ((if_neg e1_2).trans (if_pos e1_3))))]; exact ⟨congrArg (fun z => some (Value.int z)) (sumN_congr _ (fun i hi => hR.1.f 2 (by omega) (by omega) hi)), hR⟩))
  by_cases e1_4 : w = 4
  · refine G_tableIn (K := mX4_count) (tgt := 94) dX4_count_1 (by rw [e1_4]; decide) (by rw [e1_4]; decide) (by rw [e1_4]; rfl) (by decide) ?_
    refine G_aload_n (K := mX4_count) (i := 0) dX4_count_94 rfl rfl ?_
    refine G_getr (K := mX4_count) fX4_12 dX4_count_95 rfl rfl ?_
    refine G_aload_n (K := mX4_count) (i := 0) dX4_count_98 rfl rfl ?_
    refine G_getr (K := mX4_count) fX4_12 dX4_count_99 rfl rfl ?_
    refine G_getr (K := mX4_count) fX4_204 dX4_count_102 rfl rfl ?_
    refine G_hp (K := mX4_count) (b := 1) (by unfold isH; omega) (c_X0_sumOf (M := hof M 1) (n := nOf σ) (c := 6) (by omega) (by omega) (hR.nI hI) hI.n8 ⟨rfl, rfl⟩) vX0_sumOf rfl lX4_109 dX4_count_105 rfl (by decide) rfl (Nat.le_of_ble_eq_true rfl) ?_
    exact G_iret (st := []) (K := mX4_count) dX4_count_108 rfl (hQ _ _ (by rw [show opCount σ w = _ from (by unfold opCount; exact (if_neg e1_0).trans ((if_neg e1_1).trans ((if_neg e1_2).trans ((if_neg e1_3).trans (if_pos e1_4)))))]; exact ⟨congrArg (fun z => some (Value.int z)) (sumN_congr _ (fun i hi => hR.1.f 6 (by omega) (by omega) hi)), hR⟩))
  by_cases e1_5 : w = 5
  · refine G_tableIn (K := mX4_count) (tgt := 109) dX4_count_1 (by rw [e1_5]; decide) (by rw [e1_5]; decide) (by rw [e1_5]; rfl) (by decide) ?_
    refine G_aload_n (K := mX4_count) (i := 0) dX4_count_109 rfl rfl ?_
    refine G_getr (K := mX4_count) fX4_36 dX4_count_110 rfl rfl ?_
    refine G_geti (K := mX4_count) fX4_213 dX4_count_113 rfl rfl ?_
    exact G_iret (st := []) (K := mX4_count) dX4_count_116 rfl (hQ _ _ (by rw [show opCount σ w = _ from (by unfold opCount; exact (if_neg e1_0).trans ((if_neg e1_1).trans ((if_neg e1_2).trans ((if_neg e1_3).trans ((if_neg e1_4).trans (if_pos e1_5))))))]; exact ⟨congrArg (fun z => some (Value.int z)) (hR.2.2.2.2.2.1), hR⟩))
  by_cases e1_6 : w = 6
  · refine G_tableIn (K := mX4_count) (tgt := 117) dX4_count_1 (by rw [e1_6]; decide) (by rw [e1_6]; decide) (by rw [e1_6]; rfl) (by decide) ?_
    refine G_aload_n (K := mX4_count) (i := 0) dX4_count_117 rfl rfl ?_
    refine G_getr (K := mX4_count) fX4_12 dX4_count_118 rfl rfl ?_
    refine G_geti (K := mX4_count) fX4_210 dX4_count_121 rfl rfl ?_
    exact G_iret (st := []) (K := mX4_count) dX4_count_124 rfl (hQ _ _ (by rw [show opCount σ w = _ from (by unfold opCount; exact (if_neg e1_0).trans ((if_neg e1_1).trans ((if_neg e1_2).trans ((if_neg e1_3).trans ((if_neg e1_4).trans ((if_neg e1_5).trans (if_pos e1_6)))))))]; exact ⟨congrArg (fun z => some (Value.int z)) (hR.z), hR⟩))
  by_cases e1_7 : w = 7
  · refine G_tableIn (K := mX4_count) (tgt := 125) dX4_count_1 (by rw [e1_7]; decide) (by rw [e1_7]; decide) (by rw [e1_7]; rfl) (by decide) ?_
    refine G_aload_n (K := mX4_count) (i := 0) dX4_count_125 rfl rfl ?_
    refine G_getr (K := mX4_count) fX4_12 dX4_count_126 rfl rfl ?_
    refine G_hp (K := mX4_count) (b := 1) (by unfold isH; omega) (c_X0_spotsInUse (M := hof M 1) ⟨rfl, rfl⟩) vX0_spotsInUse rfl lX4_268 dX4_count_129 rfl (by decide) rfl (Nat.le_of_ble_eq_true rfl) ?_
    exact G_iret (st := []) (K := mX4_count) dX4_count_132 rfl (hQ _ _ (by rw [show opCount σ w = _ from (by unfold opCount; exact (if_neg e1_0).trans ((if_neg e1_1).trans ((if_neg e1_2).trans ((if_neg e1_3).trans ((if_neg e1_4).trans ((if_neg e1_5).trans ((if_neg e1_6).trans (if_pos e1_7))))))))]; exact ⟨congrArg (fun z => some (Value.int z)) (by rw [show cntN (fun k => decide (0 ≤ hof M 1 10 k)) 10 = cntN (fun k => decide (0 ≤ σ 10 k)) 10 from cntN_congr 10 (fun i hi => by have e := hR.1.2.1 i hi; rw [e])]), hR⟩))
  have fe1_0 : (w).toInt ≠ 0 := fun h => e1_0 (Int32.toInt_inj.mp (h.trans (by decide)))
  have fe1_1 : (w).toInt ≠ 1 := fun h => e1_1 (Int32.toInt_inj.mp (h.trans (by decide)))
  have fe1_2 : (w).toInt ≠ 2 := fun h => e1_2 (Int32.toInt_inj.mp (h.trans (by decide)))
  have fe1_3 : (w).toInt ≠ 3 := fun h => e1_3 (Int32.toInt_inj.mp (h.trans (by decide)))
  have fe1_4 : (w).toInt ≠ 4 := fun h => e1_4 (Int32.toInt_inj.mp (h.trans (by decide)))
  have fe1_5 : (w).toInt ≠ 5 := fun h => e1_5 (Int32.toInt_inj.mp (h.trans (by decide)))
  have fe1_6 : (w).toInt ≠ 6 := fun h => e1_6 (Int32.toInt_inj.mp (h.trans (by decide)))
  have fe1_7 : (w).toInt ≠ 7 := fun h => e1_7 (Int32.toInt_inj.mp (h.trans (by decide)))
  refine G_tableOut (K := mX4_count) (tgt := 133) dX4_count_1 (by omega) (by decide) ?_
  refine G_aload_n (K := mX4_count) (i := 0) dX4_count_133 rfl rfl ?_
  refine G_ldc (K := mX4_count) dX4_count_134 kX4_52 ?_
  refine G_call0 (K := mX4_count) (Q' := PostC (tl σ 0)) (cl_tell hR (k := 0) (by omega) (fun _ _ h => h)) vX4_tell rfl lX4_53 ⟨_, _, _, rfl, rfl, rfl⟩ (by decide) (Nat.le_of_ble_eq_true rfl) dX4_count_136 rfl ?_
  rintro v M1 ⟨rfl, hR1⟩
  exact G_iret (st := []) (K := mX4_count) dX4_count_139 rfl (hQ _ _ (by rw [show opCount σ w = _ from (by unfold opCount; exact (if_neg e1_0).trans ((if_neg e1_1).trans ((if_neg e1_2).trans ((if_neg e1_3).trans ((if_neg e1_4).trans ((if_neg e1_5).trans ((if_neg e1_6).trans (if_neg e1_7))))))))]; exact ⟨rfl, hR1⟩))

set_option maxRecDepth 20000 in
theorem cl_status {M σ : Mem} {w : Int32} (hR : RC M σ) (hI : Inv σ) {Q : Option Value → Mem → Prop} (hQ : ∀ u' M', PostC (opStatus σ w) u' M' → Q u' M') : CT mX4_status shC 8 [.ref 0, .int w] M Q := by
  refine CT.mk [some (.ref 0), some (.int w), none, none] (by decide) (Nat.le_of_ble_eq_true rfl) rfl rfl ?_
  refine G_iload_n (K := mX4_status) (i := 1) dX4_status_0 rfl rfl ?_
  refine G_iconst (K := mX4_status) (v := -1) dX4_status_1 (by decide) ?_
  refine G_icmp_lt (K := mX4_status) (tgt := 11) dX4_status_2 (by decide) (fun c2 => ?_) (fun c2 => ?_)
  · skip
    refine G_aload_n (K := mX4_status) (i := 0) dX4_status_11 rfl rfl ?_
    refine G_ldc (K := mX4_status) dX4_status_12 kX4_52 ?_
    refine G_call0 (K := mX4_status) (Q' := PostC (tl σ 0)) (cl_tell hR (k := 0) (by omega) (fun _ _ h => h)) vX4_tell rfl lX4_53 ⟨_, _, _, rfl, rfl, rfl⟩ (by decide) (Nat.le_of_ble_eq_true rfl) dX4_status_14 rfl ?_
    rintro v M1 ⟨rfl, hR1⟩
    exact G_iret (st := []) (K := mX4_status) dX4_status_17 rfl (hQ _ _ (by rw [show opStatus σ w = _ from (by unfold opStatus; first | exact if_pos c2 | exact (if_neg c2).trans (if_pos (by have h : ¬ w < 7 := c8; rw [i32_lt] at h ⊢; have h2 : ¬ w.toInt < 7 := h; show (6 : Int) < w.toInt; omega)))]; exact ⟨rfl, hR1⟩))
  · skip
    refine G_iload_n (K := mX4_status) (i := 1) dX4_status_5 rfl rfl ?_
    refine G_bipush (K := mX4_status) (v := 7) dX4_status_6 (by decide) ?_
    refine G_icmp_lt (K := mX4_status) (tgt := 18) dX4_status_8 (by decide) (fun c8 => ?_) (fun c8 => ?_)
    · skip
      refine G_iload_n (K := mX4_status) (i := 1) dX4_status_18 rfl rfl ?_
      refine G_if_lt (K := mX4_status) (tgt := 29) dX4_status_19 (by decide) (fun c19 => ?_) (fun c19 => ?_)
      · skip
        
        refine G_iconst (K := mX4_status) (v := 0) dX4_status_29 (by decide) ?_
        refine G_istore_n (K := mX4_status) (i := 2) dX4_status_30 rfl (by decide) ?_
        refine G_iconst (K := mX4_status) (v := 0) dX4_status_31 (by decide) ?_
        refine G_istore_n (K := mX4_status) (i := 3) dX4_status_32 rfl (by decide) ?_
        have loop33 : ∀ i, i ≤ 7 → ∀ s, s = sumN (σ 41) i → G mX4_status shC 8 Q 33 [some (.ref 0), some (.int w), some (.int s), some (.int (nI i))] [] M := by
          refine upto 7 (fun i hi ih => ?_)
          intro s hs2
          refine G_iload_n (K := mX4_status) (i := 3) dX4_status_33 rfl rfl ?_
          refine G_bipush (K := mX4_status) (v := 7) dX4_status_34 (by decide) ?_
          refine G_icmp_ge (K := mX4_status) (tgt := 54) dX4_status_36 (by decide) (fun c36 => ?_) (fun c36 => ?_)
          · skip
            have hi7 : i = 7 := by
              have := (le_nn (n := 7) (i := i) (by omega) (by omega)).mp c36
              omega
            refine G_iload_n (K := mX4_status) (i := 2) dX4_status_54 rfl rfl ?_
            exact G_iret (st := []) (K := mX4_status) dX4_status_55 rfl (hQ _ _ (by rw [show opStatus σ w = (sumN (σ 41) 7, σ) from (if_neg c2).trans ((if_neg (fun z => by rw [i32_lt] at z; have h := c8; rw [i32_lt] at h; have z2 : (6 : Int) < w.toInt := z; have h2 : w.toInt < 7 := h; omega)).trans (if_pos (by first | exact c19 | exact Int32.not_le.mp c19)))]; exact ⟨congrArg (fun z => some (Value.int z)) (by rw [hs2, hi7]), hR⟩))
          · skip
            have hi7 : i < 7 := by
              have h : ¬ 7 ≤ i := fun z => c36 ((le_nn (n := 7) (i := i) (by omega) (by omega)).mpr z)
              omega
            refine G_iload_n (K := mX4_status) (i := 2) dX4_status_39 rfl rfl ?_
            refine G_aload_n (K := mX4_status) (i := 0) dX4_status_40 rfl rfl ?_
            refine G_getr (K := mX4_status) fX4_43 dX4_status_41 rfl rfl ?_
            refine G_iload_n (K := mX4_status) (i := 3) dX4_status_44 rfl rfl ?_
            refine G_ld (K := mX4_status) _ dX4_status_45 rfl rfl (by omega) (by decide) ?_
            refine G_iadd (K := mX4_status) dX4_status_46 ?_
            refine G_istore_n (K := mX4_status) (i := 2) dX4_status_47 rfl (by decide) ?_
            refine G_iincN (K := mX4_status) dX4_status_48 (by decide) rfl ?_
            refine G_goto (K := mX4_status) (tgt := 33) dX4_status_51 (by decide) ?_
            refine ih (i + 1) (by omega) (by omega) _ ?_
            rw [hs2, hR.2.2.2.1 i hi7]; rfl
        exact loop33 0 (by omega) _ rfl
      · skip
        obtain ⟨q, hq2, rfl⟩ := nat_of (a := w) c19
        have hq : q < 7 := (lt_nn (i := q) (n := 7) (by omega) (by omega)).mp c8
        refine G_aload_n (K := mX4_status) (i := 0) dX4_status_22 rfl rfl ?_
        refine G_getr (K := mX4_status) fX4_43 dX4_status_23 rfl rfl ?_
        refine G_iload_n (K := mX4_status) (i := 1) dX4_status_26 rfl rfl ?_
        refine G_ld (K := mX4_status) q dX4_status_27 rfl rfl (by omega) (by decide) ?_
        exact G_iret (st := []) (K := mX4_status) dX4_status_28 rfl (hQ _ _ (by rw [show opStatus σ (nI q) = (σ 41 (cut (nI q)), σ) from (if_neg c2).trans ((if_neg (fun z => by rw [i32_lt, nI_toI (by omega)] at z; have z2 : (6 : Int) < (q : Int) := z; omega)).trans (if_neg (nI_pos (by omega)))), cut_nI (by omega)]; exact ⟨congrArg (fun z => some (Value.int z)) (hR.2.2.2.1 q hq), hR⟩))
    · skip
      refine G_aload_n (K := mX4_status) (i := 0) dX4_status_11 rfl rfl ?_
      refine G_ldc (K := mX4_status) dX4_status_12 kX4_52 ?_
      refine G_call0 (K := mX4_status) (Q' := PostC (tl σ 0)) (cl_tell hR (k := 0) (by omega) (fun _ _ h => h)) vX4_tell rfl lX4_53 ⟨_, _, _, rfl, rfl, rfl⟩ (by decide) (Nat.le_of_ble_eq_true rfl) dX4_status_14 rfl ?_
      rintro v M1 ⟨rfl, hR1⟩
      exact G_iret (st := []) (K := mX4_status) dX4_status_17 rfl (hQ _ _ (by rw [show opStatus σ w = _ from (by unfold opStatus; first | exact if_pos c2 | exact (if_neg c2).trans (if_pos (by have h : ¬ w < 7 := c8; rw [i32_lt] at h ⊢; have h2 : ¬ w.toInt < 7 := h; show (6 : Int) < w.toInt; omega)))]; exact ⟨rfl, hR1⟩))
