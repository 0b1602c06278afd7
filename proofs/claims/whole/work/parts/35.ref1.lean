/-! the reference: a row of 86 as a house -/
def toH (R : Nat → Int32) : Mem := fun c i => if c = 0 then (if i = 0 then R 2 else if i = 1 then R 1 else if i = 2 then R 0 else if i = 3 then R 3 else 0) else if c = 10 then (if i < 10 then R (4 + i) else 0) else if c ≤ 9 ∧ i < 8 then R (14 + 9 * i + (c - 1)) else 0
theorem toH_f (R : Nat → Int32) {f i : Nat} (hf : f < 9) (hi : i < 8) : toH R (1 + f) i = R (14 + 9 * i + f) := by
  unfold toH
  rw [if_neg (by omega), if_neg (by omega), if_pos (by omega), show 1 + f - 1 = f by omega]
theorem toH_congr {R S : Nat → Int32} (h : ∀ k, k < 86 → R k = S k) : toH R = toH S := by
  funext c i
  unfold toH
  by_cases h0 : c = 0
  · rw [if_pos h0, if_pos h0, h 0 (by omega), h 1 (by omega), h 2 (by omega), h 3 (by omega)]
  rw [if_neg h0, if_neg h0]
  by_cases h1 : c = 10
  · rw [if_pos h1, if_pos h1]
    by_cases hi : i < 10
    · rw [if_pos hi, if_pos hi, h (4 + i) (by omega)]
    · rw [if_neg hi, if_neg hi]
  rw [if_neg h1, if_neg h1]
  by_cases h2 : c ≤ 9 ∧ i < 8
  · rw [if_pos h2, if_pos h2, h _ (by omega)]
  · rw [if_neg h2, if_neg h2]
theorem toH_ups {M : Mem} {f i : Nat} {x : Int32} (hf : f < 9) (hi : i < 8) : toH (ups M 1 (14 + 9 * i + f) x 1) = ups (toH (M 1)) (1 + f) i x := by
  funext c k
  by_cases h : c = 1 + f ∧ k = i
  · obtain ⟨rfl, rfl⟩ := h
    rw [toH_f _ hf hi, ups_same, ups_same]
  · rw [ups_ne h]
    unfold toH
    by_cases h0 : c = 0
    · rw [if_pos h0, if_pos h0, ups_ne (by omega), ups_ne (by omega), ups_ne (by omega), ups_ne (by omega)]
    rw [if_neg h0, if_neg h0]
    by_cases h1 : c = 10
    · rw [if_pos h1, if_pos h1]
      by_cases hk : k < 10
      · rw [if_pos hk, if_pos hk, ups_ne (by omega)]
      · rw [if_neg hk, if_neg hk]
    rw [if_neg h1, if_neg h1]
    by_cases h2 : c ≤ 9 ∧ k < 8
    · rw [if_pos h2, if_pos h2, ups_ne (by omega)]
    · rw [if_neg h2, if_neg h2]
theorem nI_at {i f : Nat} (hi : i < 1000) (hf : f < 1000) : (14 : Int32) + 9 * nI i + nI f = nI (14 + 9 * i + f) := by
  have e9 : (9 : Int32).toInt = 9 := rfl
  have em : (9 : Int32) * nI i = nI (9 * i) := by
    apply i32_ext
    rw [mul_I (by rw [e9, nI_toI (by omega)]; omega) (by rw [e9, nI_toI (by omega)]; omega), e9, nI_toI (by omega), nI_toI (by omega)]
    omega
  rw [em, show (14 : Int32) = nI 14 from rfl, nI_add, nI_add]
set_option maxRecDepth 20000 in
theorem c_X5_at {M : Mem} {i f : Nat} (hi : i < 1000) (hf : f < 1000) {Q : Option Value → Mem → Prop} (hQ : Q (some (.int (nI (14 + 9 * i + f)))) M) : CT mX5_at shR 0 [.int (nI i), .int (nI f)] M Q := by
  refine CT.mk [some (.int (nI i)), some (.int (nI f))] (by decide) (Nat.le_of_ble_eq_true rfl) rfl rfl ?_
  refine G_bipush (K := mX5_at) (v := 14) dX5_at_0 (by decide) ?_
  refine G_bipush (K := mX5_at) (v := 9) dX5_at_2 (by decide) ?_
  refine G_iload_n (K := mX5_at) (i := 0) dX5_at_4 rfl rfl ?_
  refine G_imul (K := mX5_at) dX5_at_5 ?_
  refine G_iadd (K := mX5_at) dX5_at_6 ?_
  refine G_iload_n (K := mX5_at) (i := 1) dX5_at_7 rfl rfl ?_
  refine G_iadd (K := mX5_at) dX5_at_8 ?_
  exact G_irm (K := mX5_at) dX5_at_9 rfl (by exact nI_at hi hf) (by rfl) hQ

set_option maxRecDepth 20000 in
theorem c_X5_roomIs {M : Mem} {i f : Nat} (hi : i < 8) (hf : f < 9) {Q : Option Value → Mem → Prop} (hQ : Q (some (.int (toH (M 1) (1 + f) i))) M) : CT mX5_roomIs shR 1 [.ref 0, .int (nI i), .int (nI f)] M Q := by
  refine CT.mk [some (.ref 0), some (.int (nI i)), some (.int (nI f))] (by decide) (Nat.le_of_ble_eq_true rfl) rfl rfl ?_
  refine G_aload_n (K := mX5_roomIs) (i := 0) dX5_roomIs_0 rfl rfl ?_
  refine G_getr (K := mX5_roomIs) fX5_9 dX5_roomIs_1 rfl rfl ?_
  refine G_iload_n (K := mX5_roomIs) (i := 1) dX5_roomIs_4 rfl rfl ?_
  refine G_iload_n (K := mX5_roomIs) (i := 2) dX5_roomIs_5 rfl rfl ?_
  refine G_sv (K := mX5_roomIs) (c_X5_at (i := i) (f := f) (by omega) (by omega) ⟨rfl, rfl⟩) sX5_at rfl lX5_101 dX5_roomIs_6 (by decide) rfl (Nat.le_of_ble_eq_true rfl) ?_
  refine G_ld (K := mX5_roomIs) _ dX5_roomIs_9 rfl rfl (by omega) (by decide) ?_
  exact G_irm (K := mX5_roomIs) dX5_roomIs_10 rfl (by exact (toH_f _ hf hi).symm) (by rfl) hQ

set_option maxRecDepth 20000 in
theorem c_X5_within {M : Mem} {v a b : Int32} {Q : Option Value → Mem → Prop} (hQ : Q (some (.int (bI (decide (a ≤ v ∧ v ≤ b))))) M) : CT mX5_within shR 0 [.int v, .int a, .int b] M Q := by
  refine CT.mk [some (.int v), some (.int a), some (.int b)] (by decide) (Nat.le_of_ble_eq_true rfl) rfl rfl ?_
  refine G_iload_n (K := mX5_within) (i := 0) dX5_within_0 rfl rfl ?_
  refine G_iload_n (K := mX5_within) (i := 1) dX5_within_1 rfl rfl ?_
  refine G_icmp_lt (K := mX5_within) (tgt := 14) dX5_within_2 (by decide) (fun c2 => ?_) (fun c2 => ?_)
  · skip
    refine G_iconst (K := mX5_within) (v := 0) dX5_within_14 (by decide) ?_
    exact G_zrm (K := mX5_within) dX5_within_15 rfl rfl (by first | exact (bI_t (decide_eq_true ⟨Int32.not_lt.mp c2, Int32.not_lt.mp c7⟩)).symm | exact (bI_f (decide_eq_false (fun z => Int32.not_lt.mpr z.1 c2))).symm | exact (bI_f (decide_eq_false (fun z => Int32.not_lt.mpr z.2 c7))).symm) rfl hQ
  · skip
    refine G_iload_n (K := mX5_within) (i := 0) dX5_within_5 rfl rfl ?_
    refine G_iload_n (K := mX5_within) (i := 2) dX5_within_6 rfl rfl ?_
    refine G_icmp_gt (K := mX5_within) (tgt := 14) dX5_within_7 (by decide) (fun c7 => ?_) (fun c7 => ?_)
    · skip
      refine G_iconst (K := mX5_within) (v := 0) dX5_within_14 (by decide) ?_
      exact G_zrm (K := mX5_within) dX5_within_15 rfl rfl (by first | exact (bI_t (decide_eq_true ⟨Int32.not_lt.mp c2, Int32.not_lt.mp c7⟩)).symm | exact (bI_f (decide_eq_false (fun z => Int32.not_lt.mpr z.1 c2))).symm | exact (bI_f (decide_eq_false (fun z => Int32.not_lt.mpr z.2 c7))).symm) rfl hQ
    · skip
      refine G_iconst (K := mX5_within) (v := 1) dX5_within_10 (by decide) ?_
      refine G_goto (K := mX5_within) (tgt := 15) dX5_within_11 (by decide) ?_
      exact G_zrm (K := mX5_within) dX5_within_15 rfl rfl (by first | exact (bI_t (decide_eq_true ⟨Int32.not_lt.mp c2, Int32.not_lt.mp c7⟩)).symm | exact (bI_f (decide_eq_false (fun z => Int32.not_lt.mpr z.1 c2))).symm | exact (bI_f (decide_eq_false (fun z => Int32.not_lt.mpr z.2 c7))).symm) rfl hQ

theorem within_room {r : Int32} {n : Nat} (hn8 : n ≤ 8) : decide ((0 : Int32) ≤ r ∧ r ≤ nI n - 1) = roomB n r := by
  have e1 : (1 : Int32).toInt = 1 := rfl
  have e : (nI n - 1).toInt = (n : Int) - 1 := by rw [sub_I (by rw [nI_toI (by omega), e1]; omega) (by rw [nI_toI (by omega), e1]; omega), nI_toI (by omega), e1]
  unfold roomB
  congr 1
  rw [i32_le, i32_le, e]
  show ((0 : Int) ≤ r.toInt ∧ _) = _
  refine propext ⟨fun h => ⟨h.1, by omega⟩, fun h => ⟨h.1, by omega⟩⟩
set_option maxRecDepth 20000 in
theorem c_X5_isRoom {M : Mem} {r : Int32} {n : Nat} (hn : M 1 2 = nI n) (hn8 : n ≤ 8) {Q : Option Value → Mem → Prop} (hQ : Q (some (.int (bI (roomB n r)))) M) : CT mX5_isRoom shR 1 [.ref 0, .int r] M Q := by
  refine CT.mk [some (.ref 0), some (.int r)] (by decide) (Nat.le_of_ble_eq_true rfl) rfl rfl ?_
  refine G_iload_n (K := mX5_isRoom) (i := 1) dX5_isRoom_0 rfl rfl ?_
  refine G_iconst (K := mX5_isRoom) (v := 0) dX5_isRoom_1 (by decide) ?_
  refine G_aload_n (K := mX5_isRoom) (i := 0) dX5_isRoom_2 rfl rfl ?_
  refine G_getr (K := mX5_isRoom) fX5_9 dX5_isRoom_3 rfl rfl ?_
  refine G_iconst (K := mX5_isRoom) (v := 2) dX5_isRoom_6 (by decide) ?_
  refine G_ld (K := mX5_isRoom) 2 dX5_isRoom_7 rfl rfl (by omega) (by decide) ?_
  rw [hn]
  refine G_iconst (K := mX5_isRoom) (v := 1) dX5_isRoom_8 (by decide) ?_
  refine G_isub (K := mX5_isRoom) dX5_isRoom_9 ?_
  refine G_sv (K := mX5_isRoom) (c_X5_within (v := r) (a := 0) (b := nI n - 1) ⟨rfl, rfl⟩) sX5_within rfl lX5_97 dX5_isRoom_10 (by decide) rfl (Nat.le_of_ble_eq_true rfl) ?_
  rw [within_room hn8]
  exact G_zrm (K := mX5_isRoom) dX5_isRoom_13 rfl (by cases roomB n r <;> rfl) rfl rfl hQ

set_option maxRecDepth 20000 in
theorem c_X5_isKind {M : Mem} {x : Int32} {Q : Option Value → Mem → Prop} (hQ : Q (some (.int (bI (decide (0 ≤ x ∧ x ≤ 6))))) M) : CT mX5_isKind shR 1 [.int x] M Q := by
  refine CT.mk [some (.int x)] (by decide) (Nat.le_of_ble_eq_true rfl) rfl rfl ?_
  refine G_iload_n (K := mX5_isKind) (i := 0) dX5_isKind_0 rfl rfl ?_
  refine G_iconst (K := mX5_isKind) (v := 0) dX5_isKind_1 (by decide) ?_
  refine G_bipush (K := mX5_isKind) (v := 6) dX5_isKind_2 (by decide) ?_
  refine G_sv (K := mX5_isKind) (c_X5_within (v := x) (a := 0) (b := 6) ⟨rfl, rfl⟩) sX5_within rfl lX5_97 dX5_isKind_4 (by decide) rfl (Nat.le_of_ble_eq_true rfl) ?_
  exact G_zrm (K := mX5_isKind) dX5_isKind_7 rfl (by cases (decide ((0 : Int32) ≤ x ∧ x ≤ 6)) <;> rfl) rfl rfl hQ

set_option maxRecDepth 20000 in
theorem c_X5_become {M : Mem} {k : Nat} {v : Int32} (hk : k < 86) {Q : Option Value → Mem → Prop} (hQ : Q (some (.int (M 1 k))) (ups M 1 k v)) : CT mX5_become shR 0 [.ref 0, .int (nI k), .int v] M Q := by
  refine CT.mk [some (.ref 0), some (.int (nI k)), some (.int v), none] (by decide) (Nat.le_of_ble_eq_true rfl) rfl rfl ?_
  refine G_aload_n (K := mX5_become) (i := 0) dX5_become_0 rfl rfl ?_
  refine G_getr (K := mX5_become) fX5_9 dX5_become_1 rfl rfl ?_
  refine G_iload_n (K := mX5_become) (i := 1) dX5_become_4 rfl rfl ?_
  refine G_ld (K := mX5_become) _ dX5_become_5 rfl rfl (by omega) (by decide) ?_
  refine G_istore_n (K := mX5_become) (i := 3) dX5_become_6 rfl (by decide) ?_
  refine G_aload_n (K := mX5_become) (i := 0) dX5_become_7 rfl rfl ?_
  refine G_getr (K := mX5_become) fX5_9 dX5_become_8 rfl rfl ?_
  refine G_iload_n (K := mX5_become) (i := 1) dX5_become_11 rfl rfl ?_
  refine G_iload_n (K := mX5_become) (i := 2) dX5_become_12 rfl rfl ?_
  refine G_sto (K := mX5_become) _ dX5_become_13 rfl rfl (by omega) (by decide) ?_
  refine G_iload_n (K := mX5_become) (i := 3) dX5_become_14 rfl rfl ?_
  exact G_irm (K := mX5_become) dX5_become_15 rfl (by rfl) (by rfl) hQ

set_option maxRecDepth 20000 in
theorem c_X5_has {M : Mem} {s k : Int32} {Q : Option Value → Mem → Prop} (hQ : Q (some (.int (bI (decide ((s >>> (k &&& 31)) &&& 1 = 1))))) M) : CT mX5_has shR 0 [.int s, .int k] M Q := by
  refine CT.mk [some (.int s), some (.int k)] (by decide) (Nat.le_of_ble_eq_true rfl) rfl rfl ?_
  refine G_iload_n (K := mX5_has) (i := 0) dX5_has_0 rfl rfl ?_
  refine G_iload_n (K := mX5_has) (i := 1) dX5_has_1 rfl rfl ?_
  refine G_ishr (K := mX5_has) dX5_has_2 ?_
  refine G_iconst (K := mX5_has) (v := 1) dX5_has_3 (by decide) ?_
  refine G_iand (K := mX5_has) dX5_has_4 ?_
  refine G_iconst (K := mX5_has) (v := 1) dX5_has_5 (by decide) ?_
  refine G_icmp_ne (K := mX5_has) (tgt := 13) dX5_has_6 (by decide) (fun c6 => ?_) (fun c6 => ?_)
  · skip
    refine G_iconst (K := mX5_has) (v := 0) dX5_has_13 (by decide) ?_
    exact G_zrm (K := mX5_has) dX5_has_14 rfl rfl (by first | exact (bI_t (decide_eq_true c6)).symm | exact (bI_f (decide_eq_false c6)).symm) rfl hQ
  · skip
    refine G_iconst (K := mX5_has) (v := 1) dX5_has_9 (by decide) ?_
    refine G_goto (K := mX5_has) (tgt := 14) dX5_has_10 (by decide) ?_
    exact G_zrm (K := mX5_has) dX5_has_14 rfl rfl (by first | exact (bI_t (decide_eq_true c6)).symm | exact (bI_f (decide_eq_false c6)).symm) rfl hQ

theorem toH_hour (R : Nat → Int32) : toH R 0 2 = R 0 := rfl
theorem toH_n (R : Nat → Int32) : toH R 0 0 = R 2 := rfl
theorem toH_out (R : Nat → Int32) : toH R 0 1 = R 1 := rfl
set_option maxRecDepth 20000 in
theorem c_X5_wants {M : Mem} {i : Nat} (hi : i < 8) {Q : Option Value → Mem → Prop} (hQ : Q (some (.int (wantsH (toH (M 1)) i))) M) : CT mX5_wants shR 2 [.ref 0, .int (nI i)] M Q := by
  refine CT.mk [some (.ref 0), some (.int (nI i)), none, none] (by decide) (Nat.le_of_ble_eq_true rfl) rfl rfl ?_
  refine G_iconst (K := mX5_wants) (v := 3) dX5_wants_0 (by decide) ?_
  refine G_aload_n (K := mX5_wants) (i := 0) dX5_wants_1 rfl rfl ?_
  refine G_iload_n (K := mX5_wants) (i := 1) dX5_wants_2 rfl rfl ?_
  refine G_bipush (K := mX5_wants) (v := 7) dX5_wants_3 (by decide) ?_
  refine G_cv (K := mX5_wants) (c_X5_roomIs (i := i) (f := 7) (by omega) (by omega) ⟨rfl, rfl⟩) vX5_roomIs rfl lX5_120 dX5_wants_5 ⟨_, _, _, rfl, rfl, rfl⟩ (by decide) rfl (Nat.le_of_ble_eq_true rfl) ?_
  refine G_min (K := mX5_wants) qX5_123 dX5_wants_8 (by decide) (Nat.le_of_ble_eq_true rfl) ?_
  refine G_istore_n (K := mX5_wants) (i := 2) dX5_wants_11 rfl (by decide) ?_
  refine G_aload_n (K := mX5_wants) (i := 0) dX5_wants_12 rfl rfl ?_
  refine G_iload_n (K := mX5_wants) (i := 1) dX5_wants_13 rfl rfl ?_
  refine G_iconst (K := mX5_wants) (v := 1) dX5_wants_14 (by decide) ?_
  refine G_cv (K := mX5_wants) (c_X5_roomIs (i := i) (f := 1) (by omega) (by omega) ⟨rfl, rfl⟩) vX5_roomIs rfl lX5_120 dX5_wants_15 ⟨_, _, _, rfl, rfl, rfl⟩ (by decide) rfl (Nat.le_of_ble_eq_true rfl) ?_
  refine G_bipush (K := mX5_wants) (v := 120) dX5_wants_18 (by decide) ?_
  refine G_icmp_lt (K := mX5_wants) (tgt := 27) dX5_wants_20 (by decide) (fun c20 => ?_) (fun c20 => ?_)
  · skip
    refine G_iconst (K := mX5_wants) (v := 1) dX5_wants_27 (by decide) ?_
    refine G_istore_n (K := mX5_wants) (i := 3) dX5_wants_28 rfl (by decide) ?_
    refine G_aload_n (K := mX5_wants) (i := 0) dX5_wants_29 rfl rfl ?_
    refine G_iload_n (K := mX5_wants) (i := 1) dX5_wants_30 rfl rfl ?_
    refine G_iconst (K := mX5_wants) (v := 0) dX5_wants_31 (by decide) ?_
    refine G_cv (K := mX5_wants) (c_X5_roomIs (i := i) (f := 0) (by omega) (by omega) ⟨rfl, rfl⟩) vX5_roomIs rfl lX5_120 dX5_wants_32 ⟨_, _, _, rfl, rfl, rfl⟩ (by decide) rfl (Nat.le_of_ble_eq_true rfl) ?_
    by_cases e35_0 : toH (M 1) (1 + 0) i = 1
    · refine G_tableIn (K := mX5_wants) (tgt := 72) dX5_wants_35 (by rw [e35_0]; decide) (by rw [e35_0]; decide) (by rw [e35_0]; rfl) (by decide) ?_
      refine G_iload_n (K := mX5_wants) (i := 3) dX5_wants_72 rfl rfl ?_
      exact G_irm (K := mX5_wants) dX5_wants_73 rfl (by unfold wantsH; rw [wF1 e35_0]; first | exact (if_pos c20).symm | exact (if_neg c20).symm) rfl hQ
    by_cases e35_1 : toH (M 1) (1 + 0) i = 2
    · refine G_tableIn (K := mX5_wants) (tgt := 78) dX5_wants_35 (by rw [e35_1]; decide) (by rw [e35_1]; decide) (by rw [e35_1]; rfl) (by decide) ?_
      refine G_iload_n (K := mX5_wants) (i := 2) dX5_wants_78 rfl rfl ?_
      exact G_irm (K := mX5_wants) dX5_wants_79 rfl (by unfold wantsH; rw [wF2 e35_1]; rfl) rfl hQ
    by_cases e35_2 : toH (M 1) (1 + 0) i = 3
    · refine G_tableIn (K := mX5_wants) (tgt := 80) dX5_wants_35 (by rw [e35_2]; decide) (by rw [e35_2]; decide) (by rw [e35_2]; rfl) (by decide) ?_
      refine G_iload_n (K := mX5_wants) (i := 2) dX5_wants_80 rfl rfl ?_
      refine G_iconst (K := mX5_wants) (v := 2) dX5_wants_81 (by decide) ?_
      refine G_idiv (K := mX5_wants) dX5_wants_82 (by decide) ?_
      exact G_irm (K := mX5_wants) dX5_wants_83 rfl (by unfold wantsH; rw [wF3 e35_2]; rfl) rfl hQ
    by_cases e35_3 : toH (M 1) (1 + 0) i = 4
    · refine G_tableIn (K := mX5_wants) (tgt := 74) dX5_wants_35 (by rw [e35_3]; decide) (by rw [e35_3]; decide) (by rw [e35_3]; rfl) (by decide) ?_
      refine G_iload_n (K := mX5_wants) (i := 3) dX5_wants_74 rfl rfl ?_
      refine G_iconst (K := mX5_wants) (v := 1) dX5_wants_75 (by decide) ?_
      refine G_iadd (K := mX5_wants) dX5_wants_76 ?_
      exact G_irm (K := mX5_wants) dX5_wants_77 rfl (by unfold wantsH; rw [wF4 e35_3]; first | exact congrArg (· + 1) (if_pos c20).symm | exact congrArg (· + 1) (if_neg c20).symm) rfl hQ
    by_cases e35_4 : toH (M 1) (1 + 0) i = 5
    · refine G_tableIn (K := mX5_wants) (tgt := 101) dX5_wants_35 (by rw [e35_4]; decide) (by rw [e35_4]; decide) (by rw [e35_4]; rfl) (by decide) ?_
      refine G_aload_n (K := mX5_wants) (i := 0) dX5_wants_101 rfl rfl ?_
      refine G_getr (K := mX5_wants) fX5_9 dX5_wants_102 rfl rfl ?_
      refine G_iconst (K := mX5_wants) (v := 0) dX5_wants_105 (by decide) ?_
      refine G_ld (K := mX5_wants) 0 dX5_wants_106 rfl rfl (by omega) (by decide) ?_
      refine G_iconst (K := mX5_wants) (v := 2) dX5_wants_107 (by decide) ?_
      refine G_irem (K := mX5_wants) dX5_wants_108 (by decide) ?_
      refine G_iconst (K := mX5_wants) (v := 1) dX5_wants_109 (by decide) ?_
      refine G_icmp_ne (K := mX5_wants) (tgt := 123) dX5_wants_110 (by decide) (fun c110 => ?_) (fun c110 => ?_)
      · skip
        refine G_iconst (K := mX5_wants) (v := 1) dX5_wants_123 (by decide) ?_
        exact G_irm (K := mX5_wants) dX5_wants_124 rfl (by unfold wantsH; rw [wF5 e35_4]; first | exact (if_pos c110).symm | exact (if_neg c110).symm) rfl hQ
      · skip
        refine G_aload_n (K := mX5_wants) (i := 0) dX5_wants_113 rfl rfl ?_
        refine G_iload_n (K := mX5_wants) (i := 1) dX5_wants_114 rfl rfl ?_
        refine G_bipush (K := mX5_wants) (v := 8) dX5_wants_115 (by decide) ?_
        refine G_cv (K := mX5_wants) (c_X5_roomIs (i := i) (f := 8) (by omega) (by omega) ⟨rfl, rfl⟩) vX5_roomIs rfl lX5_120 dX5_wants_117 ⟨_, _, _, rfl, rfl, rfl⟩ (by decide) rfl (Nat.le_of_ble_eq_true rfl) ?_
        refine G_goto (K := mX5_wants) (tgt := 124) dX5_wants_120 (by decide) ?_
        exact G_irm (K := mX5_wants) dX5_wants_124 rfl (by unfold wantsH; rw [wF5 e35_4]; first | exact (if_pos c110).symm | exact (if_neg c110).symm) rfl hQ
    by_cases e35_5 : toH (M 1) (1 + 0) i = 6
    · refine G_tableIn (K := mX5_wants) (tgt := 84) dX5_wants_35 (by rw [e35_5]; decide) (by rw [e35_5]; decide) (by rw [e35_5]; rfl) (by decide) ?_
      refine G_aload_n (K := mX5_wants) (i := 0) dX5_wants_84 rfl rfl ?_
      refine G_iload_n (K := mX5_wants) (i := 1) dX5_wants_85 rfl rfl ?_
      refine G_bipush (K := mX5_wants) (v := 7) dX5_wants_86 (by decide) ?_
      refine G_cv (K := mX5_wants) (c_X5_roomIs (i := i) (f := 7) (by omega) (by omega) ⟨rfl, rfl⟩) vX5_roomIs rfl lX5_120 dX5_wants_88 ⟨_, _, _, rfl, rfl, rfl⟩ (by decide) rfl (Nat.le_of_ble_eq_true rfl) ?_
      refine G_iconst (K := mX5_wants) (v := 2) dX5_wants_91 (by decide) ?_
      refine G_icmp_ge (K := mX5_wants) (tgt := 99) dX5_wants_92 (by decide) (fun c92 => ?_) (fun c92 => ?_)
      · skip
        refine G_iload_n (K := mX5_wants) (i := 2) dX5_wants_99 rfl rfl ?_
        exact G_irm (K := mX5_wants) dX5_wants_100 rfl (by unfold wantsH; rw [wF6 e35_5]; first | exact (if_pos (Int32.not_le.mp c92)).symm | exact (if_neg (Int32.not_lt.mpr c92)).symm) rfl hQ
      · skip
        refine G_iconst (K := mX5_wants) (v := 0) dX5_wants_95 (by decide) ?_
        refine G_goto (K := mX5_wants) (tgt := 100) dX5_wants_96 (by decide) ?_
        exact G_irm (K := mX5_wants) dX5_wants_100 rfl (by unfold wantsH; rw [wF6 e35_5]; first | exact (if_pos (Int32.not_le.mp c92)).symm | exact (if_neg (Int32.not_lt.mpr c92)).symm) rfl hQ
    have fe35_0 : (toH (M 1) (1 + 0) i).toInt ≠ 1 := fun h => e35_0 (Int32.toInt_inj.mp (h.trans (by decide)))
    have fe35_1 : (toH (M 1) (1 + 0) i).toInt ≠ 2 := fun h => e35_1 (Int32.toInt_inj.mp (h.trans (by decide)))
    have fe35_2 : (toH (M 1) (1 + 0) i).toInt ≠ 3 := fun h => e35_2 (Int32.toInt_inj.mp (h.trans (by decide)))
    have fe35_3 : (toH (M 1) (1 + 0) i).toInt ≠ 4 := fun h => e35_3 (Int32.toInt_inj.mp (h.trans (by decide)))
    have fe35_4 : (toH (M 1) (1 + 0) i).toInt ≠ 5 := fun h => e35_4 (Int32.toInt_inj.mp (h.trans (by decide)))
    have fe35_5 : (toH (M 1) (1 + 0) i).toInt ≠ 6 := fun h => e35_5 (Int32.toInt_inj.mp (h.trans (by decide)))
    refine G_tableOut (K := mX5_wants) (tgt := 125) dX5_wants_35 (by omega) (by decide) ?_
    refine G_iconst (K := mX5_wants) (v := 1) dX5_wants_125 (by decide) ?_
    exact G_irm (K := mX5_wants) dX5_wants_126 rfl (by unfold wantsH; rw [wFd e35_0 e35_1 e35_2 e35_3 e35_4 e35_5]) rfl hQ
  · skip
    refine G_iconst (K := mX5_wants) (v := 2) dX5_wants_23 (by decide) ?_
    refine G_goto (K := mX5_wants) (tgt := 28) dX5_wants_24 (by decide) ?_
    refine G_istore_n (K := mX5_wants) (i := 3) dX5_wants_28 rfl (by decide) ?_
    refine G_aload_n (K := mX5_wants) (i := 0) dX5_wants_29 rfl rfl ?_
    refine G_iload_n (K := mX5_wants) (i := 1) dX5_wants_30 rfl rfl ?_
    refine G_iconst (K := mX5_wants) (v := 0) dX5_wants_31 (by decide) ?_
    refine G_cv (K := mX5_wants) (c_X5_roomIs (i := i) (f := 0) (by omega) (by omega) ⟨rfl, rfl⟩) vX5_roomIs rfl lX5_120 dX5_wants_32 ⟨_, _, _, rfl, rfl, rfl⟩ (by decide) rfl (Nat.le_of_ble_eq_true rfl) ?_
    by_cases e35_0 : toH (M 1) (1 + 0) i = 1
    · refine G_tableIn (K := mX5_wants) (tgt := 72) dX5_wants_35 (by rw [e35_0]; decide) (by rw [e35_0]; decide) (by rw [e35_0]; rfl) (by decide) ?_
      refine G_iload_n (K := mX5_wants) (i := 3) dX5_wants_72 rfl rfl ?_
      exact G_irm (K := mX5_wants) dX5_wants_73 rfl (by unfold wantsH; rw [wF1 e35_0]; first | exact (if_pos c20).symm | exact (if_neg c20).symm) rfl hQ
    by_cases e35_1 : toH (M 1) (1 + 0) i = 2
    · refine G_tableIn (K := mX5_wants) (tgt := 78) dX5_wants_35 (by rw [e35_1]; decide) (by rw [e35_1]; decide) (by rw [e35_1]; rfl) (by decide) ?_
      refine G_iload_n (K := mX5_wants) (i := 2) dX5_wants_78 rfl rfl ?_
      exact G_irm (K := mX5_wants) dX5_wants_79 rfl (by unfold wantsH; rw [wF2 e35_1]; rfl) rfl hQ
    by_cases e35_2 : toH (M 1) (1 + 0) i = 3
    · refine G_tableIn (K := mX5_wants) (tgt := 80) dX5_wants_35 (by rw [e35_2]; decide) (by rw [e35_2]; decide) (by rw [e35_2]; rfl) (by decide) ?_
      refine G_iload_n (K := mX5_wants) (i := 2) dX5_wants_80 rfl rfl ?_
      refine G_iconst (K := mX5_wants) (v := 2) dX5_wants_81 (by decide) ?_
      refine G_idiv (K := mX5_wants) dX5_wants_82 (by decide) ?_
      exact G_irm (K := mX5_wants) dX5_wants_83 rfl (by unfold wantsH; rw [wF3 e35_2]; rfl) rfl hQ
    by_cases e35_3 : toH (M 1) (1 + 0) i = 4
    · refine G_tableIn (K := mX5_wants) (tgt := 74) dX5_wants_35 (by rw [e35_3]; decide) (by rw [e35_3]; decide) (by rw [e35_3]; rfl) (by decide) ?_
      refine G_iload_n (K := mX5_wants) (i := 3) dX5_wants_74 rfl rfl ?_
      refine G_iconst (K := mX5_wants) (v := 1) dX5_wants_75 (by decide) ?_
      refine G_iadd (K := mX5_wants) dX5_wants_76 ?_
      exact G_irm (K := mX5_wants) dX5_wants_77 rfl (by unfold wantsH; rw [wF4 e35_3]; first | exact congrArg (· + 1) (if_pos c20).symm | exact congrArg (· + 1) (if_neg c20).symm) rfl hQ
    by_cases e35_4 : toH (M 1) (1 + 0) i = 5
    · refine G_tableIn (K := mX5_wants) (tgt := 101) dX5_wants_35 (by rw [e35_4]; decide) (by rw [e35_4]; decide) (by rw [e35_4]; rfl) (by decide) ?_
      refine G_aload_n (K := mX5_wants) (i := 0) dX5_wants_101 rfl rfl ?_
      refine G_getr (K := mX5_wants) fX5_9 dX5_wants_102 rfl rfl ?_
      refine G_iconst (K := mX5_wants) (v := 0) dX5_wants_105 (by decide) ?_
      refine G_ld (K := mX5_wants) 0 dX5_wants_106 rfl rfl (by omega) (by decide) ?_
      refine G_iconst (K := mX5_wants) (v := 2) dX5_wants_107 (by decide) ?_
      refine G_irem (K := mX5_wants) dX5_wants_108 (by decide) ?_
      refine G_iconst (K := mX5_wants) (v := 1) dX5_wants_109 (by decide) ?_
      refine G_icmp_ne (K := mX5_wants) (tgt := 123) dX5_wants_110 (by decide) (fun c110 => ?_) (fun c110 => ?_)
      · skip
        refine G_iconst (K := mX5_wants) (v := 1) dX5_wants_123 (by decide) ?_
        exact G_irm (K := mX5_wants) dX5_wants_124 rfl (by unfold wantsH; rw [wF5 e35_4]; first | exact (if_pos c110).symm | exact (if_neg c110).symm) rfl hQ
      · skip
        refine G_aload_n (K := mX5_wants) (i := 0) dX5_wants_113 rfl rfl ?_
        refine G_iload_n (K := mX5_wants) (i := 1) dX5_wants_114 rfl rfl ?_
        refine G_bipush (K := mX5_wants) (v := 8) dX5_wants_115 (by decide) ?_
        refine G_cv (K := mX5_wants) (c_X5_roomIs (i := i) (f := 8) (by omega) (by omega) ⟨rfl, rfl⟩) vX5_roomIs rfl lX5_120 dX5_wants_117 ⟨_, _, _, rfl, rfl, rfl⟩ (by decide) rfl (Nat.le_of_ble_eq_true rfl) ?_
        refine G_goto (K := mX5_wants) (tgt := 124) dX5_wants_120 (by decide) ?_
        exact G_irm (K := mX5_wants) dX5_wants_124 rfl (by unfold wantsH; rw [wF5 e35_4]; first | exact (if_pos c110).symm | exact (if_neg c110).symm) rfl hQ
    by_cases e35_5 : toH (M 1) (1 + 0) i = 6
    · refine G_tableIn (K := mX5_wants) (tgt := 84) dX5_wants_35 (by rw [e35_5]; decide) (by rw [e35_5]; decide) (by rw [e35_5]; rfl) (by decide) ?_
      refine G_aload_n (K := mX5_wants) (i := 0) dX5_wants_84 rfl rfl ?_
      refine G_iload_n (K := mX5_wants) (i := 1) dX5_wants_85 rfl rfl ?_
      refine G_bipush (K := mX5_wants) (v := 7) dX5_wants_86 (by decide) ?_
      refine G_cv (K := mX5_wants) (c_X5_roomIs (i := i) (f := 7) (by omega) (by omega) ⟨rfl, rfl⟩) vX5_roomIs rfl lX5_120 dX5_wants_88 ⟨_, _, _, rfl, rfl, rfl⟩ (by decide) rfl (Nat.le_of_ble_eq_true rfl) ?_
      refine G_iconst (K := mX5_wants) (v := 2) dX5_wants_91 (by decide) ?_
      refine G_icmp_ge (K := mX5_wants) (tgt := 99) dX5_wants_92 (by decide) (fun c92 => ?_) (fun c92 => ?_)
      · skip
        refine G_iload_n (K := mX5_wants) (i := 2) dX5_wants_99 rfl rfl ?_
        exact G_irm (K := mX5_wants) dX5_wants_100 rfl (by unfold wantsH; rw [wF6 e35_5]; first | exact (if_pos (Int32.not_le.mp c92)).symm | exact (if_neg (Int32.not_lt.mpr c92)).symm) rfl hQ
      · skip
        refine G_iconst (K := mX5_wants) (v := 0) dX5_wants_95 (by decide) ?_
        refine G_goto (K := mX5_wants) (tgt := 100) dX5_wants_96 (by decide) ?_
        exact G_irm (K := mX5_wants) dX5_wants_100 rfl (by unfold wantsH; rw [wF6 e35_5]; first | exact (if_pos (Int32.not_le.mp c92)).symm | exact (if_neg (Int32.not_lt.mpr c92)).symm) rfl hQ
    have fe35_0 : (toH (M 1) (1 + 0) i).toInt ≠ 1 := fun h => e35_0 (Int32.toInt_inj.mp (h.trans (by decide)))
    have fe35_1 : (toH (M 1) (1 + 0) i).toInt ≠ 2 := fun h => e35_1 (Int32.toInt_inj.mp (h.trans (by decide)))
    have fe35_2 : (toH (M 1) (1 + 0) i).toInt ≠ 3 := fun h => e35_2 (Int32.toInt_inj.mp (h.trans (by decide)))
    have fe35_3 : (toH (M 1) (1 + 0) i).toInt ≠ 4 := fun h => e35_3 (Int32.toInt_inj.mp (h.trans (by decide)))
    have fe35_4 : (toH (M 1) (1 + 0) i).toInt ≠ 5 := fun h => e35_4 (Int32.toInt_inj.mp (h.trans (by decide)))
    have fe35_5 : (toH (M 1) (1 + 0) i).toInt ≠ 6 := fun h => e35_5 (Int32.toInt_inj.mp (h.trans (by decide)))
    refine G_tableOut (K := mX5_wants) (tgt := 125) dX5_wants_35 (by omega) (by decide) ?_
    refine G_iconst (K := mX5_wants) (v := 1) dX5_wants_125 (by decide) ?_
    exact G_irm (K := mX5_wants) dX5_wants_126 rfl (by unfold wantsH; rw [wFd e35_0 e35_1 e35_2 e35_3 e35_4 e35_5]) rfl hQ
