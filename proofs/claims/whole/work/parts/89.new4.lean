def adL (l : List Nat) (ad0 : Nat → Nat) : Nat → Nat := fun j => (l[j]?).getD (ad0 j)
theorem adL_far {l : List Nat} {ad0 : Nat → Nat} {j : Nat} (h : l.length ≤ j) : adL l ad0 j = ad0 j := by
  unfold adL
  rw [List.getElem?_eq_none h]
  rfl
def mL (l : List (Nat → Int32)) : Mem := fun c => (l[c]?).getD (fun _ => 0)
/-- a new house: nobody, 20 outside, hour 0, z 1, no spot held -/
def PMH (M : Mem) : Prop := M 0 0 = 0 ∧ M 0 1 = 20 ∧ M 0 2 = 0 ∧ M 0 3 = 1 ∧ (∀ c, 1 ≤ c → c ≤ 9 → ∀ i, M c i = 0) ∧ ∀ j, j < 10 → M 10 j = -1
def PMZ (n : Nat) (M : Mem) : Prop := ∀ c, c < n → ∀ i, M c i = 0
set_option maxRecDepth 20000 in
theorem new_X0 : CI mX0_init 0 [.int 0, .int 0, .int 0, .int 0, .null, .null, .null, .null, .null, .null, .null, .null, .null, .null] shH PMH 1 10 82 := by
  refine CI.of rfl rfl (by decide) (fun D cts ad0 h0 => ?_)
  refine N_aload dX0_init_0 (i := 0) rfl rfl ?_
  refine N_obj (tb_1 27 (by decide +kernel)) objM objC (by decide) dX0_init_1 ?_
  refine N_aload dX0_init_4 (i := 0) rfl rfl ?_
  refine N_bipush dX0_init_5 (v := 20) (by decide) ?_
  refine N_putN fX0_9 ⟨_, _, _, _, rfl, rfl, rfl, tyX0_ok 1 (by decide), rfl, rfl⟩ (Nat.le_of_ble_eq_true rfl) dX0_init_7 rfl ?_
  refine N_aload dX0_init_10 (i := 0) rfl rfl ?_
  refine N_iconst dX0_init_11 (v := 1) (by decide) ?_
  refine N_putN fX0_15 ⟨_, _, _, _, rfl, rfl, rfl, tyX0_ok 3 (by decide), rfl, rfl⟩ (Nat.le_of_ble_eq_true rfl) dX0_init_12 rfl ?_
  refine N_aload dX0_init_15 (i := 0) rfl rfl ?_
  refine N_bipush dX0_init_16 (v := 8) (by decide) ?_
  refine N_newa (N := 8) arrI (by decide) (by decide) (by decide) (by decide) (by decide) dX0_init_18 (fun q1 => ?_)
  refine N_ws (ws2 := [(h0, .inr (0, [.int 0, .int 20, .int 0, .int 1, .null, .null, .null, .null, .null, .null, .null, .null, .null, .null])), (q1, .inl (cts 0, 8, .inl fun _ => 0))]) rfl ?_
  refine N_putF fX0_18 ⟨_, _, _, _, rfl, rfl, rfl, tyX0_ok 4 (by decide), rfl, rfl⟩ (Nat.le_of_ble_eq_true rfl) dX0_init_20 rfl ?_
  refine N_aload dX0_init_23 (i := 0) rfl rfl ?_
  refine N_bipush dX0_init_24 (v := 8) (by decide) ?_
  refine N_newa (N := 8) arrI (by decide) (by decide) (by decide) (by decide) (by decide) dX0_init_26 (fun q2 => ?_)
  refine N_ws (ws2 := [(h0, .inr (0, [.int 0, .int 20, .int 0, .int 1, .ref q1, .null, .null, .null, .null, .null, .null, .null, .null, .null])), (q1, .inl (cts 0, 8, .inl fun _ => 0)), (q2, .inl (cts 0, 8, .inl fun _ => 0))]) rfl ?_
  refine N_putF fX0_22 ⟨_, _, _, _, rfl, rfl, rfl, tyX0_ok 5 (by decide), rfl, rfl⟩ (Nat.le_of_ble_eq_true rfl) dX0_init_28 rfl ?_
  refine N_aload dX0_init_31 (i := 0) rfl rfl ?_
  refine N_bipush dX0_init_32 (v := 8) (by decide) ?_
  refine N_newa (N := 8) arrI (by decide) (by decide) (by decide) (by decide) (by decide) dX0_init_34 (fun q3 => ?_)
  refine N_ws (ws2 := [(h0, .inr (0, [.int 0, .int 20, .int 0, .int 1, .ref q1, .ref q2, .null, .null, .null, .null, .null, .null, .null, .null])), (q1, .inl (cts 0, 8, .inl fun _ => 0)), (q2, .inl (cts 0, 8, .inl fun _ => 0)), (q3, .inl (cts 0, 8, .inl fun _ => 0))]) rfl ?_
  refine N_putF fX0_25 ⟨_, _, _, _, rfl, rfl, rfl, tyX0_ok 6 (by decide), rfl, rfl⟩ (Nat.le_of_ble_eq_true rfl) dX0_init_36 rfl ?_
  refine N_aload dX0_init_39 (i := 0) rfl rfl ?_
  refine N_bipush dX0_init_40 (v := 8) (by decide) ?_
  refine N_newa (N := 8) arrI (by decide) (by decide) (by decide) (by decide) (by decide) dX0_init_42 (fun q4 => ?_)
  refine N_ws (ws2 := [(h0, .inr (0, [.int 0, .int 20, .int 0, .int 1, .ref q1, .ref q2, .ref q3, .null, .null, .null, .null, .null, .null, .null])), (q1, .inl (cts 0, 8, .inl fun _ => 0)), (q2, .inl (cts 0, 8, .inl fun _ => 0)), (q3, .inl (cts 0, 8, .inl fun _ => 0)), (q4, .inl (cts 0, 8, .inl fun _ => 0))]) rfl ?_
  refine N_putF fX0_28 ⟨_, _, _, _, rfl, rfl, rfl, tyX0_ok 7 (by decide), rfl, rfl⟩ (Nat.le_of_ble_eq_true rfl) dX0_init_44 rfl ?_
  refine N_aload dX0_init_47 (i := 0) rfl rfl ?_
  refine N_bipush dX0_init_48 (v := 8) (by decide) ?_
  refine N_newa (N := 8) arrI (by decide) (by decide) (by decide) (by decide) (by decide) dX0_init_50 (fun q5 => ?_)
  refine N_ws (ws2 := [(h0, .inr (0, [.int 0, .int 20, .int 0, .int 1, .ref q1, .ref q2, .ref q3, .ref q4, .null, .null, .null, .null, .null, .null])), (q1, .inl (cts 0, 8, .inl fun _ => 0)), (q2, .inl (cts 0, 8, .inl fun _ => 0)), (q3, .inl (cts 0, 8, .inl fun _ => 0)), (q4, .inl (cts 0, 8, .inl fun _ => 0)), (q5, .inl (cts 0, 8, .inl fun _ => 0))]) rfl ?_
  refine N_putF fX0_31 ⟨_, _, _, _, rfl, rfl, rfl, tyX0_ok 8 (by decide), rfl, rfl⟩ (Nat.le_of_ble_eq_true rfl) dX0_init_52 rfl ?_
  refine N_aload dX0_init_55 (i := 0) rfl rfl ?_
  refine N_bipush dX0_init_56 (v := 8) (by decide) ?_
  refine N_newa (N := 8) arrI (by decide) (by decide) (by decide) (by decide) (by decide) dX0_init_58 (fun q6 => ?_)
  refine N_ws (ws2 := [(h0, .inr (0, [.int 0, .int 20, .int 0, .int 1, .ref q1, .ref q2, .ref q3, .ref q4, .ref q5, .null, .null, .null, .null, .null])), (q1, .inl (cts 0, 8, .inl fun _ => 0)), (q2, .inl (cts 0, 8, .inl fun _ => 0)), (q3, .inl (cts 0, 8, .inl fun _ => 0)), (q4, .inl (cts 0, 8, .inl fun _ => 0)), (q5, .inl (cts 0, 8, .inl fun _ => 0)), (q6, .inl (cts 0, 8, .inl fun _ => 0))]) rfl ?_
  refine N_putF fX0_34 ⟨_, _, _, _, rfl, rfl, rfl, tyX0_ok 9 (by decide), rfl, rfl⟩ (Nat.le_of_ble_eq_true rfl) dX0_init_60 rfl ?_
  refine N_aload dX0_init_63 (i := 0) rfl rfl ?_
  refine N_bipush dX0_init_64 (v := 8) (by decide) ?_
  refine N_newa (N := 8) arrI (by decide) (by decide) (by decide) (by decide) (by decide) dX0_init_66 (fun q7 => ?_)
  refine N_ws (ws2 := [(h0, .inr (0, [.int 0, .int 20, .int 0, .int 1, .ref q1, .ref q2, .ref q3, .ref q4, .ref q5, .ref q6, .null, .null, .null, .null])), (q1, .inl (cts 0, 8, .inl fun _ => 0)), (q2, .inl (cts 0, 8, .inl fun _ => 0)), (q3, .inl (cts 0, 8, .inl fun _ => 0)), (q4, .inl (cts 0, 8, .inl fun _ => 0)), (q5, .inl (cts 0, 8, .inl fun _ => 0)), (q6, .inl (cts 0, 8, .inl fun _ => 0)), (q7, .inl (cts 0, 8, .inl fun _ => 0))]) rfl ?_
  refine N_putF fX0_37 ⟨_, _, _, _, rfl, rfl, rfl, tyX0_ok 10 (by decide), rfl, rfl⟩ (Nat.le_of_ble_eq_true rfl) dX0_init_68 rfl ?_
  refine N_aload dX0_init_71 (i := 0) rfl rfl ?_
  refine N_bipush dX0_init_72 (v := 8) (by decide) ?_
  refine N_newa (N := 8) arrI (by decide) (by decide) (by decide) (by decide) (by decide) dX0_init_74 (fun q8 => ?_)
  refine N_ws (ws2 := [(h0, .inr (0, [.int 0, .int 20, .int 0, .int 1, .ref q1, .ref q2, .ref q3, .ref q4, .ref q5, .ref q6, .ref q7, .null, .null, .null])), (q1, .inl (cts 0, 8, .inl fun _ => 0)), (q2, .inl (cts 0, 8, .inl fun _ => 0)), (q3, .inl (cts 0, 8, .inl fun _ => 0)), (q4, .inl (cts 0, 8, .inl fun _ => 0)), (q5, .inl (cts 0, 8, .inl fun _ => 0)), (q6, .inl (cts 0, 8, .inl fun _ => 0)), (q7, .inl (cts 0, 8, .inl fun _ => 0)), (q8, .inl (cts 0, 8, .inl fun _ => 0))]) rfl ?_
  refine N_putF fX0_40 ⟨_, _, _, _, rfl, rfl, rfl, tyX0_ok 11 (by decide), rfl, rfl⟩ (Nat.le_of_ble_eq_true rfl) dX0_init_76 rfl ?_
  refine N_aload dX0_init_79 (i := 0) rfl rfl ?_
  refine N_bipush dX0_init_80 (v := 8) (by decide) ?_
  refine N_newa (N := 8) arrI (by decide) (by decide) (by decide) (by decide) (by decide) dX0_init_82 (fun q9 => ?_)
  refine N_ws (ws2 := [(h0, .inr (0, [.int 0, .int 20, .int 0, .int 1, .ref q1, .ref q2, .ref q3, .ref q4, .ref q5, .ref q6, .ref q7, .ref q8, .null, .null])), (q1, .inl (cts 0, 8, .inl fun _ => 0)), (q2, .inl (cts 0, 8, .inl fun _ => 0)), (q3, .inl (cts 0, 8, .inl fun _ => 0)), (q4, .inl (cts 0, 8, .inl fun _ => 0)), (q5, .inl (cts 0, 8, .inl fun _ => 0)), (q6, .inl (cts 0, 8, .inl fun _ => 0)), (q7, .inl (cts 0, 8, .inl fun _ => 0)), (q8, .inl (cts 0, 8, .inl fun _ => 0)), (q9, .inl (cts 0, 8, .inl fun _ => 0))]) rfl ?_
  refine N_putF fX0_43 ⟨_, _, _, _, rfl, rfl, rfl, tyX0_ok 12 (by decide), rfl, rfl⟩ (Nat.le_of_ble_eq_true rfl) dX0_init_84 rfl ?_
  refine N_aload dX0_init_87 (i := 0) rfl rfl ?_
  refine N_bipush dX0_init_88 (v := 10) (by decide) ?_
  refine N_newa (N := 10) arrI (by decide) (by decide) (by decide) (by decide) (by decide) dX0_init_90 (fun q10 => ?_)
  refine N_ws (ws2 := [(h0, .inr (0, [.int 0, .int 20, .int 0, .int 1, .ref q1, .ref q2, .ref q3, .ref q4, .ref q5, .ref q6, .ref q7, .ref q8, .ref q9, .null])), (q1, .inl (cts 0, 8, .inl fun _ => 0)), (q2, .inl (cts 0, 8, .inl fun _ => 0)), (q3, .inl (cts 0, 8, .inl fun _ => 0)), (q4, .inl (cts 0, 8, .inl fun _ => 0)), (q5, .inl (cts 0, 8, .inl fun _ => 0)), (q6, .inl (cts 0, 8, .inl fun _ => 0)), (q7, .inl (cts 0, 8, .inl fun _ => 0)), (q8, .inl (cts 0, 8, .inl fun _ => 0)), (q9, .inl (cts 0, 8, .inl fun _ => 0)), (q10, .inl (cts 0, 10, .inl fun _ => 0))]) rfl ?_
  refine N_putF fX0_46 ⟨_, _, _, _, rfl, rfl, rfl, tyX0_ok 13 (by decide), rfl, rfl⟩ (Nat.le_of_ble_eq_true rfl) dX0_init_92 rfl ?_
  refine N_aload dX0_init_95 (i := 0) rfl rfl ?_
  refine N_get (q0 := 0) fX0_46 rfl rfl dX0_init_96 ?_
  refine N_iconst dX0_init_99 (v := -1) (by decide) ?_
  refine N_fill (i := 10) (N := 10) rfl (by decide) lX0_49 (by decide) (by decide) dX0_init_100 (by decide) (by decide) (fun f0 hf0 => ?_)
  refine N_ws (ws2 := [(h0, .inr (0, [.int 0, .int 20, .int 0, .int 1, .ref q1, .ref q2, .ref q3, .ref q4, .ref q5, .ref q6, .ref q7, .ref q8, .ref q9, .ref q10])), (q1, .inl (cts 0, 8, .inl fun _ => 0)), (q2, .inl (cts 0, 8, .inl fun _ => 0)), (q3, .inl (cts 0, 8, .inl fun _ => 0)), (q4, .inl (cts 0, 8, .inl fun _ => 0)), (q5, .inl (cts 0, 8, .inl fun _ => 0)), (q6, .inl (cts 0, 8, .inl fun _ => 0)), (q7, .inl (cts 0, 8, .inl fun _ => 0)), (q8, .inl (cts 0, 8, .inl fun _ => 0)), (q9, .inl (cts 0, 8, .inl fun _ => 0)), (q10, .inl (cts 0, 10, .inl f0))]) rfl ?_
  refine N_ret dX0_init_103 rfl (by decide) (by decide) (IW_of (adL [h0, q1, q2, q3, q4, q5, q6, q7, q8, q9, q10] ad0) (mL [fun i => [0, 20, 0, 1, 0, 0, 0, 0, 0, 0, 0, 0, 0, 0].getD i 0, (fun _ => 0), (fun _ => 0), (fun _ => 0), (fun _ => 0), (fun _ => 0), (fun _ => 0), (fun _ => 0), (fun _ => 0), (fun _ => 0), f0]) rfl (fun j hj => adL_far (by show 11 ≤ j; omega)) rfl ?_ (by decide))
  refine ⟨rfl, rfl, rfl, rfl, fun c h1 h2 i => ?_, hf0⟩
  have h : c = 1 ∨ c = 2 ∨ c = 3 ∨ c = 4 ∨ c = 5 ∨ c = 6 ∨ c = 7 ∨ c = 8 ∨ c = 9 := by omega
  rcases h with rfl | rfl | rfl | rfl | rfl | rfl | rfl | rfl | rfl <;> rfl
set_option maxRecDepth 20000 in
theorem new_X1 : CI mX1_init 1 [.int 0, .int 0, .null] shS (PMZ 2) 1 1 40 := by
  refine CI.of rfl rfl (by decide) (fun D cts ad0 h0 => ?_)
  refine N_aload dX1_init_0 (i := 0) rfl rfl ?_
  refine N_obj (tb_1 137 (by decide +kernel)) objM objC (by decide) dX1_init_1 ?_
  refine N_aload dX1_init_4 (i := 0) rfl rfl ?_
  refine N_bipush dX1_init_5 (v := 40) (by decide) ?_
  refine N_newa (N := 40) arrI (by decide) (by decide) (by decide) (by decide) (by decide) dX1_init_7 (fun q1 => ?_)
  refine N_ws (ws2 := [(h0, .inr (1, [.int 0, .int 0, .null])), (q1, .inl (cts 0, 40, .inl fun _ => 0))]) rfl ?_
  refine N_putF fX1_9 ⟨_, _, _, _, rfl, rfl, rfl, tyX1_ok 2 (by decide), rfl, rfl⟩ (Nat.le_of_ble_eq_true rfl) dX1_init_9 rfl ?_
  refine N_ret dX1_init_12 rfl (by decide) (by decide) (IW_of (adL [h0, q1] ad0) (mL [fun i => [0, 0, 0].getD i 0, (fun _ => 0)]) rfl (fun j hj => adL_far (by show 2 ≤ j; omega)) rfl ?_ (by decide))
  intro c hc i
  have h : c = 0 ∨ c = 1 := by omega
  rcases h with rfl | rfl
  · rcases i with _ | _ | _ | i <;> rfl
  · rfl
set_option maxRecDepth 20000 in
theorem new_X2 : CI mX2_init 2 [.null, .int 0] shT (PMZ 2) 1 1 120 := by
  refine CI.of rfl rfl (by decide) (fun D cts ad0 h0 => ?_)
  refine N_aload dX2_init_0 (i := 0) rfl rfl ?_
  refine N_obj (tb_1 99 (by decide +kernel)) objM objC (by decide) dX2_init_1 ?_
  refine N_aload dX2_init_4 (i := 0) rfl rfl ?_
  refine N_bipush dX2_init_5 (v := 120) (by decide) ?_
  refine N_newa (N := 120) arrI (by decide) (by decide) (by decide) (by decide) (by decide) dX2_init_7 (fun q1 => ?_)
  refine N_ws (ws2 := [(h0, .inr (2, [.null, .int 0])), (q1, .inl (cts 0, 120, .inl fun _ => 0))]) rfl ?_
  refine N_putF fX2_9 ⟨_, _, _, _, rfl, rfl, rfl, tyX2_ok 0 (by decide), rfl, rfl⟩ (Nat.le_of_ble_eq_true rfl) dX2_init_9 rfl ?_
  refine N_ret dX2_init_12 rfl (by decide) (by decide) (IW_of (adL [h0, q1] ad0) (mL [fun i => [0, 0].getD i 0, (fun _ => 0)]) rfl (fun j hj => adL_far (by show 2 ≤ j; omega)) rfl ?_ (by decide))
  intro c hc i
  have h : c = 0 ∨ c = 1 := by omega
  rcases h with rfl | rfl
  · rcases i with _ | _ | _ | i <;> rfl
  · rfl
