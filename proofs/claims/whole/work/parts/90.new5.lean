theorem cf0 : CF 0 [.int 0, .int 0, .int 0, .int 0, .null, .null, .null, .null, .null, .null, .null, .null, .null, .null] RX0 TX0 14 tyX0 := ⟨rfl, inX0, tyX0_ok, fun j hj => by
  have h : j = 0 ∨ j = 1 ∨ j = 2 ∨ j = 3 ∨ j = 4 ∨ j = 5 ∨ j = 6 ∨ j = 7 ∨ j = 8 ∨ j = 9 ∨ j = 10 ∨ j = 11 ∨ j = 12 ∨ j = 13 := by omega
  rcases h with rfl | rfl | rfl | rfl | rfl | rfl | rfl | rfl | rfl | rfl | rfl | rfl | rfl | rfl <;> rfl, tb_1 23 (by decide +kernel), tb_1 2 (by decide +kernel)⟩
theorem ki0 : KI mX0_init RX0 := ⟨tb_1 26 (by with_unfolding_all rfl), tb_1 25 (by decide +kernel), rfl, rfl, ⟨by decide +kernel, by decide +kernel, by decide +kernel⟩, by decide, rfl⟩
theorem cf1 : CF 1 [.int 0, .int 0, .null] RX1 TX1 3 tyX1 := ⟨rfl, inX1, tyX1_ok, fun j hj => by
  have h : j = 0 ∨ j = 1 ∨ j = 2 := by omega
  rcases h with rfl | rfl | rfl <;> rfl, tb_1 133 (by decide +kernel), tb_1 6 (by decide +kernel)⟩
theorem ki1 : KI mX1_init RX1 := ⟨tb_1 136 (by with_unfolding_all rfl), tb_1 135 (by decide +kernel), rfl, rfl, ⟨by decide +kernel, by decide +kernel, by decide +kernel⟩, by decide, rfl⟩
theorem cf2 : CF 2 [.null, .int 0] RX2 TX2 2 tyX2 := ⟨rfl, inX2, tyX2_ok, fun j hj => by
  have h : j = 0 ∨ j = 1 := by omega
  rcases h with rfl | rfl <;> rfl, tb_1 95 (by decide +kernel), tb_1 5 (by decide +kernel)⟩
theorem ki2 : KI mX2_init RX2 := ⟨tb_1 98 (by with_unfolding_all rfl), tb_1 97 (by decide +kernel), rfl, rfl, ⟨by decide +kernel, by decide +kernel, by decide +kernel⟩, by decide, rfl⟩
theorem cf3 : CF 3 [.null, .null, .int 0, .int 0, .int 0, .int 0] RX3 TX3 6 tyX3 := ⟨rfl, inX3, tyX3_ok, fun j hj => by
  have h : j = 0 ∨ j = 1 ∨ j = 2 ∨ j = 3 ∨ j = 4 ∨ j = 5 := by omega
  rcases h with rfl | rfl | rfl | rfl | rfl | rfl <;> rfl, tb_1 89 (by decide +kernel), tb_1 4 (by decide +kernel)⟩
theorem ki3 : KI mX3_init RX3 := ⟨tb_1 92 (by with_unfolding_all rfl), tb_1 91 (by decide +kernel), rfl, rfl, ⟨by decide +kernel, by decide +kernel, by decide +kernel⟩, by decide, rfl⟩
theorem cf4 : CF 4 [.null, .null, .null, .null, .int 0, .null, .null, .null, .null] RX4 TX4 9 tyX4 := ⟨rfl, inX4, tyX4_ok, fun j hj => by
  have h : j = 0 ∨ j = 1 ∨ j = 2 ∨ j = 3 ∨ j = 4 ∨ j = 5 ∨ j = 6 ∨ j = 7 ∨ j = 8 := by omega
  rcases h with rfl | rfl | rfl | rfl | rfl | rfl | rfl | rfl | rfl <;> rfl, tb_1 15 (by decide +kernel), tb_1 1 (by decide +kernel)⟩
theorem ki4 : KI mX4_init RX4 := ⟨tb_1 18 (by with_unfolding_all rfl), tb_1 17 (by decide +kernel), rfl, rfl, ⟨by decide +kernel, by decide +kernel, by decide +kernel⟩, by decide, rfl⟩
theorem cf5 : CF 5 [.null, .null, .null, .int 0, .null, .null, .null, .null, .null, .null, .null, .int 0, .int 0, .int 0, .null, .int 0, .int 0, .int 0, .null, .int 0, .int 0, .int 0, .int 0, .int 0, .int 0, .null, .null, .null, .int 0, .int 0, .int 0, .null, .null, .null, .null] RX5 TX5 35 tyX5 := ⟨rfl, inX5, tyX5_ok, fun j hj => by
  have h : j = 0 ∨ j = 1 ∨ j = 2 ∨ j = 3 ∨ j = 4 ∨ j = 5 ∨ j = 6 ∨ j = 7 ∨ j = 8 ∨ j = 9 ∨ j = 10 ∨ j = 11 ∨ j = 12 ∨ j = 13 ∨ j = 14 ∨ j = 15 ∨ j = 16 ∨ j = 17 ∨ j = 18 ∨ j = 19 ∨ j = 20 ∨ j = 21 ∨ j = 22 ∨ j = 23 ∨ j = 24 ∨ j = 25 ∨ j = 26 ∨ j = 27 ∨ j = 28 ∨ j = 29 ∨ j = 30 ∨ j = 31 ∨ j = 32 ∨ j = 33 ∨ j = 34 := by omega
  rcases h with rfl | rfl | rfl | rfl | rfl | rfl | rfl | rfl | rfl | rfl | rfl | rfl | rfl | rfl | rfl | rfl | rfl | rfl | rfl | rfl | rfl | rfl | rfl | rfl | rfl | rfl | rfl | rfl | rfl | rfl | rfl | rfl | rfl | rfl | rfl <;> rfl, tb_3 233 (by decide +kernel), tb_1 7 (by decide +kernel)⟩
theorem ki5 : KI mX5_init RX5 := ⟨tb_3 236 (by with_unfolding_all rfl), tb_3 235 (by decide +kernel), rfl, rfl, ⟨by decide +kernel, by decide +kernel, by decide +kernel⟩, by decide, rfl⟩
def shX3 : Shp := [.inl (3, [some 1, some 3, none, none, none, none]), .inl (2, [some 2, none]), .inr (.inl 120), .inl (0, [none, none, none, none, some 4, some 5, some 6, some 7, some 8, some 9, some 10, some 11, some 12, some 13]), .inr (.inl 8), .inr (.inl 8), .inr (.inl 8), .inr (.inl 8), .inr (.inl 8), .inr (.inl 8), .inr (.inl 8), .inr (.inl 8), .inr (.inl 8), .inr (.inl 10)]
def PMX3 (M : Mem) : Prop := (M 1 1 = 0) ∧ ∀ i, M 2 i = 0
theorem app_at {A B : va_W} {j n : Nat} {q : Nat × va_E} (h : A.length = n) (hB : B[j]? = some q) : (A ++ B)[n + j]? = some q := by
  rw [List.getElem?_append_right (by omega), h, Nat.add_sub_cancel_left]
  exact hB
set_option maxRecDepth 20000 in
theorem new_X3 : CI mX3_init 3 [.null, .null, .int 0, .int 0, .int 0, .int 0] shX3 PMX3 2 13 218 := by
  refine CI.of rfl rfl (by decide) (fun D cts ad0 h0 => ?_)
  refine N_aload dX3_init_0 (i := 0) rfl rfl ?_
  refine N_obj (tb_1 93 (by decide +kernel)) objM objC (by decide) dX3_init_1 ?_
  refine N_aload dX3_init_4 (i := 0) rfl rfl ?_
  refine N_make new_X2 cf2 ki2 (tb_1 94 (by decide +kernel)) (Or.inr fun _ h => h.1) (by decide) (by decide) (by decide) (by decide) (Nat.le_of_ble_eq_true rfl) dX3_init_5 dX3_init_8 dX3_init_9 (fun a1 M1 h1 e1 => ?_)
  refine N_ws (ws2 := (h0, .inr (3, [.null, .null, .int 0, .int 0, .int 0, .int 0])) :: wld cts a1 M1 shT) rfl ?_
  refine N_putF fX3_12 ⟨_, _, _, _, rfl, rfl, rfl, tyX3_ok 0 (by decide), rfl, rfl⟩ (Nat.le_of_ble_eq_true rfl) dX3_init_12 rfl ?_
  refine N_aload dX3_init_15 (i := 0) rfl rfl ?_
  refine N_make new_X0 cf0 ki0 (tb_1 109 (by decide +kernel)) (Or.inl (tb_1 110 (by decide +kernel))) (by decide) (by decide) (by decide) (by decide) (Nat.le_of_ble_eq_true rfl) dX3_init_16 dX3_init_19 dX3_init_20 (fun a2 M2 h2 e2 => ?_)
  refine N_ws (ws2 := (h0, .inr (3, [.ref (a1 0), .null, .int 0, .int 0, .int 0, .int 0])) :: (wld cts a1 M1 shT ++ wld cts a2 M2 shH)) rfl ?_
  refine N_putF fX3_21 ⟨_, _, _, _, rfl, rfl, rfl, tyX3_ok 1 (by decide), rfl, rfl⟩ (Nat.le_of_ble_eq_true rfl) dX3_init_23 rfl ?_
  refine N_ret dX3_init_26 rfl (by decide) (by decide) (IW_of (adL [h0, a1 0, a1 1, a2 0, a2 1, a2 2, a2 3, a2 4, a2 5, a2 6, a2 7, a2 8, a2 9, a2 10] ad0) (mL [fun _ => 0, M1 0, M1 1, M2 0, M2 1, M2 2, M2 3, M2 4, M2 5, M2 6, M2 7, M2 8, M2 9, M2 10]) rfl (fun j hj => adL_far (by show 14 ≤ j; omega)) rfl ⟨h1 0 (by decide) 1, h1 1 (by decide)⟩ (by decide))
