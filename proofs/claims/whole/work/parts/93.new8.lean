set_option maxHeartbeats 8000000 in
set_option maxRecDepth 40000 in
theorem new_X4 : CI mX4_init 4 [.null, .null, .null, .null, .int 0, .null, .null, .null, .null] shC PMC 3 68 791 := by
  refine CI.of rfl rfl (by decide) (fun D cts ad0 h0 => ?_)
  refine N_aload dX4_init_0 (i := 0) rfl rfl ?_
  refine N_obj (tb_1 19 (by decide +kernel)) objM objC (by decide) dX4_init_1 ?_
  refine N_aload dX4_init_4 (i := 0) rfl rfl ?_
  refine N_make new_X0 cf0 ki0 (tb_1 22 (by decide +kernel)) (Or.inl (tb_1 24 (by decide +kernel))) (by decide) (by decide) (by decide) (by decide) (Nat.le_of_ble_eq_true rfl) dX4_init_5 dX4_init_8 dX4_init_9 (fun a1 M1 h1 e1 => ?_)
  refine N_ws (ws2 := (h0, (.inr (4, [.null, .null, .null, .null, .int 0, .null, .null, .null, .null]) : va_E)) :: wld cts a1 M1 shH) rfl ?_
  refine N_putF fX4_12 ⟨_, _, _, _, rfl, rfl, rfl, tyX4_ok 0 (by decide), rfl, rfl⟩ (Nat.le_of_ble_eq_true rfl) dX4_init_12 (fs2 := [.ref (a1 0), .null, .null, .null, .int 0, .null, .null, .null, .null]) rfl ?_
  refine N_aload dX4_init_15 (i := 0) rfl rfl ?_
  refine N_make new_X0 cf0 ki0 (tb_1 22 (by decide +kernel)) (Or.inl (tb_1 24 (by decide +kernel))) (by decide) (by decide) (by decide) (by decide) (Nat.le_of_ble_eq_true rfl) dX4_init_16 dX4_init_19 dX4_init_20 (fun a2 M2 h2 e2 => ?_)
  refine N_ws (ws2 := (h0, (.inr (4, [.ref (a1 0), .null, .null, .null, .int 0, .null, .null, .null, .null]) : va_E)) :: (wld cts a1 M1 shH ++ wld cts a2 M2 shH)) rfl ?_
  refine N_putF fX4_16 ⟨_, _, _, _, rfl, rfl, rfl, tyX4_ok 1 (by decide), rfl, rfl⟩ (Nat.le_of_ble_eq_true rfl) dX4_init_23 (fs2 := [.ref (a1 0), .ref (a2 0), .null, .null, .int 0, .null, .null, .null, .null]) rfl ?_
  refine N_aload dX4_init_26 (i := 0) rfl rfl ?_
  refine N_make new_X0 cf0 ki0 (tb_1 22 (by decide +kernel)) (Or.inl (tb_1 24 (by decide +kernel))) (by decide) (by decide) (by decide) (by decide) (Nat.le_of_ble_eq_true rfl) dX4_init_27 dX4_init_30 dX4_init_31 (fun a3 M3 h3 e3 => ?_)
  refine N_ws (ws2 := (h0, (.inr (4, [.ref (a1 0), .ref (a2 0), .null, .null, .int 0, .null, .null, .null, .null]) : va_E)) :: ((wld cts a1 M1 shH ++ wld cts a2 M2 shH) ++ wld cts a3 M3 shH)) rfl ?_
  refine N_putF fX4_19 ⟨_, _, _, _, rfl, rfl, rfl, tyX4_ok 2 (by decide), rfl, rfl⟩ (Nat.le_of_ble_eq_true rfl) dX4_init_34 (fs2 := [.ref (a1 0), .ref (a2 0), .ref (a3 0), .null, .int 0, .null, .null, .null, .null]) rfl ?_
  refine N_aload dX4_init_37 (i := 0) rfl rfl ?_
  refine N_make new_X0 cf0 ki0 (tb_1 22 (by decide +kernel)) (Or.inl (tb_1 24 (by decide +kernel))) (by decide) (by decide) (by decide) (by decide) (Nat.le_of_ble_eq_true rfl) dX4_init_38 dX4_init_41 dX4_init_42 (fun a4 M4 h4 e4 => ?_)
  refine N_ws (ws2 := (h0, (.inr (4, [.ref (a1 0), .ref (a2 0), .ref (a3 0), .null, .int 0, .null, .null, .null, .null]) : va_E)) :: (((wld cts a1 M1 shH ++ wld cts a2 M2 shH) ++ wld cts a3 M3 shH) ++ wld cts a4 M4 shH)) rfl ?_
  refine N_putF fX4_22 ⟨_, _, _, _, rfl, rfl, rfl, tyX4_ok 3 (by decide), rfl, rfl⟩ (Nat.le_of_ble_eq_true rfl) dX4_init_45 (fs2 := [.ref (a1 0), .ref (a2 0), .ref (a3 0), .ref (a4 0), .int 0, .null, .null, .null, .null]) rfl ?_
  refine N_aload dX4_init_48 (i := 0) rfl rfl ?_
  refine N_make new_X3 cf3 ki3 (tb_1 88 (by decide +kernel)) (Or.inr fun _ h => h.2.1) (by decide) (by decide) (by decide) (by decide) (Nat.le_of_ble_eq_true rfl) dX4_init_49 dX4_init_52 dX4_init_53 (fun a5 M5 h5 e5 => ?_)
  refine N_ws (ws2 := (h0, (.inr (4, [.ref (a1 0), .ref (a2 0), .ref (a3 0), .ref (a4 0), .int 0, .null, .null, .null, .null]) : va_E)) :: ((((wld cts a1 M1 shH ++ wld cts a2 M2 shH) ++ wld cts a3 M3 shH) ++ wld cts a4 M4 shH) ++ wld cts a5 M5 shX3)) rfl ?_
  refine N_putF fX4_28 ⟨_, _, _, _, rfl, rfl, rfl, tyX4_ok 5 (by decide), rfl, rfl⟩ (Nat.le_of_ble_eq_true rfl) dX4_init_56 (fs2 := [.ref (a1 0), .ref (a2 0), .ref (a3 0), .ref (a4 0), .int 0, .ref (a5 0), .null, .null, .null]) rfl ?_
  refine N_aload dX4_init_59 (i := 0) rfl rfl ?_
  refine N_aload dX4_init_60 (i := 0) rfl rfl ?_
  refine N_get (q0 := 0) fX4_28 rfl rfl dX4_init_61 ?_
  have hl4 : ((h0, (.inr (4, [.ref (a1 0), .ref (a2 0), .ref (a3 0), .ref (a4 0), .int 0, .ref (a5 0), .null, .null, .null]) : va_E)) :: (((wld cts a1 M1 shH ++ wld cts a2 M2 shH) ++ wld cts a3 M3 shH) ++ wld cts a4 M4 shH)).length = 45 := by simp only [List.length_cons, List.length_append, wld_len]; rfl
  refine N_get (q0 := 45) (a := a5 0) (fs := [.ref (a5 1), .ref (a5 3), .int (M5 0 2), .int (M5 0 3), .int (M5 0 4), .int (M5 0 5)]) (v := .ref (a5 1)) fX4_32 (app_at (j := 0) (n := 45) hl4 (wld_at (sh := shX3) (j := 0) rfl)) rfl dX4_init_64 ?_
  refine N_putF fX4_36 ⟨_, _, _, _, rfl, rfl, rfl, tyX4_ok 6 (by decide), rfl, rfl⟩ (Nat.le_of_ble_eq_true rfl) dX4_init_67 (fs2 := [.ref (a1 0), .ref (a2 0), .ref (a3 0), .ref (a4 0), .int 0, .ref (a5 0), .ref (a5 1), .null, .null]) rfl ?_
  have hP5 : (((((wld cts a1 M1 shH ++ wld cts a2 M2 shH) ++ wld cts a3 M3 shH) ++ wld cts a4 M4 shH) ++ wld cts a5 M5 shX3)).length = 58 := by simp only [List.length_append, wld_len]; rfl
  obtain ⟨P, eP⟩ : ∃ P, P = ((((wld cts a1 M1 shH ++ wld cts a2 M2 shH) ++ wld cts a3 M3 shH) ++ wld cts a4 M4 shH) ++ wld cts a5 M5 shX3) := ⟨_, rfl⟩
  rw [← eP] at hP5 ⊢
  refine N_aload dX4_init_70 (i := 0) rfl rfl ?_
  refine N_iconst dX4_init_71 (v := 4) (by decide) ?_
  refine N_newq (N := 4) (t0 := 2) (tb_1 131 (by decide +kernel)) (fun _ h => h.2.2.2.1) (fun _ => rfl) (by decide) (by decide) (by decide) (by decide) (by decide) dX4_init_72 (fun qs => ?_)
  refine N_ws (ws2 := (h0, (.inr (4, [.ref (a1 0), .ref (a2 0), .ref (a3 0), .ref (a4 0), .int 0, .ref (a5 0), .ref (a5 1), .null, .null]) : va_E)) :: (P ++ ((qs, SAe cts (fun _ => none)) :: []))) rfl ?_
  refine N_putF fX4_39 ⟨_, _, _, _, rfl, rfl, rfl, tyX4_ok 7 (by decide), rfl, rfl⟩ (Nat.le_of_ble_eq_true rfl) dX4_init_75 (fs2 := [.ref (a1 0), .ref (a2 0), .ref (a3 0), .ref (a4 0), .int 0, .ref (a5 0), .ref (a5 1), .ref qs, .null]) rfl ?_
  refine N_aload dX4_init_78 (i := 0) rfl rfl ?_
  refine N_bipush dX4_init_79 (v := 7) (by decide) ?_
  refine N_newa (N := 7) arrI (by decide) (by decide) (by decide) (by decide) (by decide) dX4_init_81 (fun qt => ?_)
  refine N_ws (ws2 := (h0, (.inr (4, [.ref (a1 0), .ref (a2 0), .ref (a3 0), .ref (a4 0), .int 0, .ref (a5 0), .ref (a5 1), .ref qs, .null]) : va_E)) :: (P ++ ((qs, SAe cts (fun _ => none)) :: [(qt, TAe cts)]))) (by simp only [List.append_assoc, List.cons_append, List.nil_append]; rfl) ?_
  refine N_putF fX4_43 ⟨_, _, _, _, rfl, rfl, rfl, tyX4_ok 8 (by decide), rfl, rfl⟩ (Nat.le_of_ble_eq_true rfl) dX4_init_83 (fs2 := [.ref (a1 0), .ref (a2 0), .ref (a3 0), .ref (a4 0), .int 0, .ref (a5 0), .ref (a5 1), .ref qs, .ref qt]) rfl ?_
  refine N_iconst dX4_init_86 (v := 0) (by decide) ?_
  refine N_istore dX4_init_87 (i := 1) rfl (by decide) ?_
  refine N_iload dX4_init_88 (i := 1) (x := 0) rfl rfl ?_
  refine N_iconst dX4_init_89 (v := 4) (by decide) ?_
  refine N_ge_f dX4_init_90 112 (by decide) (by decide) ?_
  refine N_aload dX4_init_93 (i := 0) rfl rfl ?_
  refine N_get (q0 := 0) fX4_39 rfl rfl dX4_init_94 ?_
  refine N_iload dX4_init_97 (i := 1) (x := 0) rfl rfl ?_
  refine N_make new_X1 cf1 ki1 (tb_1 131 (by decide +kernel)) (Or.inr fun _ h => h.2.2.1) (by decide) (by decide) (by decide) (by decide) (Nat.le_of_ble_eq_true rfl) dX4_init_98 dX4_init_101 dX4_init_102 (fun b0 N0 g0 u0 => ?_)
  refine N_ws (ws2 := (h0, (.inr (4, [.ref (a1 0), .ref (a2 0), .ref (a3 0), .ref (a4 0), .int 0, .ref (a5 0), .ref (a5 1), .ref qs, .ref qt]) : va_E)) :: (P ++ ((qs, SAe cts (fun _ => none)) :: ((qt, TAe cts) :: wld cts b0 N0 shS)))) (by simp only [List.append_assoc, List.cons_append, List.nil_append]) ?_
  refine N_astq (t0 := 2) (N := 4) (ci := 1) (r := (RX1, TX1, 3)) (vs := [.int (N0 0 0), .int (N0 0 1), .ref (b0 1)]) 59 (59 + 2) (at59 hP5) (fun _ => rfl) (atK hP5 rfl) rfl (by unfold vp_in; decide) dX4_init_105 (ws2 := (h0, (.inr (4, [.ref (a1 0), .ref (a2 0), .ref (a3 0), .ref (a4 0), .int 0, .ref (a5 0), .ref (a5 1), .ref qs, .ref qt]) : va_E)) :: (P ++ ((qs, SAe cts (va_up (fun _ => none) (0 : Int32).toNatClampNeg (some (b0 0)))) :: ((qt, TAe cts) :: wld cts b0 N0 shS)))) (set59 hP5) ?_
  refine N_iinc dX4_init_106 (i := 1) (x := 0) (v := 1) (by decide) rfl (by decide) ?_
  refine N_goto dX4_init_109 (tgt := 88) (by decide) ?_
  refine N_iload dX4_init_88 (i := 1) (x := 1) rfl rfl ?_
  refine N_iconst dX4_init_89 (v := 4) (by decide) ?_
  refine N_ge_f dX4_init_90 112 (by decide) (by decide) ?_
  refine N_aload dX4_init_93 (i := 0) rfl rfl ?_
  refine N_get (q0 := 0) fX4_39 rfl rfl dX4_init_94 ?_
  refine N_iload dX4_init_97 (i := 1) (x := 1) rfl rfl ?_
  refine N_make new_X1 cf1 ki1 (tb_1 131 (by decide +kernel)) (Or.inr fun _ h => h.2.2.1) (by decide) (by decide) (by decide) (by decide) (Nat.le_of_ble_eq_true rfl) dX4_init_98 dX4_init_101 dX4_init_102 (fun b1 N1 g1 u1 => ?_)
  refine N_ws (ws2 := (h0, (.inr (4, [.ref (a1 0), .ref (a2 0), .ref (a3 0), .ref (a4 0), .int 0, .ref (a5 0), .ref (a5 1), .ref qs, .ref qt]) : va_E)) :: (P ++ ((qs, SAe cts (va_up (fun _ => none) (0 : Int32).toNatClampNeg (some (b0 0)))) :: ((qt, TAe cts) :: (wld cts b0 N0 shS ++ wld cts b1 N1 shS))))) (by simp only [List.append_assoc, List.cons_append, List.nil_append]) ?_
  refine N_astq (t0 := 2) (N := 4) (ci := 1) (r := (RX1, TX1, 3)) (vs := [.int (N1 0 0), .int (N1 0 1), .ref (b1 1)]) 59 (59 + 4) (at59 hP5) (fun _ => rfl) (atK hP5 rfl) rfl (by unfold vp_in; decide) dX4_init_105 (ws2 := (h0, (.inr (4, [.ref (a1 0), .ref (a2 0), .ref (a3 0), .ref (a4 0), .int 0, .ref (a5 0), .ref (a5 1), .ref qs, .ref qt]) : va_E)) :: (P ++ ((qs, SAe cts (va_up (va_up (fun _ => none) (0 : Int32).toNatClampNeg (some (b0 0))) (1 : Int32).toNatClampNeg (some (b1 0)))) :: ((qt, TAe cts) :: (wld cts b0 N0 shS ++ wld cts b1 N1 shS))))) (set59 hP5) ?_
  refine N_iinc dX4_init_106 (i := 1) (x := 1) (v := 2) (by decide) rfl (by decide) ?_
  refine N_goto dX4_init_109 (tgt := 88) (by decide) ?_
  refine N_iload dX4_init_88 (i := 1) (x := 2) rfl rfl ?_
  refine N_iconst dX4_init_89 (v := 4) (by decide) ?_
  refine N_ge_f dX4_init_90 112 (by decide) (by decide) ?_
  refine N_aload dX4_init_93 (i := 0) rfl rfl ?_
  refine N_get (q0 := 0) fX4_39 rfl rfl dX4_init_94 ?_
  refine N_iload dX4_init_97 (i := 1) (x := 2) rfl rfl ?_
  refine N_make new_X1 cf1 ki1 (tb_1 131 (by decide +kernel)) (Or.inr fun _ h => h.2.2.1) (by decide) (by decide) (by decide) (by decide) (Nat.le_of_ble_eq_true rfl) dX4_init_98 dX4_init_101 dX4_init_102 (fun b2 N2 g2 u2 => ?_)
  refine N_ws (ws2 := (h0, (.inr (4, [.ref (a1 0), .ref (a2 0), .ref (a3 0), .ref (a4 0), .int 0, .ref (a5 0), .ref (a5 1), .ref qs, .ref qt]) : va_E)) :: (P ++ ((qs, SAe cts (va_up (va_up (fun _ => none) (0 : Int32).toNatClampNeg (some (b0 0))) (1 : Int32).toNatClampNeg (some (b1 0)))) :: ((qt, TAe cts) :: (wld cts b0 N0 shS ++ (wld cts b1 N1 shS ++ wld cts b2 N2 shS)))))) (by simp only [List.append_assoc, List.cons_append, List.nil_append]) ?_
  refine N_astq (t0 := 2) (N := 4) (ci := 1) (r := (RX1, TX1, 3)) (vs := [.int (N2 0 0), .int (N2 0 1), .ref (b2 1)]) 59 (59 + 6) (at59 hP5) (fun _ => rfl) (atK hP5 rfl) rfl (by unfold vp_in; decide) dX4_init_105 (ws2 := (h0, (.inr (4, [.ref (a1 0), .ref (a2 0), .ref (a3 0), .ref (a4 0), .int 0, .ref (a5 0), .ref (a5 1), .ref qs, .ref qt]) : va_E)) :: (P ++ ((qs, SAe cts (va_up (va_up (va_up (fun _ => none) (0 : Int32).toNatClampNeg (some (b0 0))) (1 : Int32).toNatClampNeg (some (b1 0))) (2 : Int32).toNatClampNeg (some (b2 0)))) :: ((qt, TAe cts) :: (wld cts b0 N0 shS ++ (wld cts b1 N1 shS ++ wld cts b2 N2 shS)))))) (set59 hP5) ?_
  refine N_iinc dX4_init_106 (i := 1) (x := 2) (v := 3) (by decide) rfl (by decide) ?_
  refine N_goto dX4_init_109 (tgt := 88) (by decide) ?_
  refine N_iload dX4_init_88 (i := 1) (x := 3) rfl rfl ?_
  refine N_iconst dX4_init_89 (v := 4) (by decide) ?_
  refine N_ge_f dX4_init_90 112 (by decide) (by decide) ?_
  refine N_aload dX4_init_93 (i := 0) rfl rfl ?_
  refine N_get (q0 := 0) fX4_39 rfl rfl dX4_init_94 ?_
  refine N_iload dX4_init_97 (i := 1) (x := 3) rfl rfl ?_
  refine N_make new_X1 cf1 ki1 (tb_1 131 (by decide +kernel)) (Or.inr fun _ h => h.2.2.1) (by decide) (by decide) (by decide) (by decide) (Nat.le_of_ble_eq_true rfl) dX4_init_98 dX4_init_101 dX4_init_102 (fun b3 N3 g3 u3 => ?_)
  refine N_ws (ws2 := (h0, (.inr (4, [.ref (a1 0), .ref (a2 0), .ref (a3 0), .ref (a4 0), .int 0, .ref (a5 0), .ref (a5 1), .ref qs, .ref qt]) : va_E)) :: (P ++ ((qs, SAe cts (va_up (va_up (va_up (fun _ => none) (0 : Int32).toNatClampNeg (some (b0 0))) (1 : Int32).toNatClampNeg (some (b1 0))) (2 : Int32).toNatClampNeg (some (b2 0)))) :: ((qt, TAe cts) :: (wld cts b0 N0 shS ++ (wld cts b1 N1 shS ++ (wld cts b2 N2 shS ++ wld cts b3 N3 shS))))))) (by simp only [List.append_assoc, List.cons_append, List.nil_append]) ?_
  refine N_astq (t0 := 2) (N := 4) (ci := 1) (r := (RX1, TX1, 3)) (vs := [.int (N3 0 0), .int (N3 0 1), .ref (b3 1)]) 59 (59 + 8) (at59 hP5) (fun _ => rfl) (atK hP5 rfl) rfl (by unfold vp_in; decide) dX4_init_105 (ws2 := (h0, (.inr (4, [.ref (a1 0), .ref (a2 0), .ref (a3 0), .ref (a4 0), .int 0, .ref (a5 0), .ref (a5 1), .ref qs, .ref qt]) : va_E)) :: (P ++ ((qs, SAe cts (va_up (va_up (va_up (va_up (fun _ => none) (0 : Int32).toNatClampNeg (some (b0 0))) (1 : Int32).toNatClampNeg (some (b1 0))) (2 : Int32).toNatClampNeg (some (b2 0))) (3 : Int32).toNatClampNeg (some (b3 0)))) :: ((qt, TAe cts) :: (wld cts b0 N0 shS ++ (wld cts b1 N1 shS ++ (wld cts b2 N2 shS ++ wld cts b3 N3 shS))))))) (set59 hP5) ?_
  refine N_iinc dX4_init_106 (i := 1) (x := 3) (v := 4) (by decide) rfl (by decide) ?_
  refine N_goto dX4_init_109 (tgt := 88) (by decide) ?_
  refine N_iload dX4_init_88 (i := 1) (x := 4) rfl rfl ?_
  refine N_iconst dX4_init_89 (v := 4) (by decide) ?_
  refine N_ge_t dX4_init_90 (tgt := 112) (by decide) (by decide) ?_
  obtain ⟨F, eF⟩ : ∃ F, F = (va_up (va_up (va_up (va_up (fun _ => none) (0 : Int32).toNatClampNeg (some (b0 0))) (1 : Int32).toNatClampNeg (some (b1 0))) (2 : Int32).toNatClampNeg (some (b2 0))) (3 : Int32).toNatClampNeg (some (b3 0))) := ⟨_, rfl⟩
  rw [← eF]
  have eF2 : F = fun k => (([61, 63, 65, 67] : List Nat)[k]?).map (adL [h0, a1 0, a1 1, a1 2, a1 3, a1 4, a1 5, a1 6, a1 7, a1 8, a1 9, a1 10, a2 0, a2 1, a2 2, a2 3, a2 4, a2 5, a2 6, a2 7, a2 8, a2 9, a2 10, a3 0, a3 1, a3 2, a3 3, a3 4, a3 5, a3 6, a3 7, a3 8, a3 9, a3 10, a4 0, a4 1, a4 2, a4 3, a4 4, a4 5, a4 6, a4 7, a4 8, a4 9, a4 10, a5 0, a5 1, a5 2, a5 3, a5 4, a5 5, a5 6, a5 7, a5 8, a5 9, a5 10, a5 11, a5 12, a5 13, qs, qt, b0 0, b0 1, b1 0, b1 1, b2 0, b2 1, b3 0, b3 1] ad0) := by
    rw [eF]
    funext k
    rcases k with _ | _ | _ | _ | k <;> rfl
  rw [eF2, eP]
  refine N_ret dX4_init_112 rfl (by decide) (by decide) (IW_of (adL [h0, a1 0, a1 1, a1 2, a1 3, a1 4, a1 5, a1 6, a1 7, a1 8, a1 9, a1 10, a2 0, a2 1, a2 2, a2 3, a2 4, a2 5, a2 6, a2 7, a2 8, a2 9, a2 10, a3 0, a3 1, a3 2, a3 3, a3 4, a3 5, a3 6, a3 7, a3 8, a3 9, a3 10, a4 0, a4 1, a4 2, a4 3, a4 4, a4 5, a4 6, a4 7, a4 8, a4 9, a4 10, a5 0, a5 1, a5 2, a5 3, a5 4, a5 5, a5 6, a5 7, a5 8, a5 9, a5 10, a5 11, a5 12, a5 13, qs, qt, b0 0, b0 1, b1 0, b1 1, b2 0, b2 1, b3 0, b3 1] ad0) (mL [fun _ => 0, M1 0, M1 1, M1 2, M1 3, M1 4, M1 5, M1 6, M1 7, M1 8, M1 9, M1 10, M2 0, M2 1, M2 2, M2 3, M2 4, M2 5, M2 6, M2 7, M2 8, M2 9, M2 10, M3 0, M3 1, M3 2, M3 3, M3 4, M3 5, M3 6, M3 7, M3 8, M3 9, M3 10, M4 0, M4 1, M4 2, M4 3, M4 4, M4 5, M4 6, M4 7, M4 8, M4 9, M4 10, M5 0, M5 1, M5 2, M5 3, M5 4, M5 5, M5 6, M5 7, M5 8, M5 9, M5 10, M5 11, M5 12, M5 13, fun _ => 0, fun _ => 0, N0 0, N0 1, N1 0, N1 1, N2 0, N2 1, N3 0, N3 1]) (by simp only [wld_eq]; rfl) (fun j hj => adL_far (by show 69 ≤ j; omega)) rfl ?_ (by decide))
  have j11 : ∀ j : Nat, j < 11 → j = 0 ∨ j = 1 ∨ j = 2 ∨ j = 3 ∨ j = 4 ∨ j = 5 ∨ j = 6 ∨ j = 7 ∨ j = 8 ∨ j = 9 ∨ j = 10 := fun j hj => by omega
  exact ⟨pmh_congr (fun j hj => by rcases j11 j hj with rfl | rfl | rfl | rfl | rfl | rfl | rfl | rfl | rfl | rfl | rfl <;> rfl) h1, pmh_congr (fun j hj => by rcases j11 j hj with rfl | rfl | rfl | rfl | rfl | rfl | rfl | rfl | rfl | rfl | rfl <;> rfl) h4, rfl, fun _ => rfl, h5.2, h5.1, fun s hs => by
    have h : s = 0 ∨ s = 1 ∨ s = 2 ∨ s = 3 := by omega
    rcases h with rfl | rfl | rfl | rfl
    · exact ⟨g0 0 (by decide) 0, g0 0 (by decide) 1, g0 1 (by decide)⟩
    · exact ⟨g1 0 (by decide) 0, g1 0 (by decide) 1, g1 1 (by decide)⟩
    · exact ⟨g2 0 (by decide) 0, g2 0 (by decide) 1, g2 1 (by decide)⟩
    · exact ⟨g3 0 (by decide) 0, g3 0 (by decide) 1, g3 1 (by decide)⟩⟩
