set_option maxRecDepth 20000 in
theorem rf_wall {M σ : Mem} {r a : Int32} (hR : RR M σ) (hI : Inv σ) {Q : Option Value → Mem → Prop} (hQ : ∀ u' M', PostR (opWall σ r a) u' M' → Q u' M') : CT mX5_wall shR 8 [.ref 0, .int r, .int a] M Q := by
  refine CT.mk [some (.ref 0), some (.int r), some (.int a), none] (by decide) (Nat.le_of_ble_eq_true rfl) rfl rfl ?_
  refine G_aload_n (K := mX5_wall) (i := 0) dX5_wall_0 rfl rfl ?_
  refine G_iload_n (K := mX5_wall) (i := 1) dX5_wall_1 rfl rfl ?_
  refine G_iload_n (K := mX5_wall) (i := 2) dX5_wall_2 rfl rfl ?_
  refine G_cv (K := mX5_wall) (rf_refuses (r := r) (a := a) hR hI ⟨rfl, rfl⟩) vX5_refuses rfl lX5_198 dX5_wall_3 ⟨_, _, _, rfl, rfl, rfl⟩ (by decide) rfl (Nat.le_of_ble_eq_true rfl) ?_
  refine G_istore_n (K := mX5_wall) (i := 3) dX5_wall_6 rfl (by decide) ?_
  refine G_iload_n (K := mX5_wall) (i := 3) dX5_wall_7 rfl rfl ?_
  refine G_if_eq (K := mX5_wall) (tgt := 19) dX5_wall_8 (by decide) (fun c8 => ?_) (fun c8 => ?_)
  · skip
    obtain ⟨q, k, hq, rfl, hk1, hk2, rfl, hH⟩ := refR_0 hI c8
    have hn8 := hI.n8
    have hk60 : k ≤ 60 := refH_60 (m := 60) hk2 (by omega) hH
    refine G_aload_n (K := mX5_wall) (i := 0) dX5_wall_19 rfl rfl ?_
    refine G_iload_n (K := mX5_wall) (i := 1) dX5_wall_20 rfl rfl ?_
    refine G_iconst (K := mX5_wall) (v := 3) dX5_wall_21 (by decide) ?_
    refine G_iconst (K := mX5_wall) (v := 1) dX5_wall_22 (by decide) ?_
    refine G_bipush (K := mX5_wall) (v := 20) dX5_wall_23 (by decide) ?_
    refine G_iload_n (K := mX5_wall) (i := 1) dX5_wall_25 rfl rfl ?_
    refine G_iload_n (K := mX5_wall) (i := 2) dX5_wall_26 rfl rfl ?_
    refine G_call0 (K := mX5_wall) (as := [.int (nI q), .int (nI 3), .int (nI 1), .int (nI (1 + 20 - 1)), .int (nI q), .int (nI k)]) (r := 0) (Q' := PostR (orNone σ (findF (fun v => decide (60 ≤ wH σ k 3 q (nI v) 2 q)) 1 20) nI)) (c_X5_leastFor (n := nOf σ) (k := k) (q := q) (w := 3) (o := q) (lo := 1) (c := 20) hR (hR.n hI) hn8 (by omega) hq hq (by omega) (by omega) (by omega) (fun v h1 h2 => by rw [hR.wH (by omega) hq]) (fun v h1 h2 => (hR.hj hI).up (by omega) (by omega) (fun _ => by unfold rg; rw [nI_toI (by omega)]; omega) (by omega) (by omega) (by omega)) (hR.ho hI) (fun _ _ h => h)) vX5_leastFor rfl lX5_234 ⟨_, _, _, rfl, rfl, rfl⟩ (by decide) (Nat.le_of_ble_eq_true rfl) dX5_wall_27 rfl ?_
    rintro v M1 ⟨rfl, hR1⟩
    exact G_iret (st := []) (K := mX5_wall) dX5_wall_30 rfl (hQ _ _ (by rw [show opWall σ (nI q) (nI k) = orNone σ (findF (fun v => decide (60 ≤ wH σ (cut (nI k)) 3 (cut (nI q)) (nI v) 2 (cut (nI q)))) 1 20) nI from if_pos c8, cut_nI hk2, cut_nI (by omega)]; exact ⟨rfl, hR1⟩))
  · skip
    refine G_aload_n (K := mX5_wall) (i := 0) dX5_wall_11 rfl rfl ?_
    refine G_iload_n (K := mX5_wall) (i := 3) dX5_wall_12 rfl rfl ?_
    obtain ⟨q, hq, eq⟩ := refR_fin c8
    rw [eq]
    refine G_call0 (K := mX5_wall) (Q' := PostR (tl σ q)) (rf_finding hR (k := q) (by omega) (fun _ _ h => h)) vX5_finding rfl lX5_109 ⟨_, _, _, rfl, rfl, rfl⟩ (by decide) (Nat.le_of_ble_eq_true rfl) dX5_wall_13 rfl ?_
    rintro v M1 ⟨rfl, hR1⟩
    refine G_goto (K := mX5_wall) (tgt := 30) dX5_wall_16 (by decide) ?_
    exact G_iret (st := []) (K := mX5_wall) dX5_wall_30 rfl (hQ _ _ (by rw [show opWall σ r a = _ from (by unfold opWall; exact (if_neg c8).trans ((congrArg (tlI σ) eq).trans (tlI_fin hq)))]; exact ⟨rfl, hR1⟩))
