theorem hoursSum_rg {h : Mem} {n : Nat} (H : HJ h n) (hn : n ≤ 8) (ho : 0 ≤ (h 0 1).toInt) : ∀ k : Nat, k ≤ 1000 → rg (hoursSum n k h) 0 (24 * k)
  | 0, _ => ⟨Int.le_refl _, by show (0 : Int) ≤ 24 * 0; omega⟩
  | k + 1, hk => by
    have h1 := hoursSum_rg H hn ho k (by omega)
    have h2 := sumN_rg (m := 3) (f := stokeH (hoursH n k h)) n hn (by omega) (by omega) (fun i hi => (stokeH_rg (H.hours hn ho k) hi).1)
    unfold rg at h1 h2 ⊢
    have h3 : rg (stSum (hoursH n k h) n) 0 24 := ⟨h2.1, by have := h2.2; unfold stSum; omega⟩
    unfold rg at h3
    show 0 ≤ (hoursSum n k h + stSum (hoursH n k h) n).toInt ∧ _
    have e : (hoursSum n (k + 1) h) = hoursSum n k h + stSum (hoursH n k h) n := rfl
    rw [e, add_I (by omega) (by omega)]
    omega
set_option maxRecDepth 20000 in
theorem c_X5_live {M : Mem} {n k : Nat} (hn : M 1 2 = nI n) (hn8 : n ≤ 8) (hk : k ≤ 1000) (hJ : HJ (toH (M 1)) n) (ho : 0 ≤ (toH (M 1) 0 1).toInt) {Q : Option Value → Mem → Prop} (hQ : ∀ M2 : Mem, toH (M2 1) = toH (M 3) → (∀ r, r < n → M2 9 r = hoursH n k (toH (M 1)) 2 r) → (∀ c, c ≠ 1 → c ≠ 7 → c ≠ 9 → M2 c = M c) → Q none M2) : CT mX5_live shR 5 [.ref 0, .int (nI k)] M Q := by
  refine CT.mk [some (.ref 0), some (.int (nI k)), none, none] (by decide) (Nat.le_of_ble_eq_true rfl) rfl rfl ?_
  refine G_aload_n (K := mX5_live) (i := 0) dX5_live_0 rfl rfl ?_
  refine G_iload_n (K := mX5_live) (i := 1) dX5_live_1 rfl rfl ?_
  refine G_call0 (K := mX5_live) (Q' := fun v Mz => v = some (.int (hoursSum n k (toH (M 1)))) ∧ toH (Mz 1) = hoursH n k (toH (M 1)) ∧ ∀ c, c ≠ 1 → c ≠ 7 → Mz c = M c) (c_X5_hoursGo hn hn8 (by omega) (fun i hi => by have h := (hJ i hi).2.2.1; unfold rg at h; rw [i32_lt]; show (0 : Int) < _; omega) (fun Mz h1 h2 => ⟨rfl, h1, h2⟩)) vX5_hoursGo rfl lX5_164 ⟨_, _, _, rfl, rfl, rfl⟩ (by decide) (Nat.le_of_ble_eq_true rfl) dX5_live_2 rfl ?_
  rintro v M2 ⟨rfl, h21, h22⟩
  have hs0 : ¬ hoursSum n k (toH (M 1)) < 0 := by
    have h := hoursSum_rg hJ hn8 ho k hk
    unfold rg at h
    rw [i32_lt]
    exact Int.not_lt.mpr h.1
  refine G_istore_n (K := mX5_live) (i := 2) dX5_live_5 rfl (by decide) ?_
  refine G_iconst (K := mX5_live) (v := 0) dX5_live_6 (by decide) ?_
  refine G_istore_n (K := mX5_live) (i := 3) dX5_live_7 rfl (by decide) ?_
  have loop8 : ∀ i, i ≤ n → ∀ M3 : Mem, (∀ c, c ≠ 9 → M3 c = M2 c) → (∀ r, r < i → M3 9 r = hoursH n k (toH (M 1)) 2 r) → G mX5_live shR 5 Q 8 [some (.ref 0), some (.int (nI k)), some (.int (hoursSum n k (toH (M 1)))), some (.int (nI i))] [] M3 := by
    refine upto n (fun i hi ih => ?_)
    intro M3 h3 h9
    have hT3 : toH (M3 1) = hoursH n k (toH (M 1)) := by rw [h3 1 (by decide)]; exact h21
    have hn3 : M3 1 2 = nI n := by rw [← toH_n (M3 1), hT3, hoursH_0]; exact hn
    refine G_iload_n (K := mX5_live) (i := 3) dX5_live_8 rfl rfl ?_
    refine G_aload_n (K := mX5_live) (i := 0) dX5_live_9 rfl rfl ?_
    refine G_getr (K := mX5_live) fX5_9 dX5_live_10 rfl rfl ?_
    refine G_iconst (K := mX5_live) (v := 2) dX5_live_13 (by decide) ?_
    refine G_ld (K := mX5_live) 2 dX5_live_14 rfl rfl (by omega) (by decide) ?_
    refine G_icmp_ge (K := mX5_live) (tgt := 44) dX5_live_15 (by decide) (fun c15 => ?_) (fun c15 => ?_)
    · skip
      rw [hn3, le_nn (by omega) (by omega)] at c15
      have hin : i = n := by omega
      refine G_aload_n (K := mX5_live) (i := 0) dX5_live_44 rfl rfl ?_
      refine G_getr (K := mX5_live) fX5_16 dX5_live_45 rfl rfl ?_
      refine G_aload_n (K := mX5_live) (i := 0) dX5_live_48 rfl rfl ?_
      refine G_getr (K := mX5_live) fX5_9 dX5_live_49 rfl rfl ?_
      refine G_sn (K := mX5_live) (c_X5_copyRow (a := 3) (b := 1) rfl rfl (by decide) ⟨rfl, rfl⟩) sX5_copyRow rfl lX5_93 dX5_live_52 (by decide) rfl (Nat.le_of_ble_eq_true rfl) ?_
      exact G_vrm (K := mX5_live) dX5_live_55 rfl rfl (hQ _ (toH_cpy.trans (by rw [h3 3 (by decide), h22 3 (by decide) (by decide)])) (fun r hr => by rw [cpyM_c (by decide)]; exact h9 r (by omega)) (fun c h1 h7 h9c => by rw [cpyM_c h1, h3 c h9c, h22 c h1 h7]))
    · skip
      rw [hn3, le_nn (by omega) (by omega)] at c15
      refine G_aload_n (K := mX5_live) (i := 0) dX5_live_18 rfl rfl ?_
      refine G_getr (K := mX5_live) fX5_34 dX5_live_19 rfl rfl ?_
      refine G_iload_n (K := mX5_live) (i := 3) dX5_live_22 rfl rfl ?_
      refine G_iload_n (K := mX5_live) (i := 2) dX5_live_23 rfl rfl ?_
      refine G_if_ge (K := mX5_live) (tgt := 31) dX5_live_24 (by decide) (fun c24 => ?_) (fun c24 => ?_)
      · skip
        refine G_aload_n (K := mX5_live) (i := 0) dX5_live_31 rfl rfl ?_
        refine G_iload_n (K := mX5_live) (i := 3) dX5_live_32 rfl rfl ?_
        refine G_iconst (K := mX5_live) (v := 1) dX5_live_33 (by decide) ?_
        refine G_cv (K := mX5_live) (c_X5_roomIs (M := M3) (i := i) (f := 1) (by omega) (by omega) ⟨rfl, rfl⟩) vX5_roomIs rfl lX5_120 dX5_live_34 ⟨_, _, _, rfl, rfl, rfl⟩ (by decide) rfl (Nat.le_of_ble_eq_true rfl) ?_
        refine G_sto (K := mX5_live) i dX5_live_37 rfl rfl (by omega) (by decide) ?_
        refine G_iincN (K := mX5_live) dX5_live_38 (by decide) rfl ?_
        refine G_goto (K := mX5_live) (tgt := 8) dX5_live_41 (by decide) ?_
        refine ih (i + 1) (by omega) (by omega) _ (fun c hc => (ups_cell hc).trans (h3 c hc)) (fun r hr => ?_)
        by_cases hri : r = i
        · subst hri; rw [ups_same, hT3]
        · rw [ups_ne (fun z => hri z.2)]; exact h9 r (by omega)
      · skip
        exact absurd (Int32.not_le.mp c24) hs0
  exact loop8 0 (by omega) M2 (fun _ _ => rfl) (fun r hr => absurd hr (by omega))
