set_option maxRecDepth 20000 in
theorem c_X5_leastFor {M σ : Mem} {n k q w o lo c : Nat} {p : Nat → Bool} (hR : RR M σ) (hn : M 1 2 = nI n) (hn8 : n ≤ 8) (hk : k ≤ 1000) (hq : q < n) (hon : o < n) (hw9 : w < 9) (hc : 0 < c) (hc2 : lo + c ≤ 1001) (hp : ∀ v, lo ≤ v → v < lo + c → p v = decide (60 ≤ hoursH n k (ups (toH (M 1)) (1 + w) q (nI v)) 2 o)) (hJ : ∀ v, lo ≤ v → v < lo + c → HJ (ups (toH (M 1)) (1 + w) q (nI v)) n) (ho : 0 ≤ (toH (M 1) 0 1).toInt) {Q : Option Value → Mem → Prop} (hQ : ∀ u' M', PostR (orNone σ (findF p lo c) nI) u' M' → Q u' M') : CT mX5_leastFor shR 7 [.ref 0, .int (nI q), .int (nI w), .int (nI lo), .int (nI (lo + c - 1)), .int (nI o), .int (nI k)] M Q := by
  refine CT.mk [some (.ref 0), some (.int (nI q)), some (.int (nI w)), some (.int (nI lo)), some (.int (nI (lo + c - 1))), some (.int (nI o)), some (.int (nI k)), none] (by decide) (Nat.le_of_ble_eq_true rfl) rfl rfl ?_
  refine G_aload_n (K := mX5_leastFor) (i := 0) dX5_leastFor_0 rfl rfl ?_
  refine G_getr (K := mX5_leastFor) fX5_9 dX5_leastFor_1 rfl rfl ?_
  refine G_aload_n (K := mX5_leastFor) (i := 0) dX5_leastFor_4 rfl rfl ?_
  refine G_getr (K := mX5_leastFor) fX5_16 dX5_leastFor_5 rfl rfl ?_
  refine G_sn (K := mX5_leastFor) (c_X5_copyRow (a := 1) (b := 3) rfl rfl (by decide) ⟨rfl, rfl⟩) sX5_copyRow rfl lX5_93 dX5_leastFor_8 (by decide) rfl (Nat.le_of_ble_eq_true rfl) ?_
  refine G_iload_n (K := mX5_leastFor) (i := 3) dX5_leastFor_11 rfl rfl ?_
  refine G_istore (K := mX5_leastFor) dX5_leastFor_12 (by decide) ?_
  have loop14 : ∀ v, v ≤ lo + c → lo ≤ v → ∀ M3 : Mem, toH (M3 1) = toH (M 1) → toH (M3 3) = toH (M 1) → (∀ z, z ≠ 1 → z ≠ 3 → z ≠ 7 → z ≠ 9 → M3 z = M z) → (∀ j, lo ≤ j → j < v → p j = false) → G mX5_leastFor shR 7 Q 14 [some (.ref 0), some (.int (nI q)), some (.int (nI w)), some (.int (nI lo)), some (.int (nI (lo + c - 1))), some (.int (nI o)), some (.int (nI k)), some (.int (nI v))] [] M3 := by
    refine upto (lo + c) (fun v hv ih => ?_)
    intro hv0 M3 h31 h33 h3c hno
    refine G_iload (K := mX5_leastFor) dX5_leastFor_14 rfl ?_
    refine G_iload (K := mX5_leastFor) dX5_leastFor_16 rfl ?_
    refine G_icmp_gt (K := mX5_leastFor) (tgt := 60) dX5_leastFor_18 (by decide) (fun c18 => ?_) (fun c18 => ?_)
    · skip
      have hv1 : v = lo + c := by
        have := (lt_nn (i := lo + c - 1) (n := v) (by omega) (by omega)).mp c18
        omega
      have hRT : RR M3 σ := hR.scr h31 (fun z hz => h3c z (by unfold solid at hz; omega) (by unfold solid at hz; omega) (by unfold solid at hz; omega) (by unfold solid at hz; omega)) (by rw [h3c 0 (by decide) (by decide) (by decide) (by decide)]) (by rw [h3c 0 (by decide) (by decide) (by decide) (by decide)])
      refine G_aload_n (K := mX5_leastFor) (i := 0) dX5_leastFor_60 rfl rfl ?_
      refine G_ldc (K := mX5_leastFor) dX5_leastFor_61 kX5_186 ?_
      refine G_call0 (K := mX5_leastFor) (Q' := PostR (tl σ 3)) (rf_finding hRT (k := 3) (by omega) (fun _ _ h => h)) vX5_finding rfl lX5_109 ⟨_, _, _, rfl, rfl, rfl⟩ (by decide) (Nat.le_of_ble_eq_true rfl) dX5_leastFor_63 rfl ?_
      rintro z M5 ⟨rfl, hR5⟩
      exact G_iret (st := []) (K := mX5_leastFor) dX5_leastFor_66 rfl (hQ _ _ (by rw [findF_none (fun z h1 h2 => hno z h1 (by omega))]; exact ⟨rfl, hR5⟩))
    · skip
      have hv1 : v < lo + c := by
        have h : ¬ lo + c - 1 < v := fun z => c18 ((lt_nn (i := lo + c - 1) (n := v) (by omega) (by omega)).mpr z)
        omega
      refine G_aload_n (K := mX5_leastFor) (i := 0) dX5_leastFor_21 rfl rfl ?_
      refine G_getr (K := mX5_leastFor) fX5_9 dX5_leastFor_22 rfl rfl ?_
      refine G_iload_n (K := mX5_leastFor) (i := 1) dX5_leastFor_25 rfl rfl ?_
      refine G_iload_n (K := mX5_leastFor) (i := 2) dX5_leastFor_26 rfl rfl ?_
      refine G_sv (K := mX5_leastFor) (c_X5_at (i := q) (f := w) (by omega) (by omega) ⟨rfl, rfl⟩) sX5_at rfl lX5_101 dX5_leastFor_27 (by decide) rfl (Nat.le_of_ble_eq_true rfl) ?_
      refine G_iload (K := mX5_leastFor) dX5_leastFor_30 rfl ?_
      refine G_sto (K := mX5_leastFor) (14 + 9 * q + w) dX5_leastFor_32 rfl rfl (by omega) (by decide) ?_
      refine G_aload_n (K := mX5_leastFor) (i := 0) dX5_leastFor_33 rfl rfl ?_
      refine G_iload (K := mX5_leastFor) dX5_leastFor_34 rfl ?_
      have eT : toH ((ups M3 1 (14 + 9 * q + w) (nI v)) 1) = ups (toH (M 1)) (1 + w) q (nI v) := by rw [toH_ups hw9 (by omega), h31]
      have hnW : (ups M3 1 (14 + 9 * q + w) (nI v)) 1 2 = nI n := by rw [ups_ne (by omega), ← toH_n (M3 1), h31]; exact hn
      have hJW : HJ (toH ((ups M3 1 (14 + 9 * q + w) (nI v)) 1)) n := by rw [eT]; exact hJ v (by omega) (by omega)
      have hoW : 0 ≤ (toH ((ups M3 1 (14 + 9 * q + w) (nI v)) 1) 0 1).toInt := by rw [eT, ups_cell (by omega)]; exact ho
      refine G_call0 (K := mX5_leastFor) (Q' := fun u Mz => u = none ∧ toH (Mz 1) = toH ((ups M3 1 (14 + 9 * q + w) (nI v)) 3) ∧ (∀ r, r < n → Mz 9 r = hoursH n k (toH ((ups M3 1 (14 + 9 * q + w) (nI v)) 1)) 2 r) ∧ ∀ c, c ≠ 1 → c ≠ 7 → c ≠ 9 → Mz c = (ups M3 1 (14 + 9 * q + w) (nI v)) c) (c_X5_live (M := (ups M3 1 (14 + 9 * q + w) (nI v))) (n := n) (k := k) hnW hn8 hk hJW hoW (fun Mz h1 h2 h3 => ⟨rfl, h1, h2, h3⟩)) vX5_live rfl lX5_194 ⟨_, _, _, rfl, rfl, rfl⟩ (by decide) (Nat.le_of_ble_eq_true rfl) dX5_leastFor_36 rfl ?_
      rintro z M4 ⟨rfl, h41, h42, h43⟩
      rw [ups_cell (by decide), h33] at h41
      have e4 : M4 9 o = hoursH n k (ups (toH (M 1)) (1 + w) q (nI v)) 2 o := by rw [h42 o hon, eT]
      have h4c : ∀ z, z ≠ 1 → z ≠ 3 → z ≠ 7 → z ≠ 9 → M4 z = M z := fun z h1 h3 h7 h9 => by rw [h43 z h1 h7 h9, ups_cell h1]; exact h3c z h1 h3 h7 h9
      have h43c : toH (M4 3) = toH (M 1) := by rw [h43 3 (by decide) (by decide) (by decide), ups_cell (by decide)]; exact h33
      have hR4 : RR M4 σ := hR.scr h41 (fun z hz => h4c z (by unfold solid at hz; omega) (by unfold solid at hz; omega) (by unfold solid at hz; omega) (by unfold solid at hz; omega)) (by rw [h4c 0 (by decide) (by decide) (by decide) (by decide)]) (by rw [h4c 0 (by decide) (by decide) (by decide) (by decide)])
      refine G_aload_n (K := mX5_leastFor) (i := 0) dX5_leastFor_39 rfl rfl ?_
      refine G_getr (K := mX5_leastFor) fX5_34 dX5_leastFor_40 rfl rfl ?_
      refine G_iload (K := mX5_leastFor) dX5_leastFor_43 rfl ?_
      refine G_ld (K := mX5_leastFor) o dX5_leastFor_45 rfl rfl (by omega) (by decide) ?_
      refine G_bipush (K := mX5_leastFor) (v := 60) dX5_leastFor_46 (by decide) ?_
      refine G_icmp_lt (K := mX5_leastFor) (tgt := 54) dX5_leastFor_48 (by decide) (fun c48 => ?_) (fun c48 => ?_)
      · skip
        rw [e4] at c48
        refine G_iincN (K := mX5_leastFor) dX5_leastFor_54 (by decide) rfl ?_
        refine G_goto (K := mX5_leastFor) (tgt := 14) dX5_leastFor_57 (by decide) ?_
        refine ih (v + 1) (by omega) (by omega) (by omega) M4 h41 h43c h4c (fun j h1 hj => ?_)
        by_cases hjv : j = v
        · subst hjv
          rw [hp j h1 hv1]
          exact decide_eq_false (Int32.not_le.mpr c48)
        · exact hno j h1 (by omega)
      · skip
        rw [e4] at c48
        refine G_iload (K := mX5_leastFor) dX5_leastFor_51 rfl ?_
        exact G_iret (st := []) (K := mX5_leastFor) dX5_leastFor_53 rfl (hQ _ _ (by rw [findF_some (i := lo) (j := v - lo) (by omega) (fun z h1 h2 => hno z h1 (by omega)) (by rw [show lo + (v - lo) = v by omega, hp v hv0 hv1]; exact decide_eq_true (Int32.not_lt.mp c48)), show lo + (v - lo) = v by omega]; exact ⟨rfl, hR4⟩))
  exact loop14 lo (by omega) (by omega) _ (by rw [cpyM_c (by decide)]) toH_cpy (fun z h1 h3 _ _ => cpyM_c h3) (fun j h1 hj => absurd hj (by omega))
