def bestOK (F : Nat → Int32) (v : Nat) (s t : Int32) : Prop := t = (bestN F v).2 ∧ (v = 0 ∨ s = (bestN F v).1)
theorem best_le {F : Nat → Int32} {v : Nat} {s t : Int32} (hF : -1 < F v) (h : bestOK F v s t) (hc : F v ≤ t) : bestOK F (v + 1) s (maxI t (F v)) := by
  obtain ⟨rfl, h2⟩ := h
  have hn : ¬ (bestN F v).2 < F v := Int32.not_lt.mpr hc
  have e : bestN F (v + 1) = if (bestN F v).2 < F v then (nI v, F v) else bestN F v := rfl
  rw [if_neg hn] at e
  refine ⟨by rw [e]; exact if_neg hn, Or.inr ?_⟩
  rcases h2 with rfl | h2
  · exact absurd hF hn
  · rw [e]; exact h2
theorem best_gt {F : Nat → Int32} {v : Nat} {s t : Int32} (h : bestOK F v s t) (hc : ¬ F v ≤ t) : bestOK F (v + 1) (nI v) (maxI t (F v)) := by
  obtain ⟨rfl, h2⟩ := h
  have hn : (bestN F v).2 < F v := Int32.not_le.mp hc
  have e : bestN F (v + 1) = if (bestN F v).2 < F v then (nI v, F v) else bestN F v := rfl
  rw [if_pos hn] at e
  exact ⟨by rw [e]; exact if_pos hn, Or.inr (by rw [e])⟩
set_option maxRecDepth 20000 in
theorem c_X5_bestOf {M : Mem} {n k q w m : Nat} {F : Nat → Int32} (hn : M 1 2 = nI n) (hn8 : n ≤ 8) (hk : k ≤ 1000) (hq : q < n) (hw9 : w < 9) (hm : 0 < m) (hm2 : m ≤ 1000) (hF : ∀ v, v < m → F v = hoursH n k (ups (toH (M 1)) (1 + w) q (nI v)) 2 q) (hJ : ∀ v, v < m → HJ (ups (toH (M 1)) (1 + w) q (nI v)) n) (ho : 0 ≤ (toH (M 1) 0 1).toInt) {Q : Option Value → Mem → Prop} (hQ : ∀ M2 : Mem, toH (M2 1) = toH (M 1) → (∀ c, c ≠ 1 → c ≠ 3 → c ≠ 7 → c ≠ 9 → M2 c = M c) → Q (some (.int (bestN F m).1)) M2) : CT mX5_bestOf shR 7 [.ref 0, .int (nI q), .int (nI w), .int (nI m), .int (nI k)] M Q := by
  refine CT.mk [some (.ref 0), some (.int (nI q)), some (.int (nI w)), some (.int (nI m)), some (.int (nI k)), none, none, none] (by decide) (Nat.le_of_ble_eq_true rfl) rfl rfl ?_
  refine G_aload_n (K := mX5_bestOf) (i := 0) dX5_bestOf_0 rfl rfl ?_
  refine G_getr (K := mX5_bestOf) fX5_9 dX5_bestOf_1 rfl rfl ?_
  refine G_aload_n (K := mX5_bestOf) (i := 0) dX5_bestOf_4 rfl rfl ?_
  refine G_getr (K := mX5_bestOf) fX5_16 dX5_bestOf_5 rfl rfl ?_
  refine G_sn (K := mX5_bestOf) (c_X5_copyRow (a := 1) (b := 3) rfl rfl (by decide) ⟨rfl, rfl⟩) sX5_copyRow rfl lX5_93 dX5_bestOf_8 (by decide) rfl (Nat.le_of_ble_eq_true rfl) ?_
  refine G_iconst (K := mX5_bestOf) (v := -1) dX5_bestOf_11 (by decide) ?_
  refine G_istore (K := mX5_bestOf) dX5_bestOf_12 (by decide) ?_
  refine G_iconst (K := mX5_bestOf) (v := -1) dX5_bestOf_14 (by decide) ?_
  refine G_istore (K := mX5_bestOf) dX5_bestOf_15 (by decide) ?_
  refine G_iconst (K := mX5_bestOf) (v := 0) dX5_bestOf_17 (by decide) ?_
  refine G_istore (K := mX5_bestOf) dX5_bestOf_18 (by decide) ?_
  have loop20 : ∀ v, v ≤ m → ∀ M3 : Mem, toH (M3 1) = toH (M 1) → toH (M3 3) = toH (M 1) → (∀ c, c ≠ 1 → c ≠ 3 → c ≠ 7 → c ≠ 9 → M3 c = M c) → ∀ s t, bestOK F v s t → G mX5_bestOf shR 7 Q 20 [some (.ref 0), some (.int (nI q)), some (.int (nI w)), some (.int (nI m)), some (.int (nI k)), some (.int s), some (.int t), some (.int (nI v))] [] M3 := by
    refine upto m (fun v hv ih => ?_)
    intro M3 h31 h33 h3c s t hst
    refine G_iload (K := mX5_bestOf) dX5_bestOf_20 rfl ?_
    refine G_iload_n (K := mX5_bestOf) (i := 3) dX5_bestOf_22 rfl rfl ?_
    refine G_icmp_ge (K := mX5_bestOf) (tgt := 83) dX5_bestOf_23 (by decide) (fun c23 => ?_) (fun c23 => ?_)
    · skip
      rw [le_nn (by omega) (by omega)] at c23
      have hvm : v = m := by omega
      subst hvm
      refine G_iload (K := mX5_bestOf) dX5_bestOf_83 rfl ?_
      exact G_irm (K := mX5_bestOf) dX5_bestOf_85 rfl (hst.2.elim (fun h => absurd h (by omega)) id) rfl (hQ M3 h31 h3c)
    · skip
      rw [le_nn (by omega) (by omega)] at c23
      refine G_aload_n (K := mX5_bestOf) (i := 0) dX5_bestOf_26 rfl rfl ?_
      refine G_getr (K := mX5_bestOf) fX5_9 dX5_bestOf_27 rfl rfl ?_
      refine G_iload_n (K := mX5_bestOf) (i := 1) dX5_bestOf_30 rfl rfl ?_
      refine G_iload_n (K := mX5_bestOf) (i := 2) dX5_bestOf_31 rfl rfl ?_
      refine G_sv (K := mX5_bestOf) (c_X5_at (i := q) (f := w) (by omega) (by omega) ⟨rfl, rfl⟩) sX5_at rfl lX5_101 dX5_bestOf_32 (by decide) rfl (Nat.le_of_ble_eq_true rfl) ?_
      refine G_iload (K := mX5_bestOf) dX5_bestOf_35 rfl ?_
      refine G_sto (K := mX5_bestOf) (14 + 9 * q + w) dX5_bestOf_37 rfl rfl (by omega) (by decide) ?_
      refine G_aload_n (K := mX5_bestOf) (i := 0) dX5_bestOf_38 rfl rfl ?_
      refine G_iload (K := mX5_bestOf) dX5_bestOf_39 rfl ?_
      have eT : toH ((ups M3 1 (14 + 9 * q + w) (nI v)) 1) = ups (toH (M 1)) (1 + w) q (nI v) := by rw [toH_ups hw9 (by omega), h31]
      have hnW : (ups M3 1 (14 + 9 * q + w) (nI v)) 1 2 = nI n := by rw [ups_ne (by omega), ← toH_n (M3 1), h31]; exact hn
      have hJW : HJ (toH ((ups M3 1 (14 + 9 * q + w) (nI v)) 1)) n := by rw [eT]; exact hJ v (by omega)
      have hoW : 0 ≤ (toH ((ups M3 1 (14 + 9 * q + w) (nI v)) 1) 0 1).toInt := by rw [eT, ups_cell (by omega)]; exact ho
      refine G_call0 (K := mX5_bestOf) (Q' := fun u Mz => u = none ∧ toH (Mz 1) = toH ((ups M3 1 (14 + 9 * q + w) (nI v)) 3) ∧ (∀ r, r < n → Mz 9 r = hoursH n k (toH ((ups M3 1 (14 + 9 * q + w) (nI v)) 1)) 2 r) ∧ ∀ c, c ≠ 1 → c ≠ 7 → c ≠ 9 → Mz c = (ups M3 1 (14 + 9 * q + w) (nI v)) c) (c_X5_live (M := (ups M3 1 (14 + 9 * q + w) (nI v))) (n := n) (k := k) hnW hn8 hk hJW hoW (fun Mz h1 h2 h3 => ⟨rfl, h1, h2, h3⟩)) vX5_live rfl lX5_194 ⟨_, _, _, rfl, rfl, rfl⟩ (by decide) (Nat.le_of_ble_eq_true rfl) dX5_bestOf_41 rfl ?_
      rintro z M4 ⟨rfl, h41, h42, h43⟩
      rw [ups_cell (by decide), h33] at h41
      have e4 : M4 9 q = F v := by rw [h42 q hq, eT, hF v (by omega)]
      have f4 : -1 < F v := by
        have h := ((hJ v (by omega)).hours hn8 (by rw [ups_cell (by omega)]; exact ho) k q hq).1
        rw [← hF v (by omega)] at h
        unfold rg at h
        rw [i32_lt]
        show (-1 : Int) < _
        omega
      refine G_aload_n (K := mX5_bestOf) (i := 0) dX5_bestOf_44 rfl rfl ?_
      refine G_getr (K := mX5_bestOf) fX5_34 dX5_bestOf_45 rfl rfl ?_
      refine G_iload_n (K := mX5_bestOf) (i := 1) dX5_bestOf_48 rfl rfl ?_
      refine G_ld (K := mX5_bestOf) q dX5_bestOf_49 rfl rfl (by omega) (by decide) ?_
      refine G_iload (K := mX5_bestOf) dX5_bestOf_50 rfl ?_
      rw [e4]
      refine G_icmp_le (K := mX5_bestOf) (tgt := 60) dX5_bestOf_52 (by decide) (fun c52 => ?_) (fun c52 => ?_)
      · skip
        refine G_iload (K := mX5_bestOf) dX5_bestOf_60 rfl ?_
        refine G_istore (K := mX5_bestOf) dX5_bestOf_62 (by decide) ?_
        refine G_iload (K := mX5_bestOf) dX5_bestOf_64 rfl ?_
        refine G_aload_n (K := mX5_bestOf) (i := 0) dX5_bestOf_66 rfl rfl ?_
        refine G_getr (K := mX5_bestOf) fX5_34 dX5_bestOf_67 rfl rfl ?_
        refine G_iload_n (K := mX5_bestOf) (i := 1) dX5_bestOf_70 rfl rfl ?_
        refine G_ld (K := mX5_bestOf) q dX5_bestOf_71 rfl rfl (by omega) (by decide) ?_
        refine G_max (K := mX5_bestOf) qX5_153 dX5_bestOf_72 (by decide) (Nat.le_of_ble_eq_true rfl) ?_
        refine G_istore (K := mX5_bestOf) dX5_bestOf_75 (by decide) ?_
        refine G_iincN (K := mX5_bestOf) dX5_bestOf_77 (by decide) rfl ?_
        refine G_goto (K := mX5_bestOf) (tgt := 20) dX5_bestOf_80 (by decide) ?_
        rw [e4]
        exact ih (v + 1) (by omega) (by omega) M4 h41 (by rw [h43 3 (by decide) (by decide) (by decide), ups_cell (by decide)]; exact h33) (fun c h1 h3 h7 h9 => by rw [h43 c h1 h7 h9, ups_cell h1]; exact h3c c h1 h3 h7 h9) _ _ (by first | exact best_le f4 hst c52 | exact best_gt hst c52)
      · skip
        refine G_iload (K := mX5_bestOf) dX5_bestOf_55 rfl ?_
        refine G_goto (K := mX5_bestOf) (tgt := 62) dX5_bestOf_57 (by decide) ?_
        refine G_istore (K := mX5_bestOf) dX5_bestOf_62 (by decide) ?_
        refine G_iload (K := mX5_bestOf) dX5_bestOf_64 rfl ?_
        refine G_aload_n (K := mX5_bestOf) (i := 0) dX5_bestOf_66 rfl rfl ?_
        refine G_getr (K := mX5_bestOf) fX5_34 dX5_bestOf_67 rfl rfl ?_
        refine G_iload_n (K := mX5_bestOf) (i := 1) dX5_bestOf_70 rfl rfl ?_
        refine G_ld (K := mX5_bestOf) q dX5_bestOf_71 rfl rfl (by omega) (by decide) ?_
        refine G_max (K := mX5_bestOf) qX5_153 dX5_bestOf_72 (by decide) (Nat.le_of_ble_eq_true rfl) ?_
        refine G_istore (K := mX5_bestOf) dX5_bestOf_75 (by decide) ?_
        refine G_iincN (K := mX5_bestOf) dX5_bestOf_77 (by decide) rfl ?_
        refine G_goto (K := mX5_bestOf) (tgt := 20) dX5_bestOf_80 (by decide) ?_
        rw [e4]
        exact ih (v + 1) (by omega) (by omega) M4 h41 (by rw [h43 3 (by decide) (by decide) (by decide), ups_cell (by decide)]; exact h33) (fun c h1 h3 h7 h9 => by rw [h43 c h1 h7 h9, ups_cell h1]; exact h3c c h1 h3 h7 h9) _ _ (by first | exact best_le f4 hst c52 | exact best_gt hst c52)
  exact loop20 0 (by omega) _ (by rw [cpyM_c (by decide)]) toH_cpy (fun c h1 h3 _ _ => cpyM_c h3) _ _ ⟨rfl, Or.inl rfl⟩
