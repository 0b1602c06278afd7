/-! a house's own reads -/
def hasI (M : Mem) (r : Int32) : Int32 := if r < 0 then 0 else if M 0 0 ≤ r then 0 else 1
def sumN (f : Nat → Int32) : Nat → Int32
  | 0 => 0
  | n + 1 => sumN f n + f n
set_option maxRecDepth 20000 in
theorem c_X0_has {M : Mem} {r : Int32} {Q : Option Value → Mem → Prop} (hQ : Q (some (.int (hasI M r))) M) : CT mX0_has shH 0 [.ref 0, .int r] M Q := by
  refine CT.mk [some (.ref 0), some (.int r)] (by decide) (Nat.le_of_ble_eq_true rfl) rfl rfl ?_
  refine G_iload_n (K := mX0_has) (i := 1) dX0_has_0 rfl rfl ?_
  refine G_if_lt (K := mX0_has) (tgt := 16) dX0_has_1 (by decide) (fun c1 => ?_) (fun c1 => ?_)
  · skip
    refine G_iconst (K := mX0_has) (v := 0) dX0_has_16 (by decide) ?_
    exact G_zrm (K := mX0_has) dX0_has_17 rfl rfl (by simp [hasI, *]) (by rfl) hQ
  · skip
    refine G_iload_n (K := mX0_has) (i := 1) dX0_has_4 rfl rfl ?_
    refine G_aload_n (K := mX0_has) (i := 0) dX0_has_5 rfl rfl ?_
    refine G_geti (K := mX0_has) fX0_55 dX0_has_6 rfl rfl ?_
    refine G_icmp_ge (K := mX0_has) (tgt := 16) dX0_has_9 (by decide) (fun c9 => ?_) (fun c9 => ?_)
    · skip
      refine G_iconst (K := mX0_has) (v := 0) dX0_has_16 (by decide) ?_
      exact G_zrm (K := mX0_has) dX0_has_17 rfl rfl (by simp [hasI, *]) (by rfl) hQ
    · skip
      refine G_iconst (K := mX0_has) (v := 1) dX0_has_12 (by decide) ?_
      refine G_goto (K := mX0_has) (tgt := 17) dX0_has_13 (by decide) ?_
      exact G_zrm (K := mX0_has) dX0_has_17 rfl rfl (by simp [hasI, *]) (by rfl) hQ

set_option maxRecDepth 20000 in
theorem c_X0_sumOf {M : Mem} {n c : Nat} (hn : M 0 0 = nI n) (hn8 : n ≤ 8) (hc1 : 1 ≤ c) (hc2 : c < 10) {Q : Option Value → Mem → Prop} (hQ : Q (some (.int (sumN (M c) n))) M) : CT mX0_sumOf shH 0 [.ref 0, .ref c] M Q := by
  refine CT.mk [some (.ref 0), some (.ref c), none, none] (by decide) (Nat.le_of_ble_eq_true rfl) rfl rfl ?_
  have hs : shH[c]? = some (.inr (.inl 8)) := by
    have h : c = 1 ∨ c = 2 ∨ c = 3 ∨ c = 4 ∨ c = 5 ∨ c = 6 ∨ c = 7 ∨ c = 8 ∨ c = 9 := by omega
    rcases h with rfl | rfl | rfl | rfl | rfl | rfl | rfl | rfl | rfl <;> rfl
  refine G_iconst (K := mX0_sumOf) (v := 0) dX0_sumOf_0 (by decide) ?_
  refine G_istore_n (K := mX0_sumOf) (i := 2) dX0_sumOf_1 rfl (by decide) ?_
  refine G_iconst (K := mX0_sumOf) (v := 0) dX0_sumOf_2 (by decide) ?_
  refine G_istore_n (K := mX0_sumOf) (i := 3) dX0_sumOf_3 rfl (by decide) ?_
  have loop4 : ∀ i, i ≤ n → ∀ s, s = sumN (M c) i → G mX0_sumOf shH 0 Q 4 [some (.ref 0), some (.ref c), some (.int s), some (.int (nI i))] [] M := by
    refine upto n (fun i hi ih => ?_)
    intro s hs2
    refine G_iload_n (K := mX0_sumOf) (i := 3) dX0_sumOf_4 rfl rfl ?_
    refine G_aload_n (K := mX0_sumOf) (i := 0) dX0_sumOf_5 rfl rfl ?_
    refine G_geti (K := mX0_sumOf) fX0_55 dX0_sumOf_6 rfl rfl ?_
    refine G_icmp_ge (K := mX0_sumOf) (tgt := 24) dX0_sumOf_9 (by decide) (fun c9 => ?_) (fun c9 => ?_)
    · skip
      rw [hn, le_nn (by omega) (by omega)] at c9
      have hin : i = n := by omega
      subst hin
      refine G_iload_n (K := mX0_sumOf) (i := 2) dX0_sumOf_24 rfl rfl ?_
      exact G_irm (K := mX0_sumOf) dX0_sumOf_25 rfl (by exact hs2) (by rfl) hQ
    · skip
      rw [hn, le_nn (by omega) (by omega)] at c9
      refine G_iload_n (K := mX0_sumOf) (i := 2) dX0_sumOf_12 rfl rfl ?_
      refine G_aload_n (K := mX0_sumOf) (i := 1) dX0_sumOf_13 rfl rfl ?_
      refine G_iload_n (K := mX0_sumOf) (i := 3) dX0_sumOf_14 rfl rfl ?_
      refine G_ld (K := mX0_sumOf) _ dX0_sumOf_15 hs rfl (by omega) (by decide) ?_
      refine G_iadd (K := mX0_sumOf) dX0_sumOf_16 ?_
      refine G_istore_n (K := mX0_sumOf) (i := 2) dX0_sumOf_17 rfl (by decide) ?_
      refine G_iincN (K := mX0_sumOf) dX0_sumOf_18 (by decide) rfl ?_
      refine G_goto (K := mX0_sumOf) (tgt := 4) dX0_sumOf_21 (by decide) ?_
      exact ih (i + 1) (by omega) (by omega) _ (by rw [hs2]; rfl)
  exact loop4 0 (by omega) 0 rfl
