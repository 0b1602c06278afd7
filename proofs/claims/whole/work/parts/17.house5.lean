def depK (k : Nat) : Nat := [1, 2, 2, 3, 3, 2, 3].getD k 0
def parN (k : Nat) : Nat := [0, 0, 0, 2, 1, 0, 2].getD k 0
/-- is the kind k, or one of those above it, w -/
def underN (w : Int32) : Nat → Nat → Bool
  | 0, _ => false
  | f + 1, k => if nI k = w then true else if k = 0 then false else underN w f (parN k)
def underB (k : Nat) (w : Int32) : Bool := underN w (depK k) k
theorem underB_t {k : Nat} {w : Int32} (hk : k ≤ 6) (h : nI k = w) : underB k w = true := by
  have h7 : k = 0 ∨ k = 1 ∨ k = 2 ∨ k = 3 ∨ k = 4 ∨ k = 5 ∨ k = 6 := by omega
  rcases h7 with rfl | rfl | rfl | rfl | rfl | rfl | rfl <;> exact if_pos h
theorem underB_s {k : Nat} {w : Int32} (hk : k ≤ 6) (h : ¬ nI k = w) : (tAbove.getD k 0 = -1 ∧ k = 0 ∧ underB k w = false) ∨ (tAbove.getD k 0 = nI (parN k) ∧ parN k ≤ 6 ∧ depK (parN k) + 1 = depK k ∧ underB k w = underB (parN k) w) := by
  have h7 : k = 0 ∨ k = 1 ∨ k = 2 ∨ k = 3 ∨ k = 4 ∨ k = 5 ∨ k = 6 := by omega
  rcases h7 with rfl | rfl | rfl | rfl | rfl | rfl | rfl
  · exact Or.inl ⟨rfl, rfl, (if_neg h).trans (if_pos rfl)⟩
  all_goals exact Or.inr ⟨rfl, by decide, by decide, (if_neg h).trans (if_neg (by decide))⟩
set_option maxRecDepth 20000 in
theorem c_X0_isOneOf {M : Mem} {r k : Nat} {w : Int32} (hr : r < 8) (hk : M 1 r = nI k) (hk6 : k ≤ 6) {Q : Option Value → Mem → Prop} (hQ : Q (some (.int (bI (underB k w)))) M) : CT mX0_isOneOf shH 1 [.ref 0, .int (nI r), .int w] M Q := by
  refine CT.mk [some (.ref 0), some (.int (nI r)), some (.int w), none, none] (by decide) (Nat.le_of_ble_eq_true rfl) rfl rfl ?_
  refine G_aload_n (K := mX0_isOneOf) (i := 0) dX0_isOneOf_0 rfl rfl ?_
  refine G_getr (K := mX0_isOneOf) fX0_18 dX0_isOneOf_1 rfl rfl ?_
  refine G_iload_n (K := mX0_isOneOf) (i := 1) dX0_isOneOf_4 rfl rfl ?_
  refine G_ld (K := mX0_isOneOf) _ dX0_isOneOf_5 rfl rfl (by omega) (by decide) ?_
  refine G_istore_n (K := mX0_isOneOf) (i := 3) dX0_isOneOf_6 rfl (by decide) ?_
  refine G_iconst (K := mX0_isOneOf) (v := 0) dX0_isOneOf_7 (by decide) ?_
  refine G_istore (K := mX0_isOneOf) dX0_isOneOf_8 (by decide) ?_
  have loop10 : ∀ i, i ≤ 7 → ∀ a, ((a = -1 ∧ i ≤ 4 ∧ underB k w = false) ∨ ∃ q, q ≤ 6 ∧ a = nI q ∧ i + depK q ≤ 4 ∧ underB k w = underB q w) → G mX0_isOneOf shH 1 Q 10 [some (.ref 0), some (.int (nI r)), some (.int w), some (.int a), some (.int (nI i))] [] M := by
    refine upto 7 (fun i hi ih => ?_)
    intro a ha
    have hi4 : i ≤ 4 := by
      rcases ha with h | ⟨q, h1, h2, h3, h4⟩
      · exact h.2.1
      · omega
    refine G_iload (K := mX0_isOneOf) dX0_isOneOf_10 rfl ?_
    refine G_getsN (K := mX0_isOneOf) 2 (by decide) ⟨rfl, rfl⟩ dX0_isOneOf_12 ?_
    refine G_tlen (K := mX0_isOneOf) 2 (by decide) dX0_isOneOf_15 ?_
    refine G_icmp_ge (K := mX0_isOneOf) (tgt := 45) dX0_isOneOf_16 (by decide) (fun c16 => ?_) (fun c16 => ?_)
    · skip
      have c16b : 7 ≤ i := (le_nn (n := 7) (i := i) (by omega) (by omega)).mp c16
      omega
    · skip
      refine G_iload_n (K := mX0_isOneOf) (i := 3) dX0_isOneOf_19 rfl rfl ?_
      refine G_callSN (K := mX0_isOneOf) (y := mX4_isKind) shH (fun j => j) (fun M' => M') 0 [.int a] [] (c_X4_isKind (Q := fun v M' => v = some (.int (if a < 0 then 0 else if 6 < a then 0 else 1)) ∧ M' = M) ⟨rfl, rfl⟩) (Sub.id _) (fun _ _ => rfl) (fun M' => Mrg.id _ _ M') sX4_isKind rfl ⟨rfl, rfl⟩ (by decide) (by decide) dX0_isOneOf_20 rfl ?_
      rintro v M' ⟨rfl, rfl⟩
      refine G_if_eq (K := mX0_isOneOf) (tgt := 45) dX0_isOneOf_23 (by decide) (fun c23 => ?_) (fun c23 => ?_)
      · skip
        have hB : underB k w = false := by
          rcases ha with h | ⟨q, h1, rfl, h3, h4⟩
          · exact h.2.2
          · exfalso
            rw [if_neg (nI_pos (by omega)), if_neg (by rw [show (6 : Int32) = nI 6 from rfl, lt_nn (by omega) (by omega)]; omega)] at c23
            exact absurd c23 (by decide)
        refine G_iconst (K := mX0_isOneOf) (v := 0) dX0_isOneOf_45 (by decide) ?_
        exact G_zrm (K := mX0_isOneOf) dX0_isOneOf_46 rfl rfl (bI_f hB).symm rfl hQ
      · skip
        obtain ⟨q, hq6, rfl, hqi, hqB⟩ : ∃ q, q ≤ 6 ∧ a = nI q ∧ i + depK q ≤ 4 ∧ underB k w = underB q w := by
          rcases ha with ⟨rfl, -, -⟩ | h
          · exact absurd (by decide) c23
          · exact h
        refine G_iload_n (K := mX0_isOneOf) (i := 3) dX0_isOneOf_26 rfl rfl ?_
        refine G_iload_n (K := mX0_isOneOf) (i := 2) dX0_isOneOf_27 rfl rfl ?_
        refine G_icmp_ne (K := mX0_isOneOf) (tgt := 33) dX0_isOneOf_28 (by decide) (fun c28 => ?_) (fun c28 => ?_)
        · skip
          refine G_getsN (K := mX0_isOneOf) 2 (by decide) ⟨rfl, rfl⟩ dX0_isOneOf_33 ?_
          refine G_iload_n (K := mX0_isOneOf) (i := 3) dX0_isOneOf_36 rfl rfl ?_
          refine G_tld (K := mX0_isOneOf) 2 q (by decide) dX0_isOneOf_37 rfl (show q < 7 by omega) (by decide) ?_
          refine G_istore_n (K := mX0_isOneOf) (i := 3) dX0_isOneOf_38 rfl (by decide) ?_
          refine G_iincN (K := mX0_isOneOf) dX0_isOneOf_39 (by decide) rfl ?_
          refine G_goto (K := mX0_isOneOf) (tgt := 10) dX0_isOneOf_42 (by decide) ?_
          rcases underB_s hq6 (fun e => c28 e) with ⟨e1, rfl, e2⟩ | ⟨e1, e2, e3, e4⟩
          · exact ih (i + 1) (by omega) (by omega) _ (Or.inl ⟨e1, by have : depK 0 = 1 := rfl; omega, hqB.trans e2⟩)
          · exact ih (i + 1) (by omega) (by omega) _ (Or.inr ⟨parN q, e2, e1, by omega, hqB.trans e4⟩)
        · skip
          refine G_iconst (K := mX0_isOneOf) (v := 1) dX0_isOneOf_31 (by decide) ?_
          exact G_zrm (K := mX0_isOneOf) dX0_isOneOf_32 rfl rfl (bI_t (hqB.trans (underB_t hq6 c28))).symm rfl hQ
  exact loop10 0 (by omega) _ (Or.inr ⟨k, hk6, hk, by
    have h7 : k = 0 ∨ k = 1 ∨ k = 2 ∨ k = 3 ∨ k = 4 ∨ k = 5 ∨ k = 6 := by omega
    rcases h7 with rfl | rfl | rfl | rfl | rfl | rfl | rfl <;> decide, rfl⟩)

def coldBy (M : Mem) (set : Int32) (r : Int32) (q : Nat) : Int32 := if M 5 q = r ∧ (set >>> (nI q &&& 31)) &&& 1 = 0 then maxI 0 (1 - M 7 q) else 0
set_option maxRecDepth 20000 in
theorem c_X0_gotIfColdBy {M : Mem} {set r : Int32} {n : Nat} (hn : M 0 0 = nI n) (hn8 : n ≤ 8) {Q : Option Value → Mem → Prop} (hQ : Q (some (.int (sumN (coldBy M set r) n))) M) : CT mX0_gotIfColdBy shH 1 [.ref 0, .int set, .int r] M Q := by
  refine CT.mk [some (.ref 0), some (.int set), some (.int r), none, none] (by decide) (Nat.le_of_ble_eq_true rfl) rfl rfl ?_
  refine G_iconst (K := mX0_gotIfColdBy) (v := 0) dX0_gotIfColdBy_0 (by decide) ?_
  refine G_istore_n (K := mX0_gotIfColdBy) (i := 3) dX0_gotIfColdBy_1 rfl (by decide) ?_
  refine G_iconst (K := mX0_gotIfColdBy) (v := 0) dX0_gotIfColdBy_2 (by decide) ?_
  refine G_istore (K := mX0_gotIfColdBy) dX0_gotIfColdBy_3 (by decide) ?_
  have loop5 : ∀ i, i ≤ n → ∀ s, s = sumN (coldBy M set r) i → G mX0_gotIfColdBy shH 1 Q 5 [some (.ref 0), some (.int set), some (.int r), some (.int s), some (.int (nI i))] [] M := by
    refine upto n (fun i hi ih => ?_)
    intro s hs2
    refine G_iload (K := mX0_gotIfColdBy) dX0_gotIfColdBy_5 rfl ?_
    refine G_aload_n (K := mX0_gotIfColdBy) (i := 0) dX0_gotIfColdBy_7 rfl rfl ?_
    refine G_geti (K := mX0_gotIfColdBy) fX0_55 dX0_gotIfColdBy_8 rfl rfl ?_
    refine G_icmp_ge (K := mX0_gotIfColdBy) (tgt := 56) dX0_gotIfColdBy_11 (by decide) (fun c11 => ?_) (fun c11 => ?_)
    · skip
      rw [hn, le_nn (by omega) (by omega)] at c11
      have hin : i = n := by omega
      subst hin
      refine G_iload_n (K := mX0_gotIfColdBy) (i := 3) dX0_gotIfColdBy_56 rfl rfl ?_
      exact G_irm (K := mX0_gotIfColdBy) dX0_gotIfColdBy_57 rfl (by exact hs2) (by rfl) hQ
    · skip
      rw [hn, le_nn (by omega) (by omega)] at c11
      refine G_aload_n (K := mX0_gotIfColdBy) (i := 0) dX0_gotIfColdBy_14 rfl rfl ?_
      refine G_getr (K := mX0_gotIfColdBy) fX0_31 dX0_gotIfColdBy_15 rfl rfl ?_
      refine G_iload (K := mX0_gotIfColdBy) dX0_gotIfColdBy_18 rfl ?_
      refine G_ld (K := mX0_gotIfColdBy) _ dX0_gotIfColdBy_20 rfl rfl (by omega) (by decide) ?_
      refine G_iload_n (K := mX0_gotIfColdBy) (i := 2) dX0_gotIfColdBy_21 rfl rfl ?_
      refine G_icmp_ne (K := mX0_gotIfColdBy) (tgt := 50) dX0_gotIfColdBy_22 (by decide) (fun c22 => ?_) (fun c22 => ?_)
      · skip
        refine G_iincN (K := mX0_gotIfColdBy) dX0_gotIfColdBy_50 (by decide) rfl ?_
        refine G_goto (K := mX0_gotIfColdBy) (tgt := 5) dX0_gotIfColdBy_53 (by decide) ?_
        refine ih (i + 1) (by omega) (by omega) _ ?_
        show _ = sumN (coldBy M set r) i + coldBy M set r i
        rw [hs2]
        have e : coldBy M set r i = 0 := if_neg (by first | exact fun z => c22 z.1 | exact fun z => c31 z.2)
        rw [e]
        exact (Int32.add_zero _).symm
      · skip
        refine G_iload_n (K := mX0_gotIfColdBy) (i := 1) dX0_gotIfColdBy_25 rfl rfl ?_
        refine G_iload (K := mX0_gotIfColdBy) dX0_gotIfColdBy_26 rfl ?_
        refine G_ishr (K := mX0_gotIfColdBy) dX0_gotIfColdBy_28 ?_
        refine G_iconst (K := mX0_gotIfColdBy) (v := 1) dX0_gotIfColdBy_29 (by decide) ?_
        refine G_iand (K := mX0_gotIfColdBy) dX0_gotIfColdBy_30 ?_
        refine G_if_ne (K := mX0_gotIfColdBy) (tgt := 50) dX0_gotIfColdBy_31 (by decide) (fun c31 => ?_) (fun c31 => ?_)
        · skip
          refine G_iincN (K := mX0_gotIfColdBy) dX0_gotIfColdBy_50 (by decide) rfl ?_
          refine G_goto (K := mX0_gotIfColdBy) (tgt := 5) dX0_gotIfColdBy_53 (by decide) ?_
          refine ih (i + 1) (by omega) (by omega) _ ?_
          show _ = sumN (coldBy M set r) i + coldBy M set r i
          rw [hs2]
          have e : coldBy M set r i = 0 := if_neg (by first | exact fun z => c22 z.1 | exact fun z => c31 z.2)
          rw [e]
          exact (Int32.add_zero _).symm
        · skip
          refine G_iload_n (K := mX0_gotIfColdBy) (i := 3) dX0_gotIfColdBy_34 rfl rfl ?_
          refine G_iconst (K := mX0_gotIfColdBy) (v := 1) dX0_gotIfColdBy_35 (by decide) ?_
          refine G_aload_n (K := mX0_gotIfColdBy) (i := 0) dX0_gotIfColdBy_36 rfl rfl ?_
          refine G_getr (K := mX0_gotIfColdBy) fX0_37 dX0_gotIfColdBy_37 rfl rfl ?_
          refine G_iload (K := mX0_gotIfColdBy) dX0_gotIfColdBy_40 rfl ?_
          refine G_ld (K := mX0_gotIfColdBy) _ dX0_gotIfColdBy_42 rfl rfl (by omega) (by decide) ?_
          refine G_isub (K := mX0_gotIfColdBy) dX0_gotIfColdBy_43 ?_
          refine G_iconst (K := mX0_gotIfColdBy) (v := 0) dX0_gotIfColdBy_44 (by decide) ?_
          refine G_max (K := mX0_gotIfColdBy) qX0_100 dX0_gotIfColdBy_45 (by decide) (Nat.le_of_ble_eq_true rfl) ?_
          refine G_iadd (K := mX0_gotIfColdBy) dX0_gotIfColdBy_48 ?_
          refine G_istore_n (K := mX0_gotIfColdBy) (i := 3) dX0_gotIfColdBy_49 rfl (by decide) ?_
          refine G_iincN (K := mX0_gotIfColdBy) dX0_gotIfColdBy_50 (by decide) rfl ?_
          refine G_goto (K := mX0_gotIfColdBy) (tgt := 5) dX0_gotIfColdBy_53 (by decide) ?_
          refine ih (i + 1) (by omega) (by omega) _ ?_
          show _ = sumN (coldBy M set r) i + coldBy M set r i
          have e : coldBy M set r i = maxI 0 (1 - M 7 i) := if_pos ⟨c22, c31⟩
          rw [e, hs2]
          exact congrArg (_ + ·) (maxI_comm _ _)
  exact loop5 0 (by omega) _ rfl

def allCold (M : Mem) (n : Nat) (set : Int32) : Bool := allB (fun r => decide (M 8 r = sumN (coldBy M set (nI r)) n)) n
set_option maxRecDepth 20000 in
theorem c_X0_gotAsIfColdBy {M : Mem} {set : Int32} {n : Nat} (hn : M 0 0 = nI n) (hn8 : n ≤ 8) {Q : Option Value → Mem → Prop} (hQ : Q (some (.int (bI (allCold M n set)))) M) : CT mX0_gotAsIfColdBy shH 2 [.ref 0, .int set] M Q := by
  refine CT.mk [some (.ref 0), some (.int set), none] (by decide) (Nat.le_of_ble_eq_true rfl) rfl rfl ?_
  refine G_iconst (K := mX0_gotAsIfColdBy) (v := 0) dX0_gotAsIfColdBy_0 (by decide) ?_
  refine G_istore_n (K := mX0_gotAsIfColdBy) (i := 2) dX0_gotAsIfColdBy_1 rfl (by decide) ?_
  have loop2 : ∀ i, i ≤ n → allB (fun r => decide (M 8 r = sumN (coldBy M set (nI r)) n)) i = true → G mX0_gotAsIfColdBy shH 2 Q 2 [some (.ref 0), some (.int set), some (.int (nI i))] [] M := by
    refine upto n (fun i hi ih => ?_)
    intro hs2
    refine G_iload_n (K := mX0_gotAsIfColdBy) (i := 2) dX0_gotAsIfColdBy_2 rfl rfl ?_
    refine G_aload_n (K := mX0_gotAsIfColdBy) (i := 0) dX0_gotAsIfColdBy_3 rfl rfl ?_
    refine G_geti (K := mX0_gotAsIfColdBy) fX0_55 dX0_gotAsIfColdBy_4 rfl rfl ?_
    refine G_icmp_ge (K := mX0_gotAsIfColdBy) (tgt := 33) dX0_gotAsIfColdBy_7 (by decide) (fun c7 => ?_) (fun c7 => ?_)
    · skip
      rw [hn, le_nn (by omega) (by omega)] at c7
      have hin : i = n := by omega
      refine G_iconst (K := mX0_gotAsIfColdBy) (v := 1) dX0_gotAsIfColdBy_33 (by decide) ?_
      exact G_zrm (K := mX0_gotAsIfColdBy) dX0_gotAsIfColdBy_34 rfl rfl (bI_t (hin ▸ hs2 : allCold M n set = true)).symm rfl hQ
    · skip
      rw [hn, le_nn (by omega) (by omega)] at c7
      refine G_aload_n (K := mX0_gotAsIfColdBy) (i := 0) dX0_gotAsIfColdBy_10 rfl rfl ?_
      refine G_getr (K := mX0_gotAsIfColdBy) fX0_40 dX0_gotAsIfColdBy_11 rfl rfl ?_
      refine G_iload_n (K := mX0_gotAsIfColdBy) (i := 2) dX0_gotAsIfColdBy_14 rfl rfl ?_
      refine G_ld (K := mX0_gotAsIfColdBy) _ dX0_gotAsIfColdBy_15 rfl rfl (by omega) (by decide) ?_
      refine G_aload_n (K := mX0_gotAsIfColdBy) (i := 0) dX0_gotAsIfColdBy_16 rfl rfl ?_
      refine G_iload_n (K := mX0_gotAsIfColdBy) (i := 1) dX0_gotAsIfColdBy_17 rfl rfl ?_
      refine G_iload_n (K := mX0_gotAsIfColdBy) (i := 2) dX0_gotAsIfColdBy_18 rfl rfl ?_
      refine G_cv (K := mX0_gotAsIfColdBy) (c_X0_gotIfColdBy hn hn8 ⟨rfl, rfl⟩) vX0_gotIfColdBy rfl lX0_117 dX0_gotAsIfColdBy_19 ⟨_, _, _, rfl, rfl, rfl⟩ (by decide) rfl (Nat.le_of_ble_eq_true rfl) ?_
      refine G_icmp_eq (K := mX0_gotAsIfColdBy) (tgt := 27) dX0_gotAsIfColdBy_22 (by decide) (fun c22 => ?_) (fun c22 => ?_)
      · skip
        refine G_iincN (K := mX0_gotAsIfColdBy) dX0_gotAsIfColdBy_27 (by decide) rfl ?_
        refine G_goto (K := mX0_gotAsIfColdBy) (tgt := 2) dX0_gotAsIfColdBy_30 (by decide) ?_
        exact ih (i + 1) (by omega) (by omega) (allB_s hs2 (decide_eq_true c22))
      · skip
        refine G_iconst (K := mX0_gotAsIfColdBy) (v := 0) dX0_gotAsIfColdBy_25 (by decide) ?_
        exact G_zrm (K := mX0_gotAsIfColdBy) dX0_gotAsIfColdBy_26 rfl rfl (bI_f (allB_f (decide_eq_false c22) n (by omega))).symm rfl hQ
  exact loop2 0 (by omega) rfl

def fitsI (M : Mem) (r w v : Int32) : Int32 := if hasI M r = 0 then 0 else if w < 0 then 0 else if nI 9 ≤ w then 0 else if v < tLeast.getD w.toNatClampNeg 0 then 0 else if tMost.getD w.toNatClampNeg 0 < v then 0 else if w = 4 then (if v = r then 0 else 1) else 1
set_option maxRecDepth 20000 in
theorem c_X0_fits {M : Mem} {r w v : Int32} {Q : Option Value → Mem → Prop} (hQ : Q (some (.int (fitsI M r w v))) M) : CT mX0_fits shH 1 [.ref 0, .int r, .int w, .int v] M Q := by
  refine CT.mk [some (.ref 0), some (.int r), some (.int w), some (.int v)] (by decide) (Nat.le_of_ble_eq_true rfl) rfl rfl ?_
  refine G_aload_n (K := mX0_fits) (i := 0) dX0_fits_0 rfl rfl ?_
  refine G_iload_n (K := mX0_fits) (i := 1) dX0_fits_1 rfl rfl ?_
  refine G_cv (K := mX0_fits) (c_X0_has ⟨rfl, rfl⟩) vX0_has rfl lX0_58 dX0_fits_2 ⟨_, _, _, rfl, rfl, rfl⟩ (by decide) rfl (Nat.le_of_ble_eq_true rfl) ?_
  refine G_if_eq (K := mX0_fits) (tgt := 28) dX0_fits_5 (by decide) (fun c5 => ?_) (fun c5 => ?_)
  · skip
    refine G_iconst (K := mX0_fits) (v := 0) dX0_fits_28 (by decide) ?_
    exact G_zrm (K := mX0_fits) dX0_fits_29 rfl rfl (by unfold fitsI; first | exact (if_pos c5).symm | exact ((if_neg c5).trans (if_pos c9)).symm | exact ((if_neg c5).trans ((if_neg c9).trans (if_pos c17))).symm | exact ((if_neg c5).trans ((if_neg c9).trans (if_pos (Int32.not_lt.mp c25)))).symm) rfl hQ
  · skip
    refine G_iload_n (K := mX0_fits) (i := 2) dX0_fits_8 rfl rfl ?_
    refine G_if_lt (K := mX0_fits) (tgt := 28) dX0_fits_9 (by decide) (fun c9 => ?_) (fun c9 => ?_)
    · skip
      refine G_iconst (K := mX0_fits) (v := 0) dX0_fits_28 (by decide) ?_
      exact G_zrm (K := mX0_fits) dX0_fits_29 rfl rfl (by unfold fitsI; first | exact (if_pos c5).symm | exact ((if_neg c5).trans (if_pos c9)).symm | exact ((if_neg c5).trans ((if_neg c9).trans (if_pos c17))).symm | exact ((if_neg c5).trans ((if_neg c9).trans (if_pos (Int32.not_lt.mp c25)))).symm) rfl hQ
    · skip
      refine G_iload_n (K := mX0_fits) (i := 2) dX0_fits_12 rfl rfl ?_
      refine G_getsN (K := mX0_fits) 0 (by decide) ⟨rfl, rfl⟩ dX0_fits_13 ?_
      refine G_tlen (K := mX0_fits) 0 (by decide) dX0_fits_16 ?_
      refine G_icmp_ge (K := mX0_fits) (tgt := 28) dX0_fits_17 (by decide) (fun c17 => ?_) (fun c17 => ?_)
      · skip
        refine G_iconst (K := mX0_fits) (v := 0) dX0_fits_28 (by decide) ?_
        exact G_zrm (K := mX0_fits) dX0_fits_29 rfl rfl (by unfold fitsI; first | exact (if_pos c5).symm | exact ((if_neg c5).trans (if_pos c9)).symm | exact ((if_neg c5).trans ((if_neg c9).trans (if_pos c17))).symm | exact ((if_neg c5).trans ((if_neg c9).trans (if_pos (Int32.not_lt.mp c25)))).symm) rfl hQ
      · skip
        refine G_iload_n (K := mX0_fits) (i := 2) dX0_fits_20 rfl rfl ?_
        refine G_getsN (K := mX0_fits) 1 (by decide) ⟨rfl, rfl⟩ dX0_fits_21 ?_
        refine G_tlen (K := mX0_fits) 1 (by decide) dX0_fits_24 ?_
        refine G_icmp_lt (K := mX0_fits) (tgt := 30) dX0_fits_25 (by decide) (fun c25 => ?_) (fun c25 => ?_)
        · skip
          obtain ⟨k, hk, rfl⟩ := nI_of_has (n := 9) (by decide) c9 (c17 : ¬ nI 9 ≤ w)
          refine G_iload_n (K := mX0_fits) (i := 3) dX0_fits_30 rfl rfl ?_
          refine G_getsN (K := mX0_fits) 1 (by decide) ⟨rfl, rfl⟩ dX0_fits_31 ?_
          refine G_iload_n (K := mX0_fits) (i := 2) dX0_fits_34 rfl rfl ?_
          refine G_tld (K := mX0_fits) 1 k (by decide) dX0_fits_35 rfl (show k < 9 from hk) (by decide) ?_
          refine G_icmp_lt (K := mX0_fits) (tgt := 62) dX0_fits_36 (by decide) (fun c36 => ?_) (fun c36 => ?_)
          · skip
            refine G_iconst (K := mX0_fits) (v := 0) dX0_fits_62 (by decide) ?_
            exact G_zrm (K := mX0_fits) dX0_fits_63 rfl rfl (by unfold fitsI; rw [nI_clamp (by omega), if_neg c5, if_neg c9, if_neg (show ¬ nI 9 ≤ nI k from c17)]; first | exact (if_pos c36).symm | exact ((if_neg c36).trans (if_pos c45)).symm | exact ((if_neg c36).trans ((if_neg c45).trans (if_neg c50))).symm | exact ((if_neg c36).trans ((if_neg c45).trans ((if_pos c50).trans (if_pos c55)))).symm | exact ((if_neg c36).trans ((if_neg c45).trans ((if_pos c50).trans (if_neg c55)))).symm) rfl hQ
          · skip
            refine G_iload_n (K := mX0_fits) (i := 3) dX0_fits_39 rfl rfl ?_
            refine G_getsN (K := mX0_fits) 0 (by decide) ⟨rfl, rfl⟩ dX0_fits_40 ?_
            refine G_iload_n (K := mX0_fits) (i := 2) dX0_fits_43 rfl rfl ?_
            refine G_tld (K := mX0_fits) 0 k (by decide) dX0_fits_44 rfl (show k < 9 from hk) (by decide) ?_
            refine G_icmp_gt (K := mX0_fits) (tgt := 62) dX0_fits_45 (by decide) (fun c45 => ?_) (fun c45 => ?_)
            · skip
              refine G_iconst (K := mX0_fits) (v := 0) dX0_fits_62 (by decide) ?_
              exact G_zrm (K := mX0_fits) dX0_fits_63 rfl rfl (by unfold fitsI; rw [nI_clamp (by omega), if_neg c5, if_neg c9, if_neg (show ¬ nI 9 ≤ nI k from c17)]; first | exact (if_pos c36).symm | exact ((if_neg c36).trans (if_pos c45)).symm | exact ((if_neg c36).trans ((if_neg c45).trans (if_neg c50))).symm | exact ((if_neg c36).trans ((if_neg c45).trans ((if_pos c50).trans (if_pos c55)))).symm | exact ((if_neg c36).trans ((if_neg c45).trans ((if_pos c50).trans (if_neg c55)))).symm) rfl hQ
            · skip
              refine G_iload_n (K := mX0_fits) (i := 2) dX0_fits_48 rfl rfl ?_
              refine G_iconst (K := mX0_fits) (v := 4) dX0_fits_49 (by decide) ?_
              refine G_icmp_ne (K := mX0_fits) (tgt := 58) dX0_fits_50 (by decide) (fun c50 => ?_) (fun c50 => ?_)
              · skip
                refine G_iconst (K := mX0_fits) (v := 1) dX0_fits_58 (by decide) ?_
                refine G_goto (K := mX0_fits) (tgt := 63) dX0_fits_59 (by decide) ?_
                exact G_zrm (K := mX0_fits) dX0_fits_63 rfl rfl (by unfold fitsI; rw [nI_clamp (by omega), if_neg c5, if_neg c9, if_neg (show ¬ nI 9 ≤ nI k from c17)]; first | exact (if_pos c36).symm | exact ((if_neg c36).trans (if_pos c45)).symm | exact ((if_neg c36).trans ((if_neg c45).trans (if_neg c50))).symm | exact ((if_neg c36).trans ((if_neg c45).trans ((if_pos c50).trans (if_pos c55)))).symm | exact ((if_neg c36).trans ((if_neg c45).trans ((if_pos c50).trans (if_neg c55)))).symm) rfl hQ
              · skip
                refine G_iload_n (K := mX0_fits) (i := 3) dX0_fits_53 rfl rfl ?_
                refine G_iload_n (K := mX0_fits) (i := 1) dX0_fits_54 rfl rfl ?_
                refine G_icmp_eq (K := mX0_fits) (tgt := 62) dX0_fits_55 (by decide) (fun c55 => ?_) (fun c55 => ?_)
                · skip
                  refine G_iconst (K := mX0_fits) (v := 0) dX0_fits_62 (by decide) ?_
                  exact G_zrm (K := mX0_fits) dX0_fits_63 rfl rfl (by unfold fitsI; rw [nI_clamp (by omega), if_neg c5, if_neg c9, if_neg (show ¬ nI 9 ≤ nI k from c17)]; first | exact (if_pos c36).symm | exact ((if_neg c36).trans (if_pos c45)).symm | exact ((if_neg c36).trans ((if_neg c45).trans (if_neg c50))).symm | exact ((if_neg c36).trans ((if_neg c45).trans ((if_pos c50).trans (if_pos c55)))).symm | exact ((if_neg c36).trans ((if_neg c45).trans ((if_pos c50).trans (if_neg c55)))).symm) rfl hQ
                · skip
                  refine G_iconst (K := mX0_fits) (v := 1) dX0_fits_58 (by decide) ?_
                  refine G_goto (K := mX0_fits) (tgt := 63) dX0_fits_59 (by decide) ?_
                  exact G_zrm (K := mX0_fits) dX0_fits_63 rfl rfl (by unfold fitsI; rw [nI_clamp (by omega), if_neg c5, if_neg c9, if_neg (show ¬ nI 9 ≤ nI k from c17)]; first | exact (if_pos c36).symm | exact ((if_neg c36).trans (if_pos c45)).symm | exact ((if_neg c36).trans ((if_neg c45).trans (if_neg c50))).symm | exact ((if_neg c36).trans ((if_neg c45).trans ((if_pos c50).trans (if_pos c55)))).symm | exact ((if_neg c36).trans ((if_neg c45).trans ((if_pos c50).trans (if_neg c55)))).symm) rfl hQ
        · skip
          refine G_iconst (K := mX0_fits) (v := 0) dX0_fits_28 (by decide) ?_
          exact G_zrm (K := mX0_fits) dX0_fits_29 rfl rfl (by unfold fitsI; first | exact (if_pos c5).symm | exact ((if_neg c5).trans (if_pos c9)).symm | exact ((if_neg c5).trans ((if_neg c9).trans (if_pos c17))).symm | exact ((if_neg c5).trans ((if_neg c9).trans (if_pos (Int32.not_lt.mp c25)))).symm) rfl hQ

def addV (k : Int32) (n c : Nat) : Int32 := [k, 100, 50, 10, remI (nI n + 1) 8, 0, 0, 1, 1].getD (c - 1) 0
/-- one who comes to live there -/
def addH (M : Mem) (k : Int32) (n : Nat) : Mem := fun c i => if c = 0 then (if i = 0 then M 0 0 + 1 else M 0 i) else if c ≤ 9 ∧ i = n then addV k n c else M c i
theorem addH_eq (M : Mem) (k : Int32) (n : Nat) : ups (ups (ups (ups (ups (ups (ups (ups (ups (ups M 1 n k) 2 n 100) 3 n 50) 4 n 10) 5 n (remI (nI n + 1) 8)) 6 n 0) 7 n 0) 8 n 1) 9 n 1) 0 0 (M 0 0 + 1) = addH M k n := by
  funext c i
  have h : c = 0 ∨ c = 1 ∨ c = 2 ∨ c = 3 ∨ c = 4 ∨ c = 5 ∨ c = 6 ∨ c = 7 ∨ c = 8 ∨ c = 9 ∨ 10 ≤ c := by omega
  rcases h with rfl | rfl | rfl | rfl | rfl | rfl | rfl | rfl | rfl | rfl | h
  · by_cases hi : i = 0
    · simp [ups, addH, hi]
    · simp [ups, addH, hi]
  all_goals (by_cases hi : i = n)
  all_goals first
    | (simp [ups, addH, addV, hi]; done)
    | (have h0 : ¬ c ≤ 9 := by omega
       simp [ups, addH, h0, show c ≠ 0 by omega, show c ≠ 1 by omega, show c ≠ 2 by omega, show c ≠ 3 by omega, show c ≠ 4 by omega, show c ≠ 5 by omega, show c ≠ 6 by omega, show c ≠ 7 by omega, show c ≠ 8 by omega, show c ≠ 9 by omega])
set_option maxRecDepth 20000 in
theorem c_X0_addRoom {M : Mem} {k : Int32} {n : Nat} (hn : M 0 0 = nI n) (hn8 : n < 8) {Q : Option Value → Mem → Prop} (hQ : Q (some (.int (nI n))) (addH M k n)) : CT mX0_addRoom shH 0 [.ref 0, .int k] M Q := by
  refine CT.mk [some (.ref 0), some (.int k), none] (by decide) (Nat.le_of_ble_eq_true rfl) rfl rfl ?_
  refine G_aload_n (K := mX0_addRoom) (i := 0) dX0_addRoom_0 rfl rfl ?_
  refine G_geti (K := mX0_addRoom) fX0_55 dX0_addRoom_1 rfl rfl ?_
  rw [hn]
  refine G_istore_n (K := mX0_addRoom) (i := 2) dX0_addRoom_4 rfl (by decide) ?_
  refine G_iload_n (K := mX0_addRoom) (i := 2) dX0_addRoom_5 rfl rfl ?_
  refine G_if_lt (K := mX0_addRoom) (tgt := 15) dX0_addRoom_6 (by decide) (fun c6 => ?_) (fun c6 => ?_)
  · skip
    exact absurd c6 (nI_pos (by omega))
  · skip
    refine G_iload_n (K := mX0_addRoom) (i := 2) dX0_addRoom_9 rfl rfl ?_
    refine G_bipush (K := mX0_addRoom) (v := 8) dX0_addRoom_10 (by decide) ?_
    refine G_icmp_lt (K := mX0_addRoom) (tgt := 17) dX0_addRoom_12 (by decide) (fun c12 => ?_) (fun c12 => ?_)
    · skip
      refine G_aload_n (K := mX0_addRoom) (i := 0) dX0_addRoom_17 rfl rfl ?_
      refine G_getr (K := mX0_addRoom) fX0_18 dX0_addRoom_18 rfl rfl ?_
      refine G_iload_n (K := mX0_addRoom) (i := 2) dX0_addRoom_21 rfl rfl ?_
      refine G_iload_n (K := mX0_addRoom) (i := 1) dX0_addRoom_22 rfl rfl ?_
      refine G_sto (K := mX0_addRoom) _ dX0_addRoom_23 rfl rfl (by omega) (by decide) ?_
      refine G_aload_n (K := mX0_addRoom) (i := 0) dX0_addRoom_24 rfl rfl ?_
      refine G_getr (K := mX0_addRoom) fX0_22 dX0_addRoom_25 rfl rfl ?_
      refine G_iload_n (K := mX0_addRoom) (i := 2) dX0_addRoom_28 rfl rfl ?_
      refine G_bipush (K := mX0_addRoom) (v := 100) dX0_addRoom_29 (by decide) ?_
      refine G_sto (K := mX0_addRoom) _ dX0_addRoom_31 rfl rfl (by omega) (by decide) ?_
      refine G_aload_n (K := mX0_addRoom) (i := 0) dX0_addRoom_32 rfl rfl ?_
      refine G_getr (K := mX0_addRoom) fX0_25 dX0_addRoom_33 rfl rfl ?_
      refine G_iload_n (K := mX0_addRoom) (i := 2) dX0_addRoom_36 rfl rfl ?_
      refine G_bipush (K := mX0_addRoom) (v := 50) dX0_addRoom_37 (by decide) ?_
      refine G_sto (K := mX0_addRoom) _ dX0_addRoom_39 rfl rfl (by omega) (by decide) ?_
      refine G_aload_n (K := mX0_addRoom) (i := 0) dX0_addRoom_40 rfl rfl ?_
      refine G_getr (K := mX0_addRoom) fX0_28 dX0_addRoom_41 rfl rfl ?_
      refine G_iload_n (K := mX0_addRoom) (i := 2) dX0_addRoom_44 rfl rfl ?_
      refine G_bipush (K := mX0_addRoom) (v := 10) dX0_addRoom_45 (by decide) ?_
      refine G_sto (K := mX0_addRoom) _ dX0_addRoom_47 rfl rfl (by omega) (by decide) ?_
      refine G_aload_n (K := mX0_addRoom) (i := 0) dX0_addRoom_48 rfl rfl ?_
      refine G_getr (K := mX0_addRoom) fX0_31 dX0_addRoom_49 rfl rfl ?_
      refine G_iload_n (K := mX0_addRoom) (i := 2) dX0_addRoom_52 rfl rfl ?_
      refine G_iload_n (K := mX0_addRoom) (i := 2) dX0_addRoom_53 rfl rfl ?_
      refine G_iconst (K := mX0_addRoom) (v := 1) dX0_addRoom_54 (by decide) ?_
      refine G_iadd (K := mX0_addRoom) dX0_addRoom_55 ?_
      refine G_bipush (K := mX0_addRoom) (v := 8) dX0_addRoom_56 (by decide) ?_
      refine G_irem (K := mX0_addRoom) dX0_addRoom_58 (by decide) ?_
      refine G_sto (K := mX0_addRoom) _ dX0_addRoom_59 rfl rfl (by omega) (by decide) ?_
      refine G_aload_n (K := mX0_addRoom) (i := 0) dX0_addRoom_60 rfl rfl ?_
      refine G_getr (K := mX0_addRoom) fX0_34 dX0_addRoom_61 rfl rfl ?_
      refine G_iload_n (K := mX0_addRoom) (i := 2) dX0_addRoom_64 rfl rfl ?_
      refine G_iconst (K := mX0_addRoom) (v := 0) dX0_addRoom_65 (by decide) ?_
      refine G_sto (K := mX0_addRoom) _ dX0_addRoom_66 rfl rfl (by omega) (by decide) ?_
      refine G_aload_n (K := mX0_addRoom) (i := 0) dX0_addRoom_67 rfl rfl ?_
      refine G_getr (K := mX0_addRoom) fX0_37 dX0_addRoom_68 rfl rfl ?_
      refine G_iload_n (K := mX0_addRoom) (i := 2) dX0_addRoom_71 rfl rfl ?_
      refine G_iconst (K := mX0_addRoom) (v := 0) dX0_addRoom_72 (by decide) ?_
      refine G_sto (K := mX0_addRoom) _ dX0_addRoom_73 rfl rfl (by omega) (by decide) ?_
      refine G_aload_n (K := mX0_addRoom) (i := 0) dX0_addRoom_74 rfl rfl ?_
      refine G_getr (K := mX0_addRoom) fX0_40 dX0_addRoom_75 rfl rfl ?_
      refine G_iload_n (K := mX0_addRoom) (i := 2) dX0_addRoom_78 rfl rfl ?_
      refine G_iconst (K := mX0_addRoom) (v := 1) dX0_addRoom_79 (by decide) ?_
      refine G_sto (K := mX0_addRoom) _ dX0_addRoom_80 rfl rfl (by omega) (by decide) ?_
      refine G_aload_n (K := mX0_addRoom) (i := 0) dX0_addRoom_81 rfl rfl ?_
      refine G_getr (K := mX0_addRoom) fX0_43 dX0_addRoom_82 rfl rfl ?_
      refine G_iload_n (K := mX0_addRoom) (i := 2) dX0_addRoom_85 rfl rfl ?_
      refine G_iconst (K := mX0_addRoom) (v := 1) dX0_addRoom_86 (by decide) ?_
      refine G_sto (K := mX0_addRoom) _ dX0_addRoom_87 rfl rfl (by omega) (by decide) ?_
      refine G_aload_n (K := mX0_addRoom) (i := 0) dX0_addRoom_88 rfl rfl ?_
      refine G_dup (K := mX0_addRoom) dX0_addRoom_89 rfl ?_
      refine G_geti (K := mX0_addRoom) fX0_55 dX0_addRoom_90 rfl rfl ?_
      refine G_iconst (K := mX0_addRoom) (v := 1) dX0_addRoom_93 (by decide) ?_
      refine G_iadd (K := mX0_addRoom) dX0_addRoom_94 ?_
      refine G_puti (K := mX0_addRoom) fX0_55 w0_0 dX0_addRoom_95 rfl rfl ?_
      refine G_iload_n (K := mX0_addRoom) (i := 2) dX0_addRoom_98 rfl rfl ?_
      refine G_irm (K := mX0_addRoom) dX0_addRoom_99 rfl rfl ?_ hQ
      rw [← addH_eq]
      rfl
    · skip
      exact absurd ((lt_nn (by omega) (by omega)).mpr hn8 : nI n < nI 8) c12

def becM (M : Mem) : Mem := fun c k => if c = 0 then (if k < 4 then M 11 k else M 0 k) else if c ≤ 9 then (if k < 8 then M (c + 11) k else M c k) else if c = 10 then (if k < 10 then M 21 k else M 10 k) else M c k
set_option maxRecDepth 20000 in
theorem c_X0_becomes {M : Mem} {Q : Option Value → Mem → Prop} (hQ : Q none (becM M)) : CT mX0_becomes shH2 1 [.ref 0, .ref 11] M Q := by
  refine CT.mk [some (.ref 0), some (.ref 11)] (by decide) (Nat.le_of_ble_eq_true rfl) rfl rfl ?_
  refine G_aload_n (K := mX0_becomes) (i := 0) dX0_becomes_0 rfl rfl ?_
  refine G_aload_n (K := mX0_becomes) (i := 1) dX0_becomes_1 rfl rfl ?_
  refine G_geti (K := mX0_becomes) fX0_55 dX0_becomes_2 rfl rfl ?_
  refine G_puti (K := mX0_becomes) fX0_55 w0_0 dX0_becomes_5 rfl rfl ?_
  refine G_aload_n (K := mX0_becomes) (i := 0) dX0_becomes_8 rfl rfl ?_
  refine G_aload_n (K := mX0_becomes) (i := 1) dX0_becomes_9 rfl rfl ?_
  refine G_geti (K := mX0_becomes) fX0_9 dX0_becomes_10 rfl rfl ?_
  refine G_puti (K := mX0_becomes) fX0_9 w0_1 dX0_becomes_13 rfl rfl ?_
  refine G_aload_n (K := mX0_becomes) (i := 0) dX0_becomes_16 rfl rfl ?_
  refine G_aload_n (K := mX0_becomes) (i := 1) dX0_becomes_17 rfl rfl ?_
  refine G_geti (K := mX0_becomes) fX0_68 dX0_becomes_18 rfl rfl ?_
  refine G_puti (K := mX0_becomes) fX0_68 w0_2 dX0_becomes_21 rfl rfl ?_
  refine G_aload_n (K := mX0_becomes) (i := 0) dX0_becomes_24 rfl rfl ?_
  refine G_aload_n (K := mX0_becomes) (i := 1) dX0_becomes_25 rfl rfl ?_
  refine G_geti (K := mX0_becomes) fX0_15 dX0_becomes_26 rfl rfl ?_
  refine G_puti (K := mX0_becomes) fX0_15 w0_3 dX0_becomes_29 rfl rfl ?_
  refine G_aload_n (K := mX0_becomes) (i := 1) dX0_becomes_32 rfl rfl ?_
  refine G_getr (K := mX0_becomes) fX0_18 dX0_becomes_33 rfl rfl ?_
  refine G_iconst (K := mX0_becomes) (v := 0) dX0_becomes_36 (by decide) ?_
  refine G_aload_n (K := mX0_becomes) (i := 0) dX0_becomes_37 rfl rfl ?_
  refine G_getr (K := mX0_becomes) fX0_18 dX0_becomes_38 rfl rfl ?_
  refine G_iconst (K := mX0_becomes) (v := 0) dX0_becomes_41 (by decide) ?_
  refine G_bipush (K := mX0_becomes) (v := 8) dX0_becomes_42 (by decide) ?_
  refine G_copy (K := mX0_becomes) 8 rfl qX0_71 dX0_becomes_44 rfl rfl (by decide) (by decide) (by decide) (by decide) (Nat.le_of_ble_eq_true rfl) ?_
  refine G_aload_n (K := mX0_becomes) (i := 1) dX0_becomes_47 rfl rfl ?_
  refine G_getr (K := mX0_becomes) fX0_22 dX0_becomes_48 rfl rfl ?_
  refine G_iconst (K := mX0_becomes) (v := 0) dX0_becomes_51 (by decide) ?_
  refine G_aload_n (K := mX0_becomes) (i := 0) dX0_becomes_52 rfl rfl ?_
  refine G_getr (K := mX0_becomes) fX0_22 dX0_becomes_53 rfl rfl ?_
  refine G_iconst (K := mX0_becomes) (v := 0) dX0_becomes_56 (by decide) ?_
  refine G_bipush (K := mX0_becomes) (v := 8) dX0_becomes_57 (by decide) ?_
  refine G_copy (K := mX0_becomes) 8 rfl qX0_71 dX0_becomes_59 rfl rfl (by decide) (by decide) (by decide) (by decide) (Nat.le_of_ble_eq_true rfl) ?_
  refine G_aload_n (K := mX0_becomes) (i := 1) dX0_becomes_62 rfl rfl ?_
  refine G_getr (K := mX0_becomes) fX0_25 dX0_becomes_63 rfl rfl ?_
  refine G_iconst (K := mX0_becomes) (v := 0) dX0_becomes_66 (by decide) ?_
  refine G_aload_n (K := mX0_becomes) (i := 0) dX0_becomes_67 rfl rfl ?_
  refine G_getr (K := mX0_becomes) fX0_25 dX0_becomes_68 rfl rfl ?_
  refine G_iconst (K := mX0_becomes) (v := 0) dX0_becomes_71 (by decide) ?_
  refine G_bipush (K := mX0_becomes) (v := 8) dX0_becomes_72 (by decide) ?_
  refine G_copy (K := mX0_becomes) 8 rfl qX0_71 dX0_becomes_74 rfl rfl (by decide) (by decide) (by decide) (by decide) (Nat.le_of_ble_eq_true rfl) ?_
  refine G_aload_n (K := mX0_becomes) (i := 1) dX0_becomes_77 rfl rfl ?_
  refine G_getr (K := mX0_becomes) fX0_28 dX0_becomes_78 rfl rfl ?_
  refine G_iconst (K := mX0_becomes) (v := 0) dX0_becomes_81 (by decide) ?_
  refine G_aload_n (K := mX0_becomes) (i := 0) dX0_becomes_82 rfl rfl ?_
  refine G_getr (K := mX0_becomes) fX0_28 dX0_becomes_83 rfl rfl ?_
  refine G_iconst (K := mX0_becomes) (v := 0) dX0_becomes_86 (by decide) ?_
  refine G_bipush (K := mX0_becomes) (v := 8) dX0_becomes_87 (by decide) ?_
  refine G_copy (K := mX0_becomes) 8 rfl qX0_71 dX0_becomes_89 rfl rfl (by decide) (by decide) (by decide) (by decide) (Nat.le_of_ble_eq_true rfl) ?_
  refine G_aload_n (K := mX0_becomes) (i := 1) dX0_becomes_92 rfl rfl ?_
  refine G_getr (K := mX0_becomes) fX0_31 dX0_becomes_93 rfl rfl ?_
  refine G_iconst (K := mX0_becomes) (v := 0) dX0_becomes_96 (by decide) ?_
  refine G_aload_n (K := mX0_becomes) (i := 0) dX0_becomes_97 rfl rfl ?_
  refine G_getr (K := mX0_becomes) fX0_31 dX0_becomes_98 rfl rfl ?_
  refine G_iconst (K := mX0_becomes) (v := 0) dX0_becomes_101 (by decide) ?_
  refine G_bipush (K := mX0_becomes) (v := 8) dX0_becomes_102 (by decide) ?_
  refine G_copy (K := mX0_becomes) 8 rfl qX0_71 dX0_becomes_104 rfl rfl (by decide) (by decide) (by decide) (by decide) (Nat.le_of_ble_eq_true rfl) ?_
  refine G_aload_n (K := mX0_becomes) (i := 1) dX0_becomes_107 rfl rfl ?_
  refine G_getr (K := mX0_becomes) fX0_34 dX0_becomes_108 rfl rfl ?_
  refine G_iconst (K := mX0_becomes) (v := 0) dX0_becomes_111 (by decide) ?_
  refine G_aload_n (K := mX0_becomes) (i := 0) dX0_becomes_112 rfl rfl ?_
  refine G_getr (K := mX0_becomes) fX0_34 dX0_becomes_113 rfl rfl ?_
  refine G_iconst (K := mX0_becomes) (v := 0) dX0_becomes_116 (by decide) ?_
  refine G_bipush (K := mX0_becomes) (v := 8) dX0_becomes_117 (by decide) ?_
  refine G_copy (K := mX0_becomes) 8 rfl qX0_71 dX0_becomes_119 rfl rfl (by decide) (by decide) (by decide) (by decide) (Nat.le_of_ble_eq_true rfl) ?_
  refine G_aload_n (K := mX0_becomes) (i := 1) dX0_becomes_122 rfl rfl ?_
  refine G_getr (K := mX0_becomes) fX0_37 dX0_becomes_123 rfl rfl ?_
  refine G_iconst (K := mX0_becomes) (v := 0) dX0_becomes_126 (by decide) ?_
  refine G_aload_n (K := mX0_becomes) (i := 0) dX0_becomes_127 rfl rfl ?_
  refine G_getr (K := mX0_becomes) fX0_37 dX0_becomes_128 rfl rfl ?_
  refine G_iconst (K := mX0_becomes) (v := 0) dX0_becomes_131 (by decide) ?_
  refine G_bipush (K := mX0_becomes) (v := 8) dX0_becomes_132 (by decide) ?_
  refine G_copy (K := mX0_becomes) 8 rfl qX0_71 dX0_becomes_134 rfl rfl (by decide) (by decide) (by decide) (by decide) (Nat.le_of_ble_eq_true rfl) ?_
  refine G_aload_n (K := mX0_becomes) (i := 1) dX0_becomes_137 rfl rfl ?_
  refine G_getr (K := mX0_becomes) fX0_40 dX0_becomes_138 rfl rfl ?_
  refine G_iconst (K := mX0_becomes) (v := 0) dX0_becomes_141 (by decide) ?_
  refine G_aload_n (K := mX0_becomes) (i := 0) dX0_becomes_142 rfl rfl ?_
  refine G_getr (K := mX0_becomes) fX0_40 dX0_becomes_143 rfl rfl ?_
  refine G_iconst (K := mX0_becomes) (v := 0) dX0_becomes_146 (by decide) ?_
  refine G_bipush (K := mX0_becomes) (v := 8) dX0_becomes_147 (by decide) ?_
  refine G_copy (K := mX0_becomes) 8 rfl qX0_71 dX0_becomes_149 rfl rfl (by decide) (by decide) (by decide) (by decide) (Nat.le_of_ble_eq_true rfl) ?_
  refine G_aload_n (K := mX0_becomes) (i := 1) dX0_becomes_152 rfl rfl ?_
  refine G_getr (K := mX0_becomes) fX0_43 dX0_becomes_153 rfl rfl ?_
  refine G_iconst (K := mX0_becomes) (v := 0) dX0_becomes_156 (by decide) ?_
  refine G_aload_n (K := mX0_becomes) (i := 0) dX0_becomes_157 rfl rfl ?_
  refine G_getr (K := mX0_becomes) fX0_43 dX0_becomes_158 rfl rfl ?_
  refine G_iconst (K := mX0_becomes) (v := 0) dX0_becomes_161 (by decide) ?_
  refine G_bipush (K := mX0_becomes) (v := 8) dX0_becomes_162 (by decide) ?_
  refine G_copy (K := mX0_becomes) 8 rfl qX0_71 dX0_becomes_164 rfl rfl (by decide) (by decide) (by decide) (by decide) (Nat.le_of_ble_eq_true rfl) ?_
  refine G_aload_n (K := mX0_becomes) (i := 1) dX0_becomes_167 rfl rfl ?_
  refine G_getr (K := mX0_becomes) fX0_46 dX0_becomes_168 rfl rfl ?_
  refine G_iconst (K := mX0_becomes) (v := 0) dX0_becomes_171 (by decide) ?_
  refine G_aload_n (K := mX0_becomes) (i := 0) dX0_becomes_172 rfl rfl ?_
  refine G_getr (K := mX0_becomes) fX0_46 dX0_becomes_173 rfl rfl ?_
  refine G_iconst (K := mX0_becomes) (v := 0) dX0_becomes_176 (by decide) ?_
  refine G_bipush (K := mX0_becomes) (v := 10) dX0_becomes_177 (by decide) ?_
  refine G_copy (K := mX0_becomes) 10 rfl qX0_71 dX0_becomes_179 rfl rfl (by decide) (by decide) (by decide) (by decide) (Nat.le_of_ble_eq_true rfl) ?_
  refine G_vrm (K := mX0_becomes) dX0_becomes_182 rfl ?_ hQ
  funext c k
  have h : c = 0 ∨ c = 1 ∨ c = 2 ∨ c = 3 ∨ c = 4 ∨ c = 5 ∨ c = 6 ∨ c = 7 ∨ c = 8 ∨ c = 9 ∨ c = 10 ∨ 11 ≤ c := by omega
  rcases h with rfl | rfl | rfl | rfl | rfl | rfl | rfl | rfl | rfl | rfl | rfl | h
  · have hk : k = 0 ∨ k = 1 ∨ k = 2 ∨ k = 3 ∨ 4 ≤ k := by omega
    rcases hk with rfl | rfl | rfl | rfl | hk
    · simp [cpyM, ups, becM]
    · simp [cpyM, ups, becM]
    · simp [cpyM, ups, becM]
    · simp [cpyM, ups, becM]
    · simp [cpyM, ups, becM, show ¬ k < 4 by omega, show k ≠ 0 by omega, show k ≠ 1 by omega, show k ≠ 2 by omega, show k ≠ 3 by omega]
  all_goals first
    | (simp [cpyM, ups, becM]; done)
    | (simp [cpyM, ups, becM, show c ≠ 0 by omega, show c ≠ 1 by omega, show c ≠ 2 by omega, show c ≠ 3 by omega, show c ≠ 4 by omega, show c ≠ 5 by omega, show c ≠ 6 by omega, show c ≠ 7 by omega, show c ≠ 8 by omega, show c ≠ 9 by omega, show c ≠ 10 by omega, show ¬ c ≤ 9 by omega]; done)

set_option maxRecDepth 20000 in
theorem c_X0_rowOf {M : Mem} {w : Int32} {Q : Option Value → Mem → Prop} (hQ1 : ∀ k, k < 9 → w = nI k → Q (some (.ref (k + 1))) M) (hQ2 : (∀ k, k < 9 → w ≠ nI k) → Q (some .null) M) : CT mX0_rowOf shH 0 [.ref 0, .int w] M Q := by
  refine CT.mk [some (.ref 0), some (.int w)] (by decide) (Nat.le_of_ble_eq_true rfl) rfl rfl ?_
  refine G_iload_n (K := mX0_rowOf) (i := 1) dX0_rowOf_0 rfl rfl ?_
  by_cases e1_0 : w = 0
  · refine G_tableIn (K := mX0_rowOf) (tgt := 52) dX0_rowOf_1 (by rw [e1_0]; decide) (by rw [e1_0]; decide) (by rw [e1_0]; rfl) (by decide) ?_
    refine G_aload_n (K := mX0_rowOf) (i := 0) dX0_rowOf_52 rfl rfl ?_
    refine G_getr (K := mX0_rowOf) fX0_18 dX0_rowOf_53 rfl rfl ?_
    exact G_aret (st := []) (K := mX0_rowOf) dX0_rowOf_56 ⟨_, rfl, Or.inr ⟨_, rfl⟩⟩ (hQ1 0 (by decide) e1_0)
  by_cases e1_1 : w = 1
  · refine G_tableIn (K := mX0_rowOf) (tgt := 57) dX0_rowOf_1 (by rw [e1_1]; decide) (by rw [e1_1]; decide) (by rw [e1_1]; rfl) (by decide) ?_
    refine G_aload_n (K := mX0_rowOf) (i := 0) dX0_rowOf_57 rfl rfl ?_
    refine G_getr (K := mX0_rowOf) fX0_22 dX0_rowOf_58 rfl rfl ?_
    exact G_aret (st := []) (K := mX0_rowOf) dX0_rowOf_61 ⟨_, rfl, Or.inr ⟨_, rfl⟩⟩ (hQ1 1 (by decide) e1_1)
  by_cases e1_2 : w = 2
  · refine G_tableIn (K := mX0_rowOf) (tgt := 62) dX0_rowOf_1 (by rw [e1_2]; decide) (by rw [e1_2]; decide) (by rw [e1_2]; rfl) (by decide) ?_
    refine G_aload_n (K := mX0_rowOf) (i := 0) dX0_rowOf_62 rfl rfl ?_
    refine G_getr (K := mX0_rowOf) fX0_25 dX0_rowOf_63 rfl rfl ?_
    exact G_aret (st := []) (K := mX0_rowOf) dX0_rowOf_66 ⟨_, rfl, Or.inr ⟨_, rfl⟩⟩ (hQ1 2 (by decide) e1_2)
  by_cases e1_3 : w = 3
  · refine G_tableIn (K := mX0_rowOf) (tgt := 67) dX0_rowOf_1 (by rw [e1_3]; decide) (by rw [e1_3]; decide) (by rw [e1_3]; rfl) (by decide) ?_
    refine G_aload_n (K := mX0_rowOf) (i := 0) dX0_rowOf_67 rfl rfl ?_
    refine G_getr (K := mX0_rowOf) fX0_28 dX0_rowOf_68 rfl rfl ?_
    exact G_aret (st := []) (K := mX0_rowOf) dX0_rowOf_71 ⟨_, rfl, Or.inr ⟨_, rfl⟩⟩ (hQ1 3 (by decide) e1_3)
  by_cases e1_4 : w = 4
  · refine G_tableIn (K := mX0_rowOf) (tgt := 72) dX0_rowOf_1 (by rw [e1_4]; decide) (by rw [e1_4]; decide) (by rw [e1_4]; rfl) (by decide) ?_
    refine G_aload_n (K := mX0_rowOf) (i := 0) dX0_rowOf_72 rfl rfl ?_
    refine G_getr (K := mX0_rowOf) fX0_31 dX0_rowOf_73 rfl rfl ?_
    exact G_aret (st := []) (K := mX0_rowOf) dX0_rowOf_76 ⟨_, rfl, Or.inr ⟨_, rfl⟩⟩ (hQ1 4 (by decide) e1_4)
  by_cases e1_5 : w = 5
  · refine G_tableIn (K := mX0_rowOf) (tgt := 77) dX0_rowOf_1 (by rw [e1_5]; decide) (by rw [e1_5]; decide) (by rw [e1_5]; rfl) (by decide) ?_
    refine G_aload_n (K := mX0_rowOf) (i := 0) dX0_rowOf_77 rfl rfl ?_
    refine G_getr (K := mX0_rowOf) fX0_34 dX0_rowOf_78 rfl rfl ?_
    exact G_aret (st := []) (K := mX0_rowOf) dX0_rowOf_81 ⟨_, rfl, Or.inr ⟨_, rfl⟩⟩ (hQ1 5 (by decide) e1_5)
  by_cases e1_6 : w = 6
  · refine G_tableIn (K := mX0_rowOf) (tgt := 82) dX0_rowOf_1 (by rw [e1_6]; decide) (by rw [e1_6]; decide) (by rw [e1_6]; rfl) (by decide) ?_
    refine G_aload_n (K := mX0_rowOf) (i := 0) dX0_rowOf_82 rfl rfl ?_
    refine G_getr (K := mX0_rowOf) fX0_37 dX0_rowOf_83 rfl rfl ?_
    exact G_aret (st := []) (K := mX0_rowOf) dX0_rowOf_86 ⟨_, rfl, Or.inr ⟨_, rfl⟩⟩ (hQ1 6 (by decide) e1_6)
  by_cases e1_7 : w = 7
  · refine G_tableIn (K := mX0_rowOf) (tgt := 87) dX0_rowOf_1 (by rw [e1_7]; decide) (by rw [e1_7]; decide) (by rw [e1_7]; rfl) (by decide) ?_
    refine G_aload_n (K := mX0_rowOf) (i := 0) dX0_rowOf_87 rfl rfl ?_
    refine G_getr (K := mX0_rowOf) fX0_40 dX0_rowOf_88 rfl rfl ?_
    exact G_aret (st := []) (K := mX0_rowOf) dX0_rowOf_91 ⟨_, rfl, Or.inr ⟨_, rfl⟩⟩ (hQ1 7 (by decide) e1_7)
  by_cases e1_8 : w = 8
  · refine G_tableIn (K := mX0_rowOf) (tgt := 92) dX0_rowOf_1 (by rw [e1_8]; decide) (by rw [e1_8]; decide) (by rw [e1_8]; rfl) (by decide) ?_
    refine G_aload_n (K := mX0_rowOf) (i := 0) dX0_rowOf_92 rfl rfl ?_
    refine G_getr (K := mX0_rowOf) fX0_43 dX0_rowOf_93 rfl rfl ?_
    exact G_aret (st := []) (K := mX0_rowOf) dX0_rowOf_96 ⟨_, rfl, Or.inr ⟨_, rfl⟩⟩ (hQ1 8 (by decide) e1_8)
  have fe1_0 : (w).toInt ≠ 0 := fun h => e1_0 (Int32.toInt_inj.mp (h.trans (by decide)))
  have fe1_1 : (w).toInt ≠ 1 := fun h => e1_1 (Int32.toInt_inj.mp (h.trans (by decide)))
  have fe1_2 : (w).toInt ≠ 2 := fun h => e1_2 (Int32.toInt_inj.mp (h.trans (by decide)))
  have fe1_3 : (w).toInt ≠ 3 := fun h => e1_3 (Int32.toInt_inj.mp (h.trans (by decide)))
  have fe1_4 : (w).toInt ≠ 4 := fun h => e1_4 (Int32.toInt_inj.mp (h.trans (by decide)))
  have fe1_5 : (w).toInt ≠ 5 := fun h => e1_5 (Int32.toInt_inj.mp (h.trans (by decide)))
  have fe1_6 : (w).toInt ≠ 6 := fun h => e1_6 (Int32.toInt_inj.mp (h.trans (by decide)))
  have fe1_7 : (w).toInt ≠ 7 := fun h => e1_7 (Int32.toInt_inj.mp (h.trans (by decide)))
  have fe1_8 : (w).toInt ≠ 8 := fun h => e1_8 (Int32.toInt_inj.mp (h.trans (by decide)))
  refine G_tableOut (K := mX0_rowOf) (tgt := 97) dX0_rowOf_1 (by omega) (by decide) ?_
  refine G_null (K := mX0_rowOf) dX0_rowOf_97 ?_
  refine G_aretN (st := []) (K := mX0_rowOf) dX0_rowOf_98 ⟨_, rfl, Or.inr ⟨_, rfl⟩⟩ (hQ2 (fun k hk => ?_))
  rintro rfl
  have h9 : k = 0 ∨ k = 1 ∨ k = 2 ∨ k = 3 ∨ k = 4 ∨ k = 5 ∨ k = 6 ∨ k = 7 ∨ k = 8 := by omega
  rcases h9 with rfl | rfl | rfl | rfl | rfl | rfl | rfl | rfl | rfl
  · exact e1_0 rfl
  · exact e1_1 rfl
  · exact e1_2 rfl
  · exact e1_3 rfl
  · exact e1_4 rfl
  · exact e1_5 rfl
  · exact e1_6 rfl
  · exact e1_7 rfl
  · exact e1_8 rfl
