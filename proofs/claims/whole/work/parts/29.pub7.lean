theorem refP_fin {σ : Mem} {a : Int32} (h : ¬ refP σ a = 0) : isFin (refP σ a) := by
  unfold refP at h ⊢
  by_cases h1 : refH σ a 24 = 0
  · rw [if_pos h1] at h ⊢
    by_cases h2 : σ 0 0 = 0
    · rw [if_pos h2]; exact ⟨4, by omega, rfl⟩
    · rw [if_neg h2] at h; exact absurd rfl h
  · rw [if_neg h1]; exact refH_fin h1
theorem refP_0 {σ : Mem} {a : Int32} (h : refP σ a = 0) : ∃ k, k < 2147483648 ∧ a = nI k := by
  unfold refP at h
  by_cases h1 : refH σ a 24 = 0
  · obtain ⟨k, -, h2, h3⟩ := refH_nat h1
    exact ⟨k, h2, h3⟩
  · rw [if_neg h1] at h; exact absurd h h1
def okP (n z : Nat) : Bool := decide (z / 8 < z % 8 ∧ z % 8 < n)
def pairV (z : Nat) : Int32 := nI (10 * (z / 8) + z % 8)
/-- the best pair of those below z = 8 one + other: what pair (-1: none), what least warmth -/
def pairZ (f : Nat → Int32) (n : Nat) (c : Int32) : Nat → Int32 × Int32
  | 0 => (-1, c)
  | z + 1 => if okP n z = true then (if (pairZ f n c z).2 < f z then (pairV z, f z) else pairZ f n c z) else pairZ f n c z
theorem pairZ_skip {f : Nat → Int32} {n : Nat} {c : Int32} {a : Nat} : ∀ b, a ≤ b → (∀ z, a ≤ z → z < b → okP n z = false) → pairZ f n c b = pairZ f n c a := by
  intro b
  induction b with
  | zero => intro h _; rw [show a = 0 by omega]
  | succ b ih =>
    intro h hz
    by_cases hab : a = b + 1
    · rw [hab]
    · show (if okP n b = true then _ else pairZ f n c b) = _
      rw [if_neg (by rw [hz b (by omega) (by omega)]; decide)]
      exact ih (by omega) (fun z h1 h2 => hz z h1 (by omega))
def pairF (σ : Mem) (k z : Nat) : Int32 := leastN (mH σ k (z / 8) (z % 8) 2) (nOf σ)
def pairB (σ : Mem) (k : Nat) : Int32 × Int32 := pairZ (pairF σ k) (nOf σ) (leastN (aH σ k 2) (nOf σ)) 64
def opWarmest (σ : Mem) (a : Int32) : Int32 × Mem := if refP σ a = 0 then ((pairB σ (cut a)).2, σ) else tlI σ (refP σ a)
def opExchange (σ : Mem) (a : Int32) : Int32 × Mem := if refP σ a = 0 then (if (pairB σ (cut a)).1 < 0 then tl σ 3 else ((pairB σ (cut a)).1, σ)) else tlI σ (refP σ a)
def dealB (σ : Mem) (k z : Nat) : Bool := okP (nOf σ) z && decide (aH σ k 2 (z / 8) < mH σ k (z / 8) (z % 8) 2 (z % 8) ∧ aH σ k 2 (z % 8) < mH σ k (z / 8) (z % 8) 2 (z / 8))
def opDeal (σ : Mem) (a : Int32) : Int32 × Mem := if refP σ a = 0 then orNone σ (findF (dealB σ (cut a)) 0 64) pairV else tlI σ (refP σ a)
/-- how the class holds it -/
def pairOK (σ : Mem) (k : Nat) (s t : Int32) (z : Nat) : Prop := t = (pairZ (pairF σ k) (nOf σ) (leastN (aH σ k 2) (nOf σ)) z).2 ∧
  ((s = finI 3 ∧ (pairZ (pairF σ k) (nOf σ) (leastN (aH σ k 2) (nOf σ)) z).1 = -1 ∧ t = leastN (aH σ k 2) (nOf σ)) ∨ ∃ y, okP (nOf σ) y = true ∧ s = pairV y ∧ (pairZ (pairF σ k) (nOf σ) (leastN (aH σ k 2) (nOf σ)) z).1 = pairV y ∧ t = pairF σ k y)
theorem pairOK.skip {σ : Mem} {k : Nat} {s t : Int32} {a b : Nat} (h : pairOK σ k s t a) (hab : a ≤ b) (hz : ∀ z, a ≤ z → z < b → okP (nOf σ) z = false) : pairOK σ k s t b := by
  unfold pairOK
  rw [pairZ_skip b hab hz]
  exact h
theorem okP_f {n z : Nat} (h : ¬ (z / 8 < z % 8 ∧ z % 8 < n)) : okP n z = false := decide_eq_false h
theorem okP_t {n i j : Nat} (hij : i < j) (hj : j < n) (hn : n ≤ 8) : okP n (8 * i + j) = true := decide_eq_true (by omega)
theorem pairOK.keep {σ : Mem} {k : Nat} {s t : Int32} {z : Nat} (h : pairOK σ k s t z) (hf : ¬ t < pairF σ k z) : pairOK σ k s t (z + 1) := by
  have e : pairZ (pairF σ k) (nOf σ) (leastN (aH σ k 2) (nOf σ)) (z + 1) = pairZ (pairF σ k) (nOf σ) (leastN (aH σ k 2) (nOf σ)) z := by
    show (if okP (nOf σ) z = true then (if (pairZ (pairF σ k) (nOf σ) (leastN (aH σ k 2) (nOf σ)) z).2 < pairF σ k z then _ else _) else _) = _
    by_cases h1 : okP (nOf σ) z = true
    · rw [if_pos h1, ← h.1, if_neg hf]
    · rw [if_neg h1]
  unfold pairOK
  rw [e]
  exact h
theorem pairOK.take {σ : Mem} {k : Nat} {s t : Int32} {z : Nat} (h : pairOK σ k s t z) (hok : okP (nOf σ) z = true) (hf : t < pairF σ k z) : pairOK σ k (pairV z) (pairF σ k z) (z + 1) := by
  have e : pairZ (pairF σ k) (nOf σ) (leastN (aH σ k 2) (nOf σ)) (z + 1) = (pairV z, pairF σ k z) := by
    show (if okP (nOf σ) z = true then (if (pairZ (pairF σ k) (nOf σ) (leastN (aH σ k 2) (nOf σ)) z).2 < pairF σ k z then _ else _) else _) = _
    rw [if_pos hok, ← h.1, if_pos hf]
  unfold pairOK
  rw [e]
  exact ⟨rfl, Or.inr ⟨z, hok, rfl, rfl, rfl⟩⟩
theorem nI_lin {i j : Nat} (hi : i < 1000) (hj : j < 1000) : (10 : Int32) * nI i + nI j = nI (10 * i + j) := by
  apply i32_ext
  have e10 : (10 : Int32).toInt = 10 := rfl
  have em := mul_I (a := 10) (b := nI i) (by rw [e10, nI_toI (by omega)]; omega) (by rw [e10, nI_toI (by omega)]; omega)
  rw [e10, nI_toI (by omega)] at em
  rw [add_I (by rw [em, nI_toI (by omega)]; omega) (by rw [em, nI_toI (by omega)]; omega), em, nI_toI (by omega), nI_toI (by omega)]
  omega
theorem nI_div {a b : Nat} (ha : a < 2147483648) (hb : 0 < b) (hb2 : b < 2147483648) : nI a / nI b = nI (a / b) := by
  apply i32_ext
  have h1 : a / b ≤ a := Nat.div_le_self a b
  rw [div_I (by rw [nI_toI ha]; omega) (by rw [nI_toI hb2]; omega), nI_toI ha, nI_toI hb2, nI_toI (by omega)]
  exact (Int.natCast_ediv a b).symm
theorem nI_rem {a b : Nat} (ha : a < 2147483648) (hb : 0 < b) (hb2 : b < 2147483648) : remI (nI a) (nI b) = nI (a % b) := by
  unfold remI
  rw [nI_div ha hb hb2]
  have h1 : a / b * b ≤ a := Nat.div_mul_le_self a b
  have h2 : a / b * b + a % b = a := by rw [Nat.mul_comm]; exact Nat.div_add_mod a b
  have em : nI (a / b) * nI b = nI (a / b * b) := by
    have h3 : a / b ≤ a := Nat.div_le_self a b
    apply i32_ext
    have e : ((a / b : Nat) : Int) * ((b : Nat) : Int) = ((a / b * b : Nat) : Int) := (Int.natCast_mul _ _).symm
    rw [mul_I (by rw [nI_toI (by omega), nI_toI hb2, e]; omega) (by rw [nI_toI (by omega), nI_toI hb2, e]; omega), nI_toI (by omega), nI_toI hb2, nI_toI (by omega), e]
  rw [em]
  apply i32_ext
  rw [sub_I (by rw [nI_toI ha, nI_toI (by omega)]; omega) (by rw [nI_toI ha, nI_toI (by omega)]; omega), nI_toI ha, nI_toI (by omega), nI_toI (by have := Nat.mod_lt a hb; omega)]
  omega
set_option maxRecDepth 20000 in
theorem cl_bestPair {M σ : Mem} {k : Nat} (hk2 : k < 2147483648) (hR : RC M σ) (hI : Inv σ) {Q : Option Value → Mem → Prop} (hQ : ∀ M' s t, RC M' σ → HR (hof M' 23) (aH σ k) (nOf σ) → pairOK σ k s t 64 → Q (some (.int s)) M') : CT mX4_bestPair shC 7 [.ref 0, .int (nI k)] M Q := by
  refine CT.mk [some (.ref 0), some (.int (nI k)), none, none, none, none] (by decide) (Nat.le_of_ble_eq_true rfl) rfl rfl ?_
  have hn8 := hI.n8
  refine G_ldc (K := mX4_bestPair) dX4_bestPair_0 kX4_137 ?_
  refine G_istore_n (K := mX4_bestPair) (i := 2) dX4_bestPair_2 rfl (by decide) ?_
  refine G_aload_n (K := mX4_bestPair) (i := 0) dX4_bestPair_3 rfl rfl ?_
  refine G_iload_n (K := mX4_bestPair) (i := 1) dX4_bestPair_4 rfl rfl ?_
  refine G_ga (K := mX4_bestPair) (k := k) hR hI (by omega) lX4_141 dX4_bestPair_5 (by decide) (Nat.le_of_ble_eq_true rfl) (fun h3 hh3 hR23 => ?_)
  have hA0 : HR (hof (hput M 23 h3) 23) (aH σ k) (nOf σ) := HR.hp hh3
  refine G_aload_n (K := mX4_bestPair) (i := 0) dX4_bestPair_8 rfl rfl ?_
  refine G_getr (K := mX4_bestPair) fX4_19 dX4_bestPair_9 rfl rfl ?_
  refine G_hp (K := mX4_bestPair) (b := 23) (by unfold isH; omega) (c_X0_leastWarmth (M := hof (hput M 23 h3) 23) (n := nOf σ) ((hA0.1 0 (by omega)).trans ((hoursH_0 _ _ k).trans hI.nI)) hI.n8 ⟨rfl, rfl⟩) vX0_leastWarmth rfl lX4_123 dX4_bestPair_12 rfl (by decide) rfl (Nat.le_of_ble_eq_true rfl) ?_
  rw [leastN_congr (by omega) (fun i hi => hA0.f 2 (by omega) (by omega) hi)]
  refine G_istore_n (K := mX4_bestPair) (i := 3) dX4_bestPair_15 rfl (by decide) ?_
  refine G_iconst (K := mX4_bestPair) (v := 0) dX4_bestPair_16 (by decide) ?_
  refine G_istore (K := mX4_bestPair) dX4_bestPair_17 (by decide) ?_
  have loop19 : ∀ i, i ≤ nOf σ → ∀ M1, RC M1 σ → HR (hof M1 23) (aH σ k) (nOf σ) → ∀ s t, pairOK σ k s t (8 * i) → ∀ y, G mX4_bestPair shC 7 Q 19 [some (.ref 0), some (.int (nI k)), some (.int s), some (.int t), some (.int (nI i)), y] [] M1 := by
    refine upto (nOf σ) (fun i hi ih => ?_)
    intro M1 hRi hAi s t hst y
    have hn1 : M1 1 0 = nI (nOf σ) := hRi.n.trans hI.nI
    refine G_iload (K := mX4_bestPair) dX4_bestPair_19 rfl ?_
    refine G_aload_n (K := mX4_bestPair) (i := 0) dX4_bestPair_21 rfl rfl ?_
    refine G_getr (K := mX4_bestPair) fX4_12 dX4_bestPair_22 rfl rfl ?_
    refine G_geti (K := mX4_bestPair) fX4_57 dX4_bestPair_25 rfl rfl ?_
    refine G_icmp_ge (K := mX4_bestPair) (tgt := 98) dX4_bestPair_28 (by decide) (fun c28 => ?_) (fun c28 => ?_)
    · skip
      rw [hn1, le_nn (by omega) (by omega)] at c28
      have hin : i = nOf σ := by omega
      refine G_iload_n (K := mX4_bestPair) (i := 2) dX4_bestPair_98 rfl rfl ?_
      exact G_iret (st := []) (K := mX4_bestPair) dX4_bestPair_99 rfl (hQ _ s t hRi hAi (hst.skip (by omega) (fun z h1 h2 => okP_f (by omega))))
    · skip
      rw [hn1, le_nn (by omega) (by omega)] at c28
      have hin : i < nOf σ := by omega
      refine G_iload (K := mX4_bestPair) dX4_bestPair_31 rfl ?_
      refine G_iconst (K := mX4_bestPair) (v := 1) dX4_bestPair_33 (by decide) ?_
      refine G_iadd (K := mX4_bestPair) dX4_bestPair_34 ?_
      rw [nI_1]
      refine G_istore (K := mX4_bestPair) dX4_bestPair_35 (by decide) ?_
      have loop37 : ∀ j, j ≤ nOf σ → i < j → ∀ M2, RC M2 σ → HR (hof M2 23) (aH σ k) (nOf σ) → ∀ s t, pairOK σ k s t (8 * i + j) → G mX4_bestPair shC 7 Q 37 [some (.ref 0), some (.int (nI k)), some (.int s), some (.int t), some (.int (nI i)), some (.int (nI j))] [] M2 := by
        refine upto (nOf σ) (fun j hj ih2 => ?_)
        intro hij M2 hRj hAj s t hsj
        have hn2 : M2 1 0 = nI (nOf σ) := hRj.n.trans hI.nI
        refine G_iload (K := mX4_bestPair) dX4_bestPair_37 rfl ?_
        refine G_aload_n (K := mX4_bestPair) (i := 0) dX4_bestPair_39 rfl rfl ?_
        refine G_getr (K := mX4_bestPair) fX4_12 dX4_bestPair_40 rfl rfl ?_
        refine G_geti (K := mX4_bestPair) fX4_57 dX4_bestPair_43 rfl rfl ?_
        refine G_icmp_ge (K := mX4_bestPair) (tgt := 92) dX4_bestPair_46 (by decide) (fun c46 => ?_) (fun c46 => ?_)
        · skip
          rw [hn2, le_nn (by omega) (by omega)] at c46
          have hjn : j = nOf σ := by omega
          refine G_iincN (K := mX4_bestPair) dX4_bestPair_92 (by decide) rfl ?_
          refine G_goto (K := mX4_bestPair) (tgt := 19) dX4_bestPair_95 (by decide) ?_
          exact ih (i + 1) (by omega) (by omega) _ hRj hAj _ _ (hsj.skip (by omega) (fun z h1 h2 => okP_f (by omega))) _
        · skip
          rw [hn2, le_nn (by omega) (by omega)] at c46
          have hjn : j < nOf σ := by omega
          refine G_aload_n (K := mX4_bestPair) (i := 0) dX4_bestPair_49 rfl rfl ?_
          refine G_iload (K := mX4_bestPair) dX4_bestPair_50 rfl ?_
          refine G_iload (K := mX4_bestPair) dX4_bestPair_52 rfl ?_
          refine G_iload_n (K := mX4_bestPair) (i := 1) dX4_bestPair_54 rfl rfl ?_
          refine G_gm (K := mX4_bestPair) (k := k) (i := i) (j := j) hRj hI (by omega) (by omega) (by omega) lX4_182 dX4_bestPair_55 (by decide) (Nat.le_of_ble_eq_true rfl) (fun h4 hh4 hR4 => ?_)
          have hX4 : HR (hof (hput M2 12 h4) 12) (mH σ k i j) (nOf σ) := HR.hp hh4
          have eF : leastN (fun q => mH σ k i j 2 q) (nOf σ) = pairF σ k (8 * i + j) := by unfold pairF; rw [show (8 * i + j) / 8 = i by omega, show (8 * i + j) % 8 = j by omega]
          refine G_aload_n (K := mX4_bestPair) (i := 0) dX4_bestPair_58 rfl rfl ?_
          refine G_getr (K := mX4_bestPair) fX4_16 dX4_bestPair_59 rfl rfl ?_
          refine G_hp (K := mX4_bestPair) (b := 12) (by unfold isH; omega) (c_X0_leastWarmth (M := hof (hput M2 12 h4) 12) (n := nOf σ) ((hX4.1 0 (by omega)).trans ((hoursH_0 _ _ k).trans ((congrFun (chgH_cell (by omega) (by omega) (by omega)) 0).trans hI.nI))) hI.n8 ⟨rfl, rfl⟩) vX0_leastWarmth rfl lX4_123 dX4_bestPair_62 rfl (by decide) rfl (Nat.le_of_ble_eq_true rfl) ?_
          rw [leastN_congr (by omega) (fun i hi => hX4.f 2 (by omega) (by omega) hi), eF]
          refine G_iload_n (K := mX4_bestPair) (i := 3) dX4_bestPair_65 rfl rfl ?_
          refine G_icmp_le (K := mX4_bestPair) (tgt := 86) dX4_bestPair_66 (by decide) (fun c66 => ?_) (fun c66 => ?_)
          · skip
            refine G_iincN (K := mX4_bestPair) dX4_bestPair_86 (by decide) rfl ?_
            refine G_goto (K := mX4_bestPair) (tgt := 37) dX4_bestPair_89 (by decide) ?_
            exact ih2 (j + 1) (by omega) (by omega) (by omega) _ hR4 (HR.hpn hAj (by unfold apart; omega)) _ _ (hsj.keep (Int32.not_lt.mpr c66))
          · skip
            refine G_aload_n (K := mX4_bestPair) (i := 0) dX4_bestPair_69 rfl rfl ?_
            refine G_getr (K := mX4_bestPair) fX4_16 dX4_bestPair_70 rfl rfl ?_
            refine G_hp (K := mX4_bestPair) (b := 12) (by unfold isH; omega) (c_X0_leastWarmth (M := hof (hput M2 12 h4) 12) (n := nOf σ) ((hX4.1 0 (by omega)).trans ((hoursH_0 _ _ k).trans ((congrFun (chgH_cell (by omega) (by omega) (by omega)) 0).trans hI.nI))) hI.n8 ⟨rfl, rfl⟩) vX0_leastWarmth rfl lX4_123 dX4_bestPair_73 rfl (by decide) rfl (Nat.le_of_ble_eq_true rfl) ?_
            rw [leastN_congr (by omega) (fun i hi => hX4.f 2 (by omega) (by omega) hi), eF]
            refine G_istore_n (K := mX4_bestPair) (i := 3) dX4_bestPair_76 rfl (by decide) ?_
            refine G_bipush (K := mX4_bestPair) (v := 10) dX4_bestPair_77 (by decide) ?_
            refine G_iload (K := mX4_bestPair) dX4_bestPair_79 rfl ?_
            refine G_imul (K := mX4_bestPair) dX4_bestPair_81 ?_
            refine G_iload (K := mX4_bestPair) dX4_bestPair_82 rfl ?_
            refine G_iadd (K := mX4_bestPair) dX4_bestPair_84 ?_
            rw [nI_lin (by omega) (by omega)]
            refine G_istore_n (K := mX4_bestPair) (i := 2) dX4_bestPair_85 rfl (by decide) ?_
            refine G_iincN (K := mX4_bestPair) dX4_bestPair_86 (by decide) rfl ?_
            refine G_goto (K := mX4_bestPair) (tgt := 37) dX4_bestPair_89 (by decide) ?_
            have hok := okP_t hij hjn hn8
            have hT := hsj.take hok (Int32.not_le.mp c66)
            have ev : pairV (8 * i + j) = nI (10 * i + j) := by unfold pairV; rw [show (8 * i + j) / 8 = i by omega, show (8 * i + j) % 8 = j by omega]
            rw [ev] at hT
            exact ih2 (j + 1) (by omega) (by omega) (by omega) _ hR4 (HR.hpn hAj (by unfold apart; omega)) _ _ hT
      exact loop37 (i + 1) (by omega) (by omega) _ hRi hAi _ _ (hst.skip (by omega) (fun z h1 h2 => okP_f (by omega)))
  exact loop19 0 (by omega) _ hR23 hA0 _ _ ⟨rfl, Or.inl ⟨rfl, rfl, rfl⟩⟩ _

set_option maxRecDepth 20000 in
theorem cl_warmest {M σ : Mem} {a : Int32} (hR : RC M σ) (hI : Inv σ) {Q : Option Value → Mem → Prop} (hQ : ∀ u' M', PostC (opWarmest σ a) u' M' → Q u' M') : CT mX4_warmest shC 8 [.ref 0, .int a] M Q := by
  refine CT.mk [some (.ref 0), some (.int a), none, none] (by decide) (Nat.le_of_ble_eq_true rfl) rfl rfl ?_
  refine G_aload_n (K := mX4_warmest) (i := 0) dX4_warmest_0 rfl rfl ?_
  refine G_iload_n (K := mX4_warmest) (i := 1) dX4_warmest_1 rfl rfl ?_
  refine G_cv (K := mX4_warmest) (cl_fPairs (a := a) hR hI ⟨rfl, rfl⟩) vX4_findingOfPairs rfl lX4_176 dX4_warmest_2 ⟨_, _, _, rfl, rfl, rfl⟩ (by decide) rfl (Nat.le_of_ble_eq_true rfl) ?_
  refine G_istore_n (K := mX4_warmest) (i := 2) dX4_warmest_5 rfl (by decide) ?_
  refine G_iload_n (K := mX4_warmest) (i := 2) dX4_warmest_6 rfl rfl ?_
  refine G_if_eq (K := mX4_warmest) (tgt := 16) dX4_warmest_7 (by decide) (fun c7 => ?_) (fun c7 => ?_)
  · skip
    obtain ⟨k, hk2, rfl⟩ := refP_0 c7
    have hn8 := hI.n8
    refine G_aload_n (K := mX4_warmest) (i := 0) dX4_warmest_16 rfl rfl ?_
    refine G_iload_n (K := mX4_warmest) (i := 1) dX4_warmest_17 rfl rfl ?_
    refine G_call0 (K := mX4_warmest) (Q' := fun v M' => ∃ s t, v = some (.int s) ∧ RC M' σ ∧ HR (hof M' 23) (aH σ k) (nOf σ) ∧ pairOK σ k s t 64) (cl_bestPair (k := k) hk2 hR hI (fun M' s t h1 h2 h3 => ⟨s, t, rfl, h1, h2, h3⟩)) vX4_bestPair rfl lX4_179 ⟨_, _, _, rfl, rfl, rfl⟩ (by decide) (Nat.le_of_ble_eq_true rfl) dX4_warmest_18 rfl ?_
    rintro v M1 ⟨s, t, rfl, hRp, hAp, hst⟩
    refine G_istore_n (K := mX4_warmest) (i := 3) dX4_warmest_21 rfl (by decide) ?_
    refine G_iload_n (K := mX4_warmest) (i := 3) dX4_warmest_22 rfl rfl ?_
    refine G_ldc (K := mX4_warmest) dX4_warmest_23 kX4_137 ?_
    refine G_icmp_ne (K := mX4_warmest) (tgt := 36) dX4_warmest_25 (by decide) (fun c25 => ?_) (fun c25 => ?_)
    · skip
      obtain ⟨y, hy, rfl, hy1, hy2⟩ : ∃ y, okP (nOf σ) y = true ∧ s = pairV y ∧ (pairB σ k).1 = pairV y ∧ t = pairF σ k y := by
        rcases hst.2 with ⟨h, -⟩ | h
        · exact absurd h c25
        · exact h
      have hyy : y / 8 < y % 8 ∧ y % 8 < nOf σ := of_decide_eq_true hy
      refine G_aload_n (K := mX4_warmest) (i := 0) dX4_warmest_36 rfl rfl ?_
      refine G_iload_n (K := mX4_warmest) (i := 3) dX4_warmest_37 rfl rfl ?_
      refine G_bipush (K := mX4_warmest) (v := 10) dX4_warmest_38 (by decide) ?_
      refine G_idiv (K := mX4_warmest) dX4_warmest_40 (by decide) ?_
      rw [show (pairV y : Int32) / 10 = nI (y / 8) from (nI_div (a := 10 * (y / 8) + y % 8) (b := 10) (by omega) (by decide) (by decide)).trans (by rw [show (10 * (y / 8) + y % 8) / 10 = y / 8 by omega])]
      refine G_iload_n (K := mX4_warmest) (i := 3) dX4_warmest_41 rfl rfl ?_
      refine G_bipush (K := mX4_warmest) (v := 10) dX4_warmest_42 (by decide) ?_
      refine G_irem (K := mX4_warmest) dX4_warmest_44 (by decide) ?_
      rw [show pairV y - pairV y / 10 * 10 = nI (y % 8) from (nI_rem (a := 10 * (y / 8) + y % 8) (b := 10) (by omega) (by decide) (by decide)).trans (by rw [show (10 * (y / 8) + y % 8) % 10 = y % 8 by omega])]
      refine G_iload_n (K := mX4_warmest) (i := 1) dX4_warmest_45 rfl rfl ?_
      refine G_gm (K := mX4_warmest) (k := k) (i := (y / 8)) (j := (y % 8)) hRp hI (by omega) (by omega) (by omega) lX4_182 dX4_warmest_46 (by decide) (Nat.le_of_ble_eq_true rfl) (fun h4 hh4 hR4 => ?_)
      have hX4 : HR (hof (hput M1 12 h4) 12) (mH σ k (y / 8) (y % 8)) (nOf σ) := HR.hp hh4
      refine G_aload_n (K := mX4_warmest) (i := 0) dX4_warmest_49 rfl rfl ?_
      refine G_getr (K := mX4_warmest) fX4_16 dX4_warmest_50 rfl rfl ?_
      refine G_hp (K := mX4_warmest) (b := 12) (by unfold isH; omega) (c_X0_leastWarmth (M := hof (hput M1 12 h4) 12) (n := nOf σ) ((hX4.1 0 (by omega)).trans ((hoursH_0 _ _ k).trans ((congrFun (chgH_cell (by omega) (by omega) (by omega)) 0).trans hI.nI))) hI.n8 ⟨rfl, rfl⟩) vX0_leastWarmth rfl lX4_123 dX4_warmest_53 rfl (by decide) rfl (Nat.le_of_ble_eq_true rfl) ?_
      rw [leastN_congr (by omega) (fun i hi => hX4.f 2 (by omega) (by omega) hi)]
      exact G_iret (st := []) (K := mX4_warmest) dX4_warmest_56 rfl (hQ _ _ (by rw [show opWarmest σ (nI k) = _ from (by unfold opWarmest; exact if_pos c7)]; rw [cut_nI hk2]; exact ⟨congrArg (fun z => some (Value.int z)) (hy2.symm.trans hst.1), hR4⟩))
    · skip
      have ht : t = leastN (aH σ k 2) (nOf σ) := by
        rcases hst.2 with ⟨-, -, h⟩ | ⟨y, hy, h, -⟩
        · exact h
        · exfalso
          rw [h] at c25
          have e : (pairV y).toInt = (-1000004 : Int32).toInt := congrArg Int32.toInt c25
          have hyy : y / 8 < y % 8 ∧ y % 8 < nOf σ := of_decide_eq_true hy
          rw [show (pairV y).toInt = ((10 * (y / 8) + y % 8 : Nat) : Int) from nI_toI (by omega)] at e
          have e2 : (-1000004 : Int32).toInt = -1000004 := by decide
          omega
      refine G_aload_n (K := mX4_warmest) (i := 0) dX4_warmest_28 rfl rfl ?_
      refine G_getr (K := mX4_warmest) fX4_19 dX4_warmest_29 rfl rfl ?_
      refine G_hp (K := mX4_warmest) (b := 23) (by unfold isH; omega) (c_X0_leastWarmth (M := hof M1 23) (n := nOf σ) ((hAp.1 0 (by omega)).trans ((hoursH_0 _ _ k).trans hI.nI)) hI.n8 ⟨rfl, rfl⟩) vX0_leastWarmth rfl lX4_123 dX4_warmest_32 rfl (by decide) rfl (Nat.le_of_ble_eq_true rfl) ?_
      rw [leastN_congr (by omega) (fun i hi => hAp.f 2 (by omega) (by omega) hi)]
      exact G_iret (st := []) (K := mX4_warmest) dX4_warmest_35 rfl (hQ _ _ (by rw [show opWarmest σ (nI k) = _ from (by unfold opWarmest; exact if_pos c7)]; rw [cut_nI hk2]; exact ⟨congrArg (fun z => some (Value.int z)) (ht.symm.trans hst.1), hRp⟩))
  · skip
    refine G_aload_n (K := mX4_warmest) (i := 0) dX4_warmest_10 rfl rfl ?_
    refine G_iload_n (K := mX4_warmest) (i := 2) dX4_warmest_11 rfl rfl ?_
    obtain ⟨q, hq, eq⟩ := refP_fin c7
    rw [eq]
    refine G_call0 (K := mX4_warmest) (Q' := PostC (tl σ q)) (cl_tell hR (k := q) (by omega) (fun _ _ h => h)) vX4_tell rfl lX4_53 ⟨_, _, _, rfl, rfl, rfl⟩ (by decide) (Nat.le_of_ble_eq_true rfl) dX4_warmest_12 rfl ?_
    rintro v M1 ⟨rfl, hR1⟩
    exact G_iret (st := []) (K := mX4_warmest) dX4_warmest_15 rfl (hQ _ _ (by rw [show opWarmest σ a = _ from (by unfold opWarmest; exact (if_neg c7).trans ((congrArg (tlI σ) eq).trans (tlI_fin hq)))]; exact ⟨rfl, hR1⟩))

set_option maxRecDepth 20000 in
theorem cl_exchange {M σ : Mem} {a : Int32} (hR : RC M σ) (hI : Inv σ) {Q : Option Value → Mem → Prop} (hQ : ∀ u' M', PostC (opExchange σ a) u' M' → Q u' M') : CT mX4_exchange shC 8 [.ref 0, .int a] M Q := by
  refine CT.mk [some (.ref 0), some (.int a), none, none] (by decide) (Nat.le_of_ble_eq_true rfl) rfl rfl ?_
  refine G_aload_n (K := mX4_exchange) (i := 0) dX4_exchange_0 rfl rfl ?_
  refine G_iload_n (K := mX4_exchange) (i := 1) dX4_exchange_1 rfl rfl ?_
  refine G_cv (K := mX4_exchange) (cl_fPairs (a := a) hR hI ⟨rfl, rfl⟩) vX4_findingOfPairs rfl lX4_176 dX4_exchange_2 ⟨_, _, _, rfl, rfl, rfl⟩ (by decide) rfl (Nat.le_of_ble_eq_true rfl) ?_
  refine G_istore_n (K := mX4_exchange) (i := 2) dX4_exchange_5 rfl (by decide) ?_
  refine G_iload_n (K := mX4_exchange) (i := 2) dX4_exchange_6 rfl rfl ?_
  refine G_if_eq (K := mX4_exchange) (tgt := 16) dX4_exchange_7 (by decide) (fun c7 => ?_) (fun c7 => ?_)
  · skip
    obtain ⟨k, hk2, rfl⟩ := refP_0 c7
    have hn8 := hI.n8
    refine G_aload_n (K := mX4_exchange) (i := 0) dX4_exchange_16 rfl rfl ?_
    refine G_iload_n (K := mX4_exchange) (i := 1) dX4_exchange_17 rfl rfl ?_
    refine G_call0 (K := mX4_exchange) (Q' := fun v M' => ∃ s t, v = some (.int s) ∧ RC M' σ ∧ HR (hof M' 23) (aH σ k) (nOf σ) ∧ pairOK σ k s t 64) (cl_bestPair (k := k) hk2 hR hI (fun M' s t h1 h2 h3 => ⟨s, t, rfl, h1, h2, h3⟩)) vX4_bestPair rfl lX4_179 ⟨_, _, _, rfl, rfl, rfl⟩ (by decide) (Nat.le_of_ble_eq_true rfl) dX4_exchange_18 rfl ?_
    rintro v M1 ⟨s, t, rfl, hRp, hAp, hst⟩
    refine G_istore_n (K := mX4_exchange) (i := 3) dX4_exchange_21 rfl (by decide) ?_
    refine G_iload_n (K := mX4_exchange) (i := 3) dX4_exchange_22 rfl rfl ?_
    refine G_ldc (K := mX4_exchange) dX4_exchange_23 kX4_137 ?_
    refine G_icmp_ne (K := mX4_exchange) (tgt := 37) dX4_exchange_25 (by decide) (fun c25 => ?_) (fun c25 => ?_)
    · skip
      obtain ⟨y, hy, rfl, hy1, hy2⟩ : ∃ y, okP (nOf σ) y = true ∧ s = pairV y ∧ (pairB σ k).1 = pairV y ∧ t = pairF σ k y := by
        rcases hst.2 with ⟨h, -⟩ | h
        · exact absurd h c25
        · exact h
      have hyy : y / 8 < y % 8 ∧ y % 8 < nOf σ := of_decide_eq_true hy
      have hy0 : ¬ pairV y < 0 := nI_pos (by omega)
      refine G_iload_n (K := mX4_exchange) (i := 3) dX4_exchange_37 rfl rfl ?_
      exact G_iret (st := []) (K := mX4_exchange) dX4_exchange_38 rfl (hQ _ _ (by rw [show opExchange σ (nI k) = _ from (by unfold opExchange; exact (if_pos c7).trans (if_neg (by rw [cut_nI hk2, hy1]; exact hy0)))]; rw [cut_nI hk2]; exact ⟨congrArg (fun z => some (Value.int z)) hy1.symm, hRp⟩))
    · skip
      have ht : (pairB σ k).1 = -1 := by
        rcases hst.2 with ⟨-, h, -⟩ | ⟨y, hy, h, -⟩
        · exact h
        · exfalso
          rw [h] at c25
          have e : (pairV y).toInt = (-1000004 : Int32).toInt := congrArg Int32.toInt c25
          have hyy : y / 8 < y % 8 ∧ y % 8 < nOf σ := of_decide_eq_true hy
          rw [show (pairV y).toInt = ((10 * (y / 8) + y % 8 : Nat) : Int) from nI_toI (by omega)] at e
          have e2 : (-1000004 : Int32).toInt = -1000004 := by decide
          omega
      refine G_aload_n (K := mX4_exchange) (i := 0) dX4_exchange_28 rfl rfl ?_
      refine G_ldc (K := mX4_exchange) dX4_exchange_29 kX4_137 ?_
      refine G_call0 (K := mX4_exchange) (Q' := PostC (tl σ 3)) (cl_tell hRp (k := 3) (by omega) (fun _ _ h => h)) vX4_tell rfl lX4_53 ⟨_, _, _, rfl, rfl, rfl⟩ (by decide) (Nat.le_of_ble_eq_true rfl) dX4_exchange_31 rfl ?_
      rintro v M1 ⟨rfl, hR1⟩
      refine G_goto (K := mX4_exchange) (tgt := 38) dX4_exchange_34 (by decide) ?_
      exact G_iret (st := []) (K := mX4_exchange) dX4_exchange_38 rfl (hQ _ _ (by rw [show opExchange σ (nI k) = _ from (by unfold opExchange; exact (if_pos c7).trans (if_pos (by rw [cut_nI hk2, ht]; decide)))]; exact ⟨rfl, hR1⟩))
  · skip
    refine G_aload_n (K := mX4_exchange) (i := 0) dX4_exchange_10 rfl rfl ?_
    refine G_iload_n (K := mX4_exchange) (i := 2) dX4_exchange_11 rfl rfl ?_
    obtain ⟨q, hq, eq⟩ := refP_fin c7
    rw [eq]
    refine G_call0 (K := mX4_exchange) (Q' := PostC (tl σ q)) (cl_tell hR (k := q) (by omega) (fun _ _ h => h)) vX4_tell rfl lX4_53 ⟨_, _, _, rfl, rfl, rfl⟩ (by decide) (Nat.le_of_ble_eq_true rfl) dX4_exchange_12 rfl ?_
    rintro v M1 ⟨rfl, hR1⟩
    exact G_iret (st := []) (K := mX4_exchange) dX4_exchange_15 rfl (hQ _ _ (by rw [show opExchange σ a = _ from (by unfold opExchange; exact (if_neg c7).trans ((congrArg (tlI σ) eq).trans (tlI_fin hq)))]; exact ⟨rfl, hR1⟩))

set_option maxRecDepth 20000 in
theorem cl_deal {M σ : Mem} {a : Int32} (hR : RC M σ) (hI : Inv σ) {Q : Option Value → Mem → Prop} (hQ : ∀ u' M', PostC (opDeal σ a) u' M' → Q u' M') : CT mX4_deal shC 8 [.ref 0, .int a] M Q := by
  refine CT.mk [some (.ref 0), some (.int a), none, none, none] (by decide) (Nat.le_of_ble_eq_true rfl) rfl rfl ?_
  refine G_aload_n (K := mX4_deal) (i := 0) dX4_deal_0 rfl rfl ?_
  refine G_iload_n (K := mX4_deal) (i := 1) dX4_deal_1 rfl rfl ?_
  refine G_cv (K := mX4_deal) (cl_fPairs (a := a) hR hI ⟨rfl, rfl⟩) vX4_findingOfPairs rfl lX4_176 dX4_deal_2 ⟨_, _, _, rfl, rfl, rfl⟩ (by decide) rfl (Nat.le_of_ble_eq_true rfl) ?_
  refine G_istore_n (K := mX4_deal) (i := 2) dX4_deal_5 rfl (by decide) ?_
  refine G_iload_n (K := mX4_deal) (i := 2) dX4_deal_6 rfl rfl ?_
  refine G_if_eq (K := mX4_deal) (tgt := 16) dX4_deal_7 (by decide) (fun c7 => ?_) (fun c7 => ?_)
  · skip
    obtain ⟨k, hk2, rfl⟩ := refP_0 c7
    have hn8 := hI.n8
    refine G_aload_n (K := mX4_deal) (i := 0) dX4_deal_16 rfl rfl ?_
    refine G_iload_n (K := mX4_deal) (i := 1) dX4_deal_17 rfl rfl ?_
    refine G_ga (K := mX4_deal) (k := k) hR hI (by omega) lX4_141 dX4_deal_18 (by decide) (Nat.le_of_ble_eq_true rfl) (fun h3 hh3 hR23 => ?_)
    have hA0 : HR (hof (hput M 23 h3) 23) (aH σ k) (nOf σ) := HR.hp hh3
    refine G_iconst (K := mX4_deal) (v := 0) dX4_deal_21 (by decide) ?_
    refine G_istore_n (K := mX4_deal) (i := 3) dX4_deal_22 rfl (by decide) ?_
    have loop23 : ∀ i, i ≤ nOf σ → ∀ M1, RC M1 σ → HR (hof M1 23) (aH σ k) (nOf σ) → (∀ z, z < 8 * i → dealB σ k z = false) → ∀ y, G mX4_deal shC 8 Q 23 [some (.ref 0), some (.int (nI k)), some (.int (refP σ (nI k))), some (.int (nI i)), y] [] M1 := by
      refine upto (nOf σ) (fun i hi ih => ?_)
      intro M1 hRi hAi hno y
      have hn1 : M1 1 0 = nI (nOf σ) := hRi.n.trans hI.nI
      refine G_iload_n (K := mX4_deal) (i := 3) dX4_deal_23 rfl rfl ?_
      refine G_aload_n (K := mX4_deal) (i := 0) dX4_deal_24 rfl rfl ?_
      refine G_getr (K := mX4_deal) fX4_12 dX4_deal_25 rfl rfl ?_
      refine G_geti (K := mX4_deal) fX4_57 dX4_deal_28 rfl rfl ?_
      refine G_icmp_ge (K := mX4_deal) (tgt := 123) dX4_deal_31 (by decide) (fun c31 => ?_) (fun c31 => ?_)
      · skip
        rw [hn1, le_nn (by omega) (by omega)] at c31
        have hin : i = nOf σ := by omega
        refine G_aload_n (K := mX4_deal) (i := 0) dX4_deal_123 rfl rfl ?_
        refine G_ldc (K := mX4_deal) dX4_deal_124 kX4_137 ?_
        refine G_call0 (K := mX4_deal) (Q' := PostC (tl σ 3)) (cl_tell hRi (k := 3) (by omega) (fun _ _ h => h)) vX4_tell rfl lX4_53 ⟨_, _, _, rfl, rfl, rfl⟩ (by decide) (Nat.le_of_ble_eq_true rfl) dX4_deal_126 rfl ?_
        rintro v M1 ⟨rfl, hR1⟩
        exact G_iret (st := []) (K := mX4_deal) dX4_deal_129 rfl (hQ _ _ (by rw [show opDeal σ (nI k) = orNone σ (findF (dealB σ (cut (nI k))) 0 64) pairV from if_pos c7, cut_nI hk2, findF_n0 (fun z hz => ?_)]; exact ⟨rfl, hR1⟩; by_cases h : z < 8 * i; exact hno z h; unfold dealB; rw [okP_f (by omega), Bool.false_and]))
      · skip
        rw [hn1, le_nn (by omega) (by omega)] at c31
        have hin : i < nOf σ := by omega
        refine G_iload_n (K := mX4_deal) (i := 3) dX4_deal_34 rfl rfl ?_
        refine G_iconst (K := mX4_deal) (v := 1) dX4_deal_35 (by decide) ?_
        refine G_iadd (K := mX4_deal) dX4_deal_36 ?_
        rw [nI_1]
        refine G_istore (K := mX4_deal) dX4_deal_37 (by decide) ?_
        have loop39 : ∀ j, j ≤ nOf σ → i < j → ∀ M2, RC M2 σ → HR (hof M2 23) (aH σ k) (nOf σ) → (∀ z, z < 8 * i + j → dealB σ k z = false) → G mX4_deal shC 8 Q 39 [some (.ref 0), some (.int (nI k)), some (.int (refP σ (nI k))), some (.int (nI i)), some (.int (nI j))] [] M2 := by
          refine upto (nOf σ) (fun j hj ih2 => ?_)
          intro hij M2 hRj hAj hnj
          have hn2 : M2 1 0 = nI (nOf σ) := hRj.n.trans hI.nI
          refine G_iload (K := mX4_deal) dX4_deal_39 rfl ?_
          refine G_aload_n (K := mX4_deal) (i := 0) dX4_deal_41 rfl rfl ?_
          refine G_getr (K := mX4_deal) fX4_12 dX4_deal_42 rfl rfl ?_
          refine G_geti (K := mX4_deal) fX4_57 dX4_deal_45 rfl rfl ?_
          refine G_icmp_ge (K := mX4_deal) (tgt := 117) dX4_deal_48 (by decide) (fun c48 => ?_) (fun c48 => ?_)
          · skip
            rw [hn2, le_nn (by omega) (by omega)] at c48
            have hjn : j = nOf σ := by omega
            refine G_iincN (K := mX4_deal) dX4_deal_117 (by decide) rfl ?_
            refine G_goto (K := mX4_deal) (tgt := 23) dX4_deal_120 (by decide) ?_
            exact ih (i + 1) (by omega) (by omega) _ hRj hAj (fun z hz => by
              by_cases h : z < 8 * i + j
              · exact hnj z h
              · unfold dealB; rw [okP_f (by omega), Bool.false_and]) _
          · skip
            rw [hn2, le_nn (by omega) (by omega)] at c48
            have hjn : j < nOf σ := by omega
            refine G_aload_n (K := mX4_deal) (i := 0) dX4_deal_51 rfl rfl ?_
            refine G_iload_n (K := mX4_deal) (i := 3) dX4_deal_52 rfl rfl ?_
            refine G_iload (K := mX4_deal) dX4_deal_53 rfl ?_
            refine G_iload_n (K := mX4_deal) (i := 1) dX4_deal_55 rfl rfl ?_
            refine G_gm (K := mX4_deal) (k := k) (i := i) (j := j) hRj hI (by omega) (by omega) (by omega) lX4_182 dX4_deal_56 (by decide) (Nat.le_of_ble_eq_true rfl) (fun h4 hh4 hR4 => ?_)
            have hX4 : HR (hof (hput M2 12 h4) 12) (mH σ k i j) (nOf σ) := HR.hp hh4
            have hA4 : HR (hof (hput M2 12 h4) 23) (aH σ k) (nOf σ) := HR.hpn hAj (by unfold apart; omega)
            have e1 : hput M2 12 h4 14 j = mH σ k i j 2 j := hX4.f 2 (by omega) (by omega) hjn
            have e2 : hput M2 12 h4 14 i = mH σ k i j 2 i := hX4.f 2 (by omega) (by omega) (by omega)
            have e3 : hput M2 12 h4 25 i = aH σ k 2 i := hA4.f 2 (by omega) (by omega) (by omega)
            have e4 : hput M2 12 h4 25 j = aH σ k 2 j := hA4.f 2 (by omega) (by omega) hjn
            have eB : dealB σ k (8 * i + j) = decide (aH σ k 2 i < mH σ k i j 2 j ∧ aH σ k 2 j < mH σ k i j 2 i) := by
              unfold dealB
              rw [okP_t hij hjn hn8, show (8 * i + j) / 8 = i by omega, show (8 * i + j) % 8 = j by omega, Bool.true_and]
            refine G_aload_n (K := mX4_deal) (i := 0) dX4_deal_59 rfl rfl ?_
            refine G_getr (K := mX4_deal) fX4_16 dX4_deal_60 rfl rfl ?_
            refine G_getr (K := mX4_deal) fX4_113 dX4_deal_63 rfl rfl ?_
            refine G_iload (K := mX4_deal) dX4_deal_66 rfl ?_
            refine G_ld (K := mX4_deal) _ dX4_deal_68 rfl rfl (by omega) (by decide) ?_
            refine G_aload_n (K := mX4_deal) (i := 0) dX4_deal_69 rfl rfl ?_
            refine G_getr (K := mX4_deal) fX4_19 dX4_deal_70 rfl rfl ?_
            refine G_getr (K := mX4_deal) fX4_113 dX4_deal_73 rfl rfl ?_
            refine G_iload_n (K := mX4_deal) (i := 3) dX4_deal_76 rfl rfl ?_
            refine G_ld (K := mX4_deal) _ dX4_deal_77 rfl rfl (by omega) (by decide) ?_
            refine G_icmp_le (K := mX4_deal) (tgt := 111) dX4_deal_78 (by decide) (fun c78 => ?_) (fun c78 => ?_)
            · skip
              refine G_iincN (K := mX4_deal) dX4_deal_111 (by decide) rfl ?_
              refine G_goto (K := mX4_deal) (tgt := 39) dX4_deal_114 (by decide) ?_
              refine ih2 (j + 1) (by omega) (by omega) (by omega) _ hR4 hA4 (fun z hz => ?_)
              by_cases h : z < 8 * i + j
              · exact hnj z h
              · rw [show z = 8 * i + j by omega, eB]
                refine decide_eq_false (fun w => ?_)
                first
                  | (rw [e1, e3] at c78; exact Int32.not_lt.mpr c78 w.1)
                  | (rw [e2, e4] at c100; exact Int32.not_lt.mpr c100 w.2)
            · skip
              refine G_aload_n (K := mX4_deal) (i := 0) dX4_deal_81 rfl rfl ?_
              refine G_getr (K := mX4_deal) fX4_16 dX4_deal_82 rfl rfl ?_
              refine G_getr (K := mX4_deal) fX4_113 dX4_deal_85 rfl rfl ?_
              refine G_iload_n (K := mX4_deal) (i := 3) dX4_deal_88 rfl rfl ?_
              refine G_ld (K := mX4_deal) _ dX4_deal_89 rfl rfl (by omega) (by decide) ?_
              refine G_aload_n (K := mX4_deal) (i := 0) dX4_deal_90 rfl rfl ?_
              refine G_getr (K := mX4_deal) fX4_19 dX4_deal_91 rfl rfl ?_
              refine G_getr (K := mX4_deal) fX4_113 dX4_deal_94 rfl rfl ?_
              refine G_iload (K := mX4_deal) dX4_deal_97 rfl ?_
              refine G_ld (K := mX4_deal) _ dX4_deal_99 rfl rfl (by omega) (by decide) ?_
              refine G_icmp_le (K := mX4_deal) (tgt := 111) dX4_deal_100 (by decide) (fun c100 => ?_) (fun c100 => ?_)
              · skip
                refine G_iincN (K := mX4_deal) dX4_deal_111 (by decide) rfl ?_
                refine G_goto (K := mX4_deal) (tgt := 39) dX4_deal_114 (by decide) ?_
                refine ih2 (j + 1) (by omega) (by omega) (by omega) _ hR4 hA4 (fun z hz => ?_)
                by_cases h : z < 8 * i + j
                · exact hnj z h
                · rw [show z = 8 * i + j by omega, eB]
                  refine decide_eq_false (fun w => ?_)
                  first
                    | (rw [e1, e3] at c78; exact Int32.not_lt.mpr c78 w.1)
                    | (rw [e2, e4] at c100; exact Int32.not_lt.mpr c100 w.2)
              · skip
                refine G_bipush (K := mX4_deal) (v := 10) dX4_deal_103 (by decide) ?_
                refine G_iload_n (K := mX4_deal) (i := 3) dX4_deal_105 rfl rfl ?_
                refine G_imul (K := mX4_deal) dX4_deal_106 ?_
                refine G_iload (K := mX4_deal) dX4_deal_107 rfl ?_
                refine G_iadd (K := mX4_deal) dX4_deal_109 ?_
                rw [nI_lin (by omega) (by omega)]
                rw [e1, e3] at c78
                rw [e2, e4] at c100
                exact G_iret (st := []) (K := mX4_deal) dX4_deal_110 rfl (hQ _ _ (by rw [show opDeal σ (nI k) = orNone σ (findF (dealB σ (cut (nI k))) 0 64) pairV from if_pos c7, cut_nI hk2, findF_0 (j := 8 * i + j) (by omega) hnj (by rw [eB]; exact decide_eq_true ⟨Int32.not_le.mp c78, Int32.not_le.mp c100⟩)]; exact ⟨congrArg (fun z => some (Value.int z)) (by show _ = pairV (8 * i + j); unfold pairV; rw [show (8 * i + j) / 8 = i by omega, show (8 * i + j) % 8 = j by omega]), hR4⟩))
        exact loop39 (i + 1) (by omega) (by omega) _ hRi hAi (fun z hz => by
          by_cases h : z < 8 * i
          · exact hno z h
          · unfold dealB; rw [okP_f (by omega), Bool.false_and])
    exact loop23 0 (by omega) _ hR23 hA0 (fun z hz => absurd hz (by omega)) _
  · skip
    refine G_aload_n (K := mX4_deal) (i := 0) dX4_deal_10 rfl rfl ?_
    refine G_iload_n (K := mX4_deal) (i := 2) dX4_deal_11 rfl rfl ?_
    obtain ⟨q, hq, eq⟩ := refP_fin c7
    rw [eq]
    refine G_call0 (K := mX4_deal) (Q' := PostC (tl σ q)) (cl_tell hR (k := q) (by omega) (fun _ _ h => h)) vX4_tell rfl lX4_53 ⟨_, _, _, rfl, rfl, rfl⟩ (by decide) (Nat.le_of_ble_eq_true rfl) dX4_deal_12 rfl ?_
    rintro v M1 ⟨rfl, hR1⟩
    exact G_iret (st := []) (K := mX4_deal) dX4_deal_15 rfl (hQ _ _ (by rw [show opDeal σ a = _ from (by unfold opDeal; exact (if_neg c7).trans ((congrArg (tlI σ) eq).trans (tlI_fin hq)))]; exact ⟨rfl, hR1⟩))
