theorem and1 (x : Int32) : x &&& 1 = 0 ∨ x &&& 1 = 1 := by
  have e : ((x &&& 1).toBitVec).toNat = x.toBitVec.toNat % 2 := by
    rw [Int32.toBitVec_and, BitVec.toNat_and]
    exact Nat.and_one_is_mod _
  rcases Nat.mod_two_eq_zero_or_one x.toBitVec.toNat with h | h
  · refine Or.inl (Int32.toBitVec_inj.mp (BitVec.eq_of_toNat_eq ?_))
    rw [e, h]; rfl
  · refine Or.inr (Int32.toBitVec_inj.mp (BitVec.eq_of_toNat_eq ?_))
    rw [e, h]; rfl
theorem mask_or : ∀ m : Fin 256, ∀ a : Fin 8, nI m.1 ||| bitI a.1 = nI (m.1 ||| 2 ^ a.1) ∧ m.1 ||| 2 ^ a.1 < 256 := by decide +kernel
theorem mask_has : ∀ m : Fin 256, ∀ a : Fin 8, ((nI m.1 >>> (nI a.1 &&& 31)) &&& 1 = 1) ↔ m.1.testBit a.1 = true := by decide +kernel
def unN (m : Nat) : Nat → Nat
  | 0 => 0
  | n + 1 => if m.testBit n = true then unN m n else unN m n + 1
theorem unN_0 : ∀ n, unN 0 n = n
  | 0 => rfl
  | n + 1 => by
    show (if (0 : Nat).testBit n = true then unN 0 n else unN 0 n + 1) = n + 1
    rw [if_neg (by rw [Nat.zero_testBit]; decide), unN_0 n]
theorem or_bit {m a x : Nat} : (m ||| 2 ^ a).testBit x = (m.testBit x || decide (a = x)) := by
  rw [Nat.testBit_or, Nat.testBit_two_pow]
theorem unN_s {m a : Nat} (ha : m.testBit a = false) : ∀ n, unN m n = if a < n then unN (m ||| 2 ^ a) n + 1 else unN (m ||| 2 ^ a) n
  | 0 => by rw [if_neg (by omega)]; rfl
  | n + 1 => by
    show (if m.testBit n = true then unN m n else unN m n + 1) = _
    have e : unN (m ||| 2 ^ a) (n + 1) = if (m ||| 2 ^ a).testBit n = true then unN (m ||| 2 ^ a) n else unN (m ||| 2 ^ a) n + 1 := rfl
    rw [e, or_bit, unN_s ha n]
    by_cases h1 : a = n
    · subst h1
      rw [if_neg (by rw [ha]; decide), if_neg (by omega), if_pos (by omega), if_pos (by rw [decide_eq_true rfl, Bool.or_true])]
    · rw [decide_eq_false h1, Bool.or_false]
      by_cases h2 : m.testBit n = true
      · rw [if_pos h2, if_pos h2]
        by_cases h3 : a < n
        · rw [if_pos h3, if_pos (by omega)]
        · rw [if_neg h3, if_neg (by omega)]
      · rw [if_neg h2, if_neg h2]
        by_cases h3 : a < n
        · rw [if_pos h3, if_pos (by omega)]
        · rw [if_neg h3, if_neg (by omega)]
theorem or_same {m a : Nat} (ha : m.testBit a = true) : m ||| 2 ^ a = m := by
  apply Nat.eq_of_testBit_eq
  intro x
  rw [or_bit]
  by_cases h : a = x
  · subst h; rw [ha]; rfl
  · rw [decide_eq_false h, Bool.or_false]
/-- the next is there already: nothing more comes -/
theorem reach_cyc {σ : Mem} {n i m y : Nat} {r0 : Int32} (hn : σ 0 0 = nI n) (hn8 : n ≤ 8) (hm : m < 256) (hi : reachN σ n r0 i = (nI m, nI y)) (hy : m.testBit y = true) (hb : ∀ x, m.testBit x = true → x < n)
    (hc : ∀ x, m.testBit x = true → ∃ z, z < 8 ∧ σ 5 x = nI z ∧ (m.testBit z = true ∨ z = y)) : ∀ j, ∃ z, reachN σ n r0 (i + j) = (nI m, nI z) ∧ m.testBit z = true
  | 0 => ⟨y, hi, hy⟩
  | j + 1 => by
    obtain ⟨z, e, hz⟩ := reach_cyc hn hn8 hm hi hy hb hc j
    have hzn := hb z hz
    have er : reachN σ n r0 (i + (j + 1)) = if hasI σ (reachN σ n r0 (i + j)).2 = 0 then reachN σ n r0 (i + j) else ((reachN σ n r0 (i + j)).1 ||| (1 <<< ((reachN σ n r0 (i + j)).2 &&& 31)), σ 5 (reachN σ n r0 (i + j)).2.toNatClampNeg) := rfl
    rw [e] at er
    have hh : ¬ hasI σ (nI z) = 0 := by
      rw [hasI_B hn hn8, roomB_nI (by omega) hzn]
      decide
    have er2 : reachN σ n r0 (i + (j + 1)) = (nI m ||| bitI z, σ 5 (nI z).toNatClampNeg) := er.trans (if_neg hh)
    obtain ⟨z2, h1, h2, h3⟩ := hc z hz
    refine ⟨z2, ?_, ?_⟩
    · rw [er2, nI_clamp (by omega), h2, (mask_or ⟨m, hm⟩ ⟨z, by omega⟩).1, or_same hz]
    · rcases h3 with h3 | h3
      · exact h3
      · rw [h3]; exact hy
set_option maxRecDepth 20000 in
theorem rf_reach {M σ : Mem} {r : Int32} (hR : RR M σ) (hI : Inv σ) {Q : Option Value → Mem → Prop} (hQ : ∀ u' M', PostR (opReach σ r) u' M' → Q u' M') : CT mX5_reach shR 8 [.ref 0, .int r] M Q := by
  refine CT.mk [some (.ref 0), some (.int r), none, none] (by decide) (Nat.le_of_ble_eq_true rfl) rfl rfl ?_
  refine G_aload_n (K := mX5_reach) (i := 0) dX5_reach_0 rfl rfl ?_
  refine G_iload_n (K := mX5_reach) (i := 1) dX5_reach_1 rfl rfl ?_
  refine G_cv (K := mX5_reach) (c_X5_isRoom (r := r) (n := nOf σ) (hR.n hI) hI.n8 ⟨rfl, rfl⟩) vX5_isRoom rfl lX5_128 dX5_reach_2 ⟨_, _, _, rfl, rfl, rfl⟩ (by decide) rfl (Nat.le_of_ble_eq_true rfl) ?_
  refine G_if_ne (K := mX5_reach) (tgt := 15) dX5_reach_5 (by decide) (fun c5 => ?_) (fun c5 => ?_)
  · skip
    obtain ⟨q, hq, rfl⟩ := roomB_t (by have := hI.n8; omega) (bI_1 c5)
    have hn8 := hI.n8
    have hB := roomB_nI (n := nOf σ) (by omega) hq
    have h5 : ∀ x, x < nOf σ → ∃ z, z < 8 ∧ σ 5 x = nI z := fun x hx => by
      have h := (hI.1.2.2.2.2 x hx).2.2.2.2.1
      unfold rg at h
      exact ⟨(σ 5 x).toInt.toNat, by omega, i32_ext (by rw [nI_toI (by omega)]; omega)⟩
    refine G_iconst (K := mX5_reach) (v := 0) dX5_reach_15 (by decide) ?_
    refine G_istore_n (K := mX5_reach) (i := 2) dX5_reach_16 rfl (by decide) ?_
    refine G_aload_n (K := mX5_reach) (i := 0) dX5_reach_17 rfl rfl ?_
    refine G_iload_n (K := mX5_reach) (i := 1) dX5_reach_18 rfl rfl ?_
    refine G_iconst (K := mX5_reach) (v := 4) dX5_reach_19 (by decide) ?_
    refine G_cv (K := mX5_reach) (c_X5_roomIs (i := q) (f := 4) (by omega) (by omega) ⟨rfl, rfl⟩) vX5_roomIs rfl lX5_120 dX5_reach_20 ⟨_, _, _, rfl, rfl, rfl⟩ (by decide) rfl (Nat.le_of_ble_eq_true rfl) ?_
    obtain ⟨y0, hy0, ey0⟩ := h5 q hq
    rw [show toH (M 1) (1 + 4) q = σ 5 q from hR.1.f 5 (by omega) (by omega) hq, ey0]
    refine G_istore_n (K := mX5_reach) (i := 3) dX5_reach_23 rfl (by decide) ?_
    have loop24 : ∀ i, i ≤ nOf σ → ∀ m y : Nat, m < 256 → y < 8 → reachN σ (nOf σ) (σ 5 q) i = (nI m, nI y) → unN m (nOf σ) + i = nOf σ → (∀ x, m.testBit x = true → x < nOf σ) → (∀ x, m.testBit x = true → ∃ z, z < 8 ∧ σ 5 x = nI z ∧ (m.testBit z = true ∨ z = y)) → G mX5_reach shR 8 Q 24 [some (.ref 0), some (.int (nI q)), some (.int (nI m)), some (.int (nI y))] [] M := by
      refine upto (nOf σ) (fun i hi ih => ?_)
      intro m y hm hy he hu hb hc
      refine G_aload_n (K := mX5_reach) (i := 0) dX5_reach_24 rfl rfl ?_
      refine G_iload_n (K := mX5_reach) (i := 3) dX5_reach_25 rfl rfl ?_
      refine G_cv (K := mX5_reach) (c_X5_isRoom (r := nI y) (n := nOf σ) (hR.n hI) hI.n8 ⟨rfl, rfl⟩) vX5_isRoom rfl lX5_128 dX5_reach_26 ⟨_, _, _, rfl, rfl, rfl⟩ (by decide) rfl (Nat.le_of_ble_eq_true rfl) ?_
      refine G_if_eq (K := mX5_reach) (tgt := 56) dX5_reach_29 (by decide) (fun c29 => ?_) (fun c29 => ?_)
      · skip
        refine G_iload_n (K := mX5_reach) (i := 2) dX5_reach_56 rfl rfl ?_
        have ee : (reachN σ (nOf σ) (σ 5 q) (nOf σ)).1 = nI m := by
          rw [reachN_stop (k := i) (by rw [he, hasI_B hI.nI hn8]; exact c29) (nOf σ) (by omega), he]
        exact G_iret (st := []) (K := mX5_reach) dX5_reach_57 rfl (hQ _ _ (by rw [show opReach σ (nI q) = ((reachN σ (nOf σ) (σ 5 (cut (nI q))) (nOf σ)).1, σ) from if_pos hB, cut_nI (by omega), ee]; exact ⟨rfl, hR⟩))
      · skip
        obtain ⟨y2, hy2, ey2⟩ := roomB_t (by omega) (bI_1 c29)
        have hyn : y < nOf σ := by rw [(nI_eqI (by omega) (by omega)).mp ey2]; exact hy2
        refine G_iload_n (K := mX5_reach) (i := 2) dX5_reach_32 rfl rfl ?_
        refine G_iload_n (K := mX5_reach) (i := 3) dX5_reach_33 rfl rfl ?_
        refine G_sv (K := mX5_reach) (c_X5_has (s := nI m) (k := nI y) ⟨rfl, rfl⟩) sX5_has rfl lX5_140 dX5_reach_34 (by decide) rfl (Nat.le_of_ble_eq_true rfl) ?_
        refine G_if_ne (K := mX5_reach) (tgt := 56) dX5_reach_37 (by decide) (fun c37 => ?_) (fun c37 => ?_)
        · skip
          have hyb : m.testBit y = true := (mask_has ⟨m, hm⟩ ⟨y, hy⟩).mp (of_decide_eq_true (bI_1 c37))
          refine G_iload_n (K := mX5_reach) (i := 2) dX5_reach_56 rfl rfl ?_
          have ee : (reachN σ (nOf σ) (σ 5 q) (nOf σ)).1 = nI m := by
            obtain ⟨z, e, -⟩ := reach_cyc hI.nI hn8 hm he hyb hb hc (nOf σ - i)
            rw [show i + (nOf σ - i) = nOf σ by omega] at e
            rw [e]
          exact G_iret (st := []) (K := mX5_reach) dX5_reach_57 rfl (hQ _ _ (by rw [show opReach σ (nI q) = ((reachN σ (nOf σ) (σ 5 (cut (nI q))) (nOf σ)).1, σ) from if_pos hB, cut_nI (by omega), ee]; exact ⟨rfl, hR⟩))
        · skip
          have hyb : m.testBit y = false := eq_false_of_ne_true (fun z => of_decide_eq_false (bI_0 c37) ((mask_has ⟨m, hm⟩ ⟨y, hy⟩).mpr z))
          refine G_iload_n (K := mX5_reach) (i := 2) dX5_reach_40 rfl rfl ?_
          refine G_iconst (K := mX5_reach) (v := 1) dX5_reach_41 (by decide) ?_
          refine G_iload_n (K := mX5_reach) (i := 3) dX5_reach_42 rfl rfl ?_
          refine G_ishl (K := mX5_reach) dX5_reach_43 ?_
          refine G_ior (K := mX5_reach) dX5_reach_44 ?_
          refine G_istore_n (K := mX5_reach) (i := 2) dX5_reach_45 rfl (by decide) ?_
          refine G_aload_n (K := mX5_reach) (i := 0) dX5_reach_46 rfl rfl ?_
          refine G_iload_n (K := mX5_reach) (i := 3) dX5_reach_47 rfl rfl ?_
          refine G_iconst (K := mX5_reach) (v := 4) dX5_reach_48 (by decide) ?_
          refine G_cv (K := mX5_reach) (c_X5_roomIs (i := y) (f := 4) (by omega) (by omega) ⟨rfl, rfl⟩) vX5_roomIs rfl lX5_120 dX5_reach_49 ⟨_, _, _, rfl, rfl, rfl⟩ (by decide) rfl (Nat.le_of_ble_eq_true rfl) ?_
          refine G_istore_n (K := mX5_reach) (i := 3) dX5_reach_52 rfl (by decide) ?_
          refine G_goto (K := mX5_reach) (tgt := 24) dX5_reach_53 (by decide) ?_
          have e5 : toH (M 1) (1 + 4) y = σ 5 y := hR.1.f 5 (by omega) (by omega) hyn
          obtain ⟨z, hz, ez⟩ := h5 y hyn
          rw [e5, ez]
          have hmo := mask_or ⟨m, hm⟩ ⟨y, hy⟩
          rw [show nI m ||| 1 <<< (nI y &&& 31) = nI (m ||| 2 ^ y) from hmo.1]
          have hu2 := unN_s hyb (nOf σ)
          rw [if_pos hyn] at hu2
          have er : reachN σ (nOf σ) (σ 5 q) (i + 1) = if hasI σ (reachN σ (nOf σ) (σ 5 q) i).2 = 0 then reachN σ (nOf σ) (σ 5 q) i else ((reachN σ (nOf σ) (σ 5 q) i).1 ||| (1 <<< ((reachN σ (nOf σ) (σ 5 q) i).2 &&& 31)), σ 5 (reachN σ (nOf σ) (σ 5 q) i).2.toNatClampNeg) := rfl
          rw [he] at er
          have hh : ¬ hasI σ (nI y) = 0 := by
            rw [hasI_B hI.nI hn8, roomB_nI (by omega) hyn]
            decide
          have er2 : reachN σ (nOf σ) (σ 5 q) (i + 1) = (nI m ||| bitI y, σ 5 (nI y).toNatClampNeg) := er.trans (if_neg hh)
          refine ih (i + 1) (by omega) (by omega) _ z hmo.2 hz (by rw [er2, nI_clamp (by omega), ez, hmo.1]) (by omega) (fun x hx => ?_) (fun x hx => ?_)
          · rw [or_bit] at hx
            by_cases h : y = x
            · subst h; exact hyn
            · rw [decide_eq_false h, Bool.or_false] at hx; exact hb x hx
          · rw [or_bit] at hx
            by_cases h : y = x
            · subst h; exact ⟨z, hz, ez, Or.inr rfl⟩
            · rw [decide_eq_false h, Bool.or_false] at hx
              obtain ⟨z2, g1, g2, g3⟩ := hc x hx
              refine ⟨z2, g1, g2, Or.inl ?_⟩
              rw [or_bit]
              rcases g3 with g3 | g3
              · rw [g3]; rfl
              · rw [g3, decide_eq_true rfl, Bool.or_true]
    exact loop24 0 (by omega) 0 y0 (by omega) hy0 (by rw [← ey0]; rfl) (by rw [unN_0]; omega) (fun x hx => by rw [Nat.zero_testBit] at hx; exact absurd hx (by decide)) (fun x hx => by rw [Nat.zero_testBit] at hx; exact absurd hx (by decide))
  · skip
    refine G_aload_n (K := mX5_reach) (i := 0) dX5_reach_8 rfl rfl ?_
    refine G_ldc (K := mX5_reach) dX5_reach_9 kX5_92 ?_
    refine G_call0 (K := mX5_reach) (Q' := PostR (tl σ 0)) (rf_finding hR (k := 0) (by omega) (fun _ _ h => h)) vX5_finding rfl lX5_109 ⟨_, _, _, rfl, rfl, rfl⟩ (by decide) (Nat.le_of_ble_eq_true rfl) dX5_reach_11 rfl ?_
    rintro v M1 ⟨rfl, hR1⟩
    exact G_iret (st := []) (K := mX5_reach) dX5_reach_14 rfl (hQ _ _ (by rw [show opReach σ r = _ from (by unfold opReach; exact if_neg (by rw [bI_0 c5]; decide))]; exact ⟨rfl, hR1⟩))
