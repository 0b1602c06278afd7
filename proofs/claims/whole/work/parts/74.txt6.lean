theorem PS.y {σ M : Mem} {L : Nat} {r : PR} {z : Int32} (h : PS σ L r (some (.int z)) M) (hz : ¬ z = 0) : r.1 = true ∧ CS σ L r.2.1 r.2.2.1 r.2.2.2 M := by
  rcases h with ⟨h1, -, h2⟩ | ⟨-, h, -⟩
  · exact ⟨h1, h2⟩
  · exact absurd (Value.int.inj (Option.some.inj h)) hz
theorem PS.n {σ M : Mem} {L : Nat} {r : PR} {z : Int32} (h : PS σ L r (some (.int z)) M) (hz : z = 0) : r.1 = false ∧ RC M σ ∧ TK (σ 42) L r.2.1 M := by
  rcases h with ⟨-, h, -⟩ | ⟨h1, -, h2⟩
  · exact absurd ((Value.int.inj (Option.some.inj h)).symm.trans hz) (by decide)
  · exact ⟨h1, h2⟩
theorem PS.z {σ M : Mem} {L : Nat} {r : PR} {v : Option Value} (h : PS σ L r v M) : ∃ z : Int32, v = some (.int z) ∧ narrow .boolean (.int z) = .int z := by
  rcases h with ⟨-, h, -⟩ | ⟨-, h, -⟩
  · exact ⟨1, h, rfl⟩
  · exact ⟨0, h, rfl⟩
theorem CS.setOut {σ M M2 : Mem} {L e e2 n : Nat} {R : List Row} {v : Int32} (h : CS σ L e n R M) (hM : ∀ c, c ≠ 45 → M2 c = ups M 48 1 v c) (hK : TK (σ 42) L e2 M2) (he : e2 ≤ L) : CS σ L e2 n (R ++ [(20, v, 0)]) M2 := by
  have e1 : ups M 48 1 v = hput M 48 (ups (hof M 48) 0 1 v) := by rw [← hput_ups (by omega), hput_hof]
  have ea : apR σ (R ++ [(20, v, 0)]) = ups (apR σ R) 0 1 v := by
    rw [apR_snoc]
    exact if_pos rfl
  refine h.draft (h2 := ups (hof M 48) 0 1 v) (fun c hc => by rw [hM c hc, e1]) hK ?_ ?_ h.2.2.2.2.1 he
  · rw [ea]; exact HR.out h.2.2.1
  · rw [ea, ups_ne (by omega)]; exact h.2.2.2.1
theorem pItem_none {T : Nat → Int32} {L n e : Nat} {R : List Row} (h : kindT T L e = none) : pItem T L n e R = if isW T L e 13 = true then pOut T L n e R else if isW T L e 12 = true then pDamp T L n e R else (false, e, n, R) := by
  unfold pItem
  rw [h]
theorem pItem_some {T : Nat → Int32} {L n e k : Nat} {R : List Row} (h : kindT T L e = some k) : pItem T L n e R = pRoom T L n k e R := by
  unfold pItem
  rw [h]
theorem kindT_lt {T : Nat → Int32} {L e : Nat} : (kindT T L e = none ∧ kindV (kindT T L e) < 0) ∨ ∃ k, k < 7 ∧ kindT T L e = some k := by
  have key : ∀ (p : Nat → Bool) (f i : Nat), findF p i f = none ∨ ∃ k, k < i + f ∧ findF p i f = some k := by
    intro p f
    induction f with
    | zero => intro i; exact Or.inl rfl
    | succ f ih =>
      intro i
      by_cases h : p i = true
      · exact Or.inr ⟨i, by omega, if_pos h⟩
      · rcases ih (i + 1) with h2 | ⟨k, hk, h2⟩
        · exact Or.inl ((if_neg h).trans h2)
        · exact Or.inr ⟨k, by omega, (if_neg h).trans h2⟩
  rcases key (fun k => isW T L e k) 7 0 with h | ⟨k, hk, h⟩
  · exact Or.inl ⟨h, by unfold kindT; rw [h]; decide⟩
  · exact Or.inr ⟨k, by omega, h⟩
set_option maxRecDepth 20000 in
theorem cl_readOut {σ : Mem} {L e n : Nat} {R : List Row} {M : Mem} (hL : σ 43 0 = nI L) (hH : TH (σ 42) L) (hS : CS σ L e n R M) {Q : Option Value → Mem → Prop} (hQ : ∀ v M2, PS σ L (pOut (σ 42) L n e R) v M2 → Q v M2) : CT mX3_readOut shC 4 [.ref 45] M Q := by
  refine CT.mk [some (.ref 45)] (by decide) (Nat.le_of_ble_eq_true rfl) rfl rfl ?_
  have hn8 := hS.2.2.2.2.1
  refine G_aload_n (K := mX3_readOut) (i := 0) dX3_readOut_0 rfl rfl ?_
  refine G_call0 (K := mX3_readOut) (as := []) (r := 45) (Q' := fun u Mz => u = none ∧ TK (σ 42) L (tE (σ 42) L e) Mz ∧ ∀ c, c ≠ 45 → Mz c = M c) (cl_step (T := σ 42) (L := L) (M := M) (e := tE (σ 42) L e) hH (rc_tp hS.1 hL) (hS.2.1.2.2.1) (tE_le hS.2.2.2.2.2) (fun Mz q1 q2 => ⟨rfl, q1, q2⟩)) vX3_step rfl lX3_33 ⟨_, _, _, rfl, rfl, rfl⟩ (by decide) (Nat.le_of_ble_eq_true rfl) dX3_readOut_1 rfl ?_
  rintro u M2 ⟨rfl, hKM2, hcM2⟩
  have hM2 := hS.next hcM2 hKM2 (tE_le hS.2.2.2.2.2)
  refine G_aload_n (K := mX3_readOut) (i := 0) dX3_readOut_4 rfl rfl ?_
  refine G_geti (K := mX3_readOut) fX3_40 dX3_readOut_5 rfl rfl ?_
  refine G_iconst (K := mX3_readOut) (v := 2) dX3_readOut_8 (by decide) ?_
  rw [hM2.2.1.1]
  refine G_icmp_ne (K := mX3_readOut) (tgt := 21) dX3_readOut_9 (by decide) (fun c9 => ?_) (fun c9 => ?_)
  · skip
    refine G_iconst (K := mX3_readOut) (v := 0) dX3_readOut_21 (by decide) ?_
    exact G_zret (st := []) (K := mX3_readOut) dX3_readOut_22 rfl rfl (hQ _ _ (by unfold pOut; rw [if_neg (fun z => c9 z.1)]; exact hM2.fail))
  · skip
    refine G_aload_n (K := mX3_readOut) (i := 0) dX3_readOut_12 rfl rfl ?_
    refine G_geti (K := mX3_readOut) fX3_95 dX3_readOut_13 rfl rfl ?_
    rw [hM2.2.1.2.2.2]
    refine G_bipush (K := mX3_readOut) (v := 100) dX3_readOut_16 (by decide) ?_
    refine G_icmp_le (K := mX3_readOut) (tgt := 23) dX3_readOut_18 (by decide) (fun c18 => ?_) (fun c18 => ?_)
    · skip
      refine G_aload_n (K := mX3_readOut) (i := 0) dX3_readOut_23 rfl rfl ?_
      refine G_getr (K := mX3_readOut) fX3_21 dX3_readOut_24 rfl rfl ?_
      refine G_aload_n (K := mX3_readOut) (i := 0) dX3_readOut_27 rfl rfl ?_
      refine G_geti (K := mX3_readOut) fX3_95 dX3_readOut_28 rfl rfl ?_
      rw [hM2.2.1.2.2.2]
      refine G_puti (K := mX3_readOut) fX3_102 w0_1 dX3_readOut_31 rfl rfl ?_
      refine G_aload_n (K := mX3_readOut) (i := 0) dX3_readOut_34 rfl rfl ?_
      refine G_call0 (K := mX3_readOut) (as := []) (r := 45) (Q' := fun u Mz => u = none ∧ TK (σ 42) L (tE (σ 42) L (tE (σ 42) L e)) Mz ∧ ∀ c, c ≠ 45 → Mz c = (ups M2 48 1 (tV (σ 42) L (tE (σ 42) L e))) c) (cl_step (T := σ 42) (L := L) (M := (ups M2 48 1 (tV (σ 42) L (tE (σ 42) L e)))) (e := tE (σ 42) L (tE (σ 42) L e)) hH (by have q1 := rc_tp hM2.1 hL; exact ⟨fun k hk => by rw [ups_cell (by omega)]; exact q1.1 k hk, by rw [ups_cell (by omega)]; exact q1.2⟩) (by rw [ups_cell (by omega)]; exact hM2.2.1.2.2.1) (tE_le hM2.2.2.2.2.2) (fun Mz q1 q2 => ⟨rfl, q1, q2⟩)) vX3_step rfl lX3_33 ⟨_, _, _, rfl, rfl, rfl⟩ (by decide) (Nat.le_of_ble_eq_true rfl) dX3_readOut_35 rfl ?_
      rintro u M4 ⟨rfl, hKM4, hcM4⟩
      refine G_iconst (K := mX3_readOut) (v := 1) dX3_readOut_38 (by decide) ?_
      exact G_zret (st := []) (K := mX3_readOut) dX3_readOut_39 rfl rfl (hQ _ _ (by unfold pOut; rw [if_pos ⟨c9, c18⟩]; exact PS.ok rfl (hM2.setOut hcM4 hKM4 (tE_le hM2.2.2.2.2.2))))
    · skip
      refine G_iconst (K := mX3_readOut) (v := 0) dX3_readOut_21 (by decide) ?_
      exact G_zret (st := []) (K := mX3_readOut) dX3_readOut_22 rfl rfl (hQ _ _ (by unfold pOut; rw [if_neg (fun z => c18 z.2)]; exact hM2.fail))

set_option maxRecDepth 20000 in
theorem cl_readDamper {σ : Mem} {L e n : Nat} {R : List Row} {M : Mem} (hL : σ 43 0 = nI L) (hH : TH (σ 42) L) (hS : CS σ L e n R M) {Q : Option Value → Mem → Prop} (hQ : ∀ v M2, PS σ L (pDamp (σ 42) L n e R) v M2 → Q v M2) : CT mX3_readDamper shC 5 [.ref 45] M Q := by
  refine CT.mk [some (.ref 45), none] (by decide) (Nat.le_of_ble_eq_true rfl) rfl rfl ?_
  have hn8 := hS.2.2.2.2.1
  refine G_aload_n (K := mX3_readDamper) (i := 0) dX3_readDamper_0 rfl rfl ?_
  refine G_call0 (K := mX3_readDamper) (as := []) (r := 45) (Q' := fun u Mz => u = none ∧ TK (σ 42) L (tE (σ 42) L e) Mz ∧ ∀ c, c ≠ 45 → Mz c = M c) (cl_step (T := σ 42) (L := L) (M := M) (e := tE (σ 42) L e) hH (rc_tp hS.1 hL) (hS.2.1.2.2.1) (tE_le hS.2.2.2.2.2) (fun Mz q1 q2 => ⟨rfl, q1, q2⟩)) vX3_step rfl lX3_33 ⟨_, _, _, rfl, rfl, rfl⟩ (by decide) (Nat.le_of_ble_eq_true rfl) dX3_readDamper_1 rfl ?_
  rintro u M2 ⟨rfl, hKM2, hcM2⟩
  have hM2 := hS.next hcM2 hKM2 (tE_le hS.2.2.2.2.2)
  refine G_aload_n (K := mX3_readDamper) (i := 0) dX3_readDamper_4 rfl rfl ?_
  refine G_geti (K := mX3_readDamper) fX3_40 dX3_readDamper_5 rfl rfl ?_
  refine G_iconst (K := mX3_readDamper) (v := 2) dX3_readDamper_8 (by decide) ?_
  rw [hM2.2.1.1]
  refine G_icmp_ne (K := mX3_readDamper) (tgt := 26) dX3_readDamper_9 (by decide) (fun c9 => ?_) (fun c9 => ?_)
  · skip
    refine G_iconst (K := mX3_readDamper) (v := 0) dX3_readDamper_26 (by decide) ?_
    exact G_zret (st := []) (K := mX3_readDamper) dX3_readDamper_27 rfl rfl (hQ _ _ (by unfold pDamp; rw [if_neg (fun z => c9 z.1)]; exact hM2.fail))
  · skip
    refine G_aload_n (K := mX3_readDamper) (i := 0) dX3_readDamper_12 rfl rfl ?_
    refine G_getr (K := mX3_readDamper) fX3_21 dX3_readDamper_13 rfl rfl ?_
    refine G_aload_n (K := mX3_readDamper) (i := 0) dX3_readDamper_16 rfl rfl ?_
    refine G_geti (K := mX3_readDamper) fX3_95 dX3_readDamper_17 rfl rfl ?_
    rw [hM2.2.1.2.2.2]
    refine G_hp (K := mX3_readDamper) (b := 48) (by unfold isH; omega) (c_X0_has (M := hof M2 48) (r := tV (σ 42) L (tE (σ 42) L e)) ⟨rfl, rfl⟩) vX0_has rfl lX3_85 dX3_readDamper_20 rfl (by decide) rfl (Nat.le_of_ble_eq_true rfl) ?_
    rw [hasI_B hM2.n0 hn8]
    refine G_if_ne (K := mX3_readDamper) (tgt := 28) dX3_readDamper_23 (by decide) (fun c23 => ?_) (fun c23 => ?_)
    · skip
      refine G_aload_n (K := mX3_readDamper) (i := 0) dX3_readDamper_28 rfl rfl ?_
      refine G_geti (K := mX3_readDamper) fX3_95 dX3_readDamper_29 rfl rfl ?_
      rw [hM2.2.1.2.2.2]
      refine G_istore_n (K := mX3_readDamper) (i := 1) dX3_readDamper_32 rfl (by decide) ?_
      refine G_aload_n (K := mX3_readDamper) (i := 0) dX3_readDamper_33 rfl rfl ?_
      refine G_call0 (K := mX3_readDamper) (as := []) (r := 45) (Q' := fun u Mz => u = none ∧ TK (σ 42) L (tE (σ 42) L (tE (σ 42) L e)) Mz ∧ ∀ c, c ≠ 45 → Mz c = M2 c) (cl_step (T := σ 42) (L := L) (M := M2) (e := tE (σ 42) L (tE (σ 42) L e)) hH (rc_tp hM2.1 hL) (hM2.2.1.2.2.1) (tE_le hM2.2.2.2.2.2) (fun Mz q1 q2 => ⟨rfl, q1, q2⟩)) vX3_step rfl lX3_33 ⟨_, _, _, rfl, rfl, rfl⟩ (by decide) (Nat.le_of_ble_eq_true rfl) dX3_readDamper_34 rfl ?_
      rintro u M4 ⟨rfl, hKM4, hcM4⟩
      have hM4 := hM2.next hcM4 hKM4 (tE_le hM2.2.2.2.2.2)
      refine G_aload_n (K := mX3_readDamper) (i := 0) dX3_readDamper_37 rfl rfl ?_
      refine G_iload_n (K := mX3_readDamper) (i := 1) dX3_readDamper_38 rfl rfl ?_
      refine G_bipush (K := mX3_readDamper) (v := 6) dX3_readDamper_39 (by decide) ?_
      refine G_call0 (K := mX3_readDamper) (as := [.int (tV (σ 42) L (tE (σ 42) L e)), .int (nI 6)]) (r := 45) (Q' := fun u Mz => PS σ L (if tS (σ 42) L (tE (σ 42) L (tE (σ 42) L e)) = 2 ∧ fitB (n) (tV (σ 42) L (tE (σ 42) L e)) (nI 6) (tV (σ 42) L (tE (σ 42) L (tE (σ 42) L e))) = true then (true, tE (σ 42) L (tE (σ 42) L (tE (σ 42) L e)), n, R ++ [(10 + 6, tV (σ 42) L (tE (σ 42) L e), tV (σ 42) L (tE (σ 42) L (tE (σ 42) L e)))]) else (false, tE (σ 42) L (tE (σ 42) L e), n, R)) u Mz) (cl_readValue (M := M4) (a := tV (σ 42) L (tE (σ 42) L e)) hL hH (by omega) hM4 (fun _ _ h => h)) vX3_readValue rfl lX3_79 ⟨_, _, _, rfl, rfl, rfl⟩ (by decide) (Nat.le_of_ble_eq_true rfl) dX3_readDamper_41 rfl ?_
      rintro u M5 hPV
      obtain ⟨z, rfl, hzn⟩ := hPV.z
      exact G_zret (st := []) (K := mX3_readDamper) dX3_readDamper_44 rfl hzn (hQ _ _ (by unfold pDamp; rw [if_pos ⟨c9, bI_1 c23⟩]; exact hPV))
    · skip
      refine G_iconst (K := mX3_readDamper) (v := 0) dX3_readDamper_26 (by decide) ?_
      exact G_zret (st := []) (K := mX3_readDamper) dX3_readDamper_27 rfl rfl (hQ _ _ (by unfold pDamp; rw [if_neg (fun z => by rw [bI_0 c23] at z; exact absurd z.2 (by decide))]; exact hM2.fail))

set_option maxRecDepth 20000 in
theorem cl_readItem {σ : Mem} {L e n : Nat} {R : List Row} {M : Mem} (hL : σ 43 0 = nI L) (hH : TH (σ 42) L) (hS : CS σ L e n R M) {Q : Option Value → Mem → Prop} (hQ : ∀ v M2, PS σ L (pItem (σ 42) L n e R) v M2 → Q v M2) : CT mX3_readItem shC 6 [.ref 45] M Q := by
  refine CT.mk [some (.ref 45), none] (by decide) (Nat.le_of_ble_eq_true rfl) rfl rfl ?_
  refine G_aload_n (K := mX3_readItem) (i := 0) dX3_readItem_0 rfl rfl ?_
  refine G_cv (K := mX3_readItem) (cl_kindTold (T := σ 42) (L := L) (e := e) (M := M) hH (rc_tp hS.1 hL) hS.2.1 hS.2.2.2.2.2 ⟨rfl, rfl⟩) vX3_kindTold rfl lX3_46 dX3_readItem_1 ⟨_, _, _, rfl, rfl, rfl⟩ (by decide) rfl (Nat.le_of_ble_eq_true rfl) ?_
  refine G_istore_n (K := mX3_readItem) (i := 1) dX3_readItem_4 rfl (by decide) ?_
  refine G_iload_n (K := mX3_readItem) (i := 1) dX3_readItem_5 rfl rfl ?_
  refine G_if_lt (K := mX3_readItem) (tgt := 15) dX3_readItem_6 (by decide) (fun c6 => ?_) (fun c6 => ?_)
  · skip
    have hkn : kindT (σ 42) L e = none := by
      rcases kindT_lt (T := σ 42) (L := L) (e := e) with ⟨h, -⟩ | ⟨k, hk, h⟩
      · exact h
      · rw [h] at c6; exact absurd c6 (nI_pos (by omega))
    refine G_aload_n (K := mX3_readItem) (i := 0) dX3_readItem_15 rfl rfl ?_
    refine G_ldcs (K := mX3_readItem) (i := 13) (tx := "out") dX3_readItem_16 (by decide +kernel) ?_
    refine G_cv (K := mX3_readItem) (cl_isWord (T := σ 42) (L := L) (e := e) (i := 13) (M := M) hH (rc_tp hS.1 hL) hS.2.1 hS.2.2.2.2.2 (by omega) ⟨rfl, rfl⟩) vX3_isWord rfl lX3_56 dX3_readItem_18 ⟨_, _, _, rfl, rfl, rfl⟩ (by decide) rfl (Nat.le_of_ble_eq_true rfl) ?_
    refine G_if_eq (K := mX3_readItem) (tgt := 29) dX3_readItem_21 (by decide) (fun c21 => ?_) (fun c21 => ?_)
    · skip
      refine G_aload_n (K := mX3_readItem) (i := 0) dX3_readItem_29 rfl rfl ?_
      refine G_ldcs (K := mX3_readItem) (i := 12) (tx := "damper") dX3_readItem_30 (by decide +kernel) ?_
      refine G_cv (K := mX3_readItem) (cl_isWord (T := σ 42) (L := L) (e := e) (i := 12) (M := M) hH (rc_tp hS.1 hL) hS.2.1 hS.2.2.2.2.2 (by omega) ⟨rfl, rfl⟩) vX3_isWord rfl lX3_56 dX3_readItem_32 ⟨_, _, _, rfl, rfl, rfl⟩ (by decide) rfl (Nat.le_of_ble_eq_true rfl) ?_
      refine G_if_eq (K := mX3_readItem) (tgt := 49) dX3_readItem_35 (by decide) (fun c35 => ?_) (fun c35 => ?_)
      · skip
        refine G_iconst (K := mX3_readItem) (v := 0) dX3_readItem_49 (by decide) ?_
        exact G_zret (st := []) (K := mX3_readItem) dX3_readItem_50 rfl rfl (hQ _ _ (by
          rw [(pItem_none hkn).trans ((if_neg (by rw [bI_0 c21]; decide)).trans (if_neg (by rw [bI_0 c35]; decide)))]
          exact hS.fail))
      · skip
        refine G_aload_n (K := mX3_readItem) (i := 0) dX3_readItem_38 rfl rfl ?_
        refine G_call0 (K := mX3_readItem) (as := []) (r := 45) (Q' := PS σ L (pDamp (σ 42) L n e R)) (cl_readDamper hL hH hS (fun _ _ h => h)) vX3_readDamper rfl lX3_65 ⟨_, _, _, rfl, rfl, rfl⟩ (by decide) (Nat.le_of_ble_eq_true rfl) dX3_readItem_39 rfl ?_
        rintro u M5 hPV
        obtain ⟨z, rfl, hzn⟩ := hPV.z
        refine G_if_eq (K := mX3_readItem) (tgt := 49) dX3_readItem_42 (by decide) (fun c42 => ?_) (fun c42 => ?_)
        · skip
          refine G_iconst (K := mX3_readItem) (v := 0) dX3_readItem_49 (by decide) ?_
          exact G_zret (st := []) (K := mX3_readItem) dX3_readItem_50 rfl rfl (hQ _ _ (by
            rw [(pItem_none hkn).trans ((if_neg (by rw [bI_0 c21]; decide)).trans (if_pos (bI_1 c35)))]
            obtain ⟨h1, h2, h3⟩ := hPV.n c42
            exact Or.inr ⟨h1, rfl, h2, h3⟩))
        · skip
          refine G_iconst (K := mX3_readItem) (v := 1) dX3_readItem_45 (by decide) ?_
          refine G_goto (K := mX3_readItem) (tgt := 50) dX3_readItem_46 (by decide) ?_
          exact G_zret (st := []) (K := mX3_readItem) dX3_readItem_50 rfl rfl (hQ _ _ (by
            rw [(pItem_none hkn).trans ((if_neg (by rw [bI_0 c21]; decide)).trans (if_pos (bI_1 c35)))]
            obtain ⟨h1, h2⟩ := hPV.y c42
            exact PS.ok h1 h2))
    · skip
      refine G_aload_n (K := mX3_readItem) (i := 0) dX3_readItem_24 rfl rfl ?_
      refine G_call0 (K := mX3_readItem) (as := []) (r := 45) (Q' := PS σ L (pOut (σ 42) L n e R)) (cl_readOut hL hH hS (fun _ _ h => h)) vX3_readOut rfl lX3_60 ⟨_, _, _, rfl, rfl, rfl⟩ (by decide) (Nat.le_of_ble_eq_true rfl) dX3_readItem_25 rfl ?_
      rintro u M5 hPV
      obtain ⟨z, rfl, hzn⟩ := hPV.z
      exact G_zret (st := []) (K := mX3_readItem) dX3_readItem_28 rfl hzn (hQ _ _ (by
        rw [(pItem_none hkn).trans (if_pos (bI_1 c21))]
        exact hPV))
  · skip
    obtain ⟨k, hk, hks⟩ : ∃ k, k < 7 ∧ kindT (σ 42) L e = some k := by
      rcases kindT_lt (T := σ 42) (L := L) (e := e) with ⟨-, h⟩ | h
      · exact absurd h c6
      · exact h
    rw [hks]
    show G mX3_readItem shC 6 Q _ [some (.ref 45), some (.int (nI k))] _ M
    refine G_aload_n (K := mX3_readItem) (i := 0) dX3_readItem_9 rfl rfl ?_
    refine G_iload_n (K := mX3_readItem) (i := 1) dX3_readItem_10 rfl rfl ?_
    refine G_call0 (K := mX3_readItem) (as := [.int (nI k)]) (r := 45) (Q' := PS σ L (pRoom (σ 42) L n k e R)) (cl_readRoom hL hH hS hk (fun _ _ h => h)) vX3_readRoom rfl lX3_50 ⟨_, _, _, rfl, rfl, rfl⟩ (by decide) (Nat.le_of_ble_eq_true rfl) dX3_readItem_11 rfl ?_
    rintro u M5 hPV
    obtain ⟨z, rfl, hzn⟩ := hPV.z
    exact G_zret (st := []) (K := mX3_readItem) dX3_readItem_14 rfl hzn (hQ _ _ (by rw [pItem_some hks]; exact hPV))

def RDp (σ : Mem) (v : Option Value) (M : Mem) : Prop := (∃ b, txtOf σ = .inl b ∧ v = some (.int (-1 - nI b)) ∧ RC M σ) ∨ ∃ it R, txtOf σ = .inr (it, R) ∧ v = some (.int (nI it)) ∧ RC M (txS σ R)
set_option maxRecDepth 20000 in
theorem cl_read {σ : Mem} {L : Nat} {M : Mem} (hL : σ 43 0 = nI L) (hH : TH (σ 42) L) (hR : RC M σ) (hI : Inv σ) {Q : Option Value → Mem → Prop} (hQ : ∀ v M2, RDp σ v M2 → Q v M2) : CT mX3_read shC 7 [.ref 45, .ref 1] M Q := by
  refine CT.mk [some (.ref 45), some (.ref 1), none] (by decide) (Nat.le_of_ble_eq_true rfl) rfl rfl ?_
  have hn8 := hI.n8
  have hcL : cut (σ 43 0) = L := by rw [hL, cut_nI (by have := hH.1; omega)]
  refine G_aload_n (K := mX3_read) (i := 0) dX3_read_0 rfl rfl ?_
  refine G_getr (K := mX3_read) fX3_21 dX3_read_1 rfl rfl ?_
  refine G_aload_n (K := mX3_read) (i := 1) dX3_read_4 rfl rfl ?_
  refine G_bec (K := mX3_read) (b := 48) (c := 1) (by unfold isH; omega) (by unfold isH; omega) (by unfold apart; omega) lX3_25 dX3_read_5 (by decide) (Nat.le_of_ble_eq_true rfl) (fun h' hh' => ?_)
  refine G_aload_n (K := mX3_read) (i := 0) dX3_read_8 rfl rfl ?_
  refine G_iconst (K := mX3_read) (v := 0) dX3_read_9 (by decide) ?_
  refine G_puti (K := mX3_read) fX3_29 w3_4 dX3_read_10 rfl rfl ?_
  refine G_aload_n (K := mX3_read) (i := 0) dX3_read_13 rfl rfl ?_
  refine G_call0 (K := mX3_read) (as := []) (r := 45) (Q' := fun u Mz => u = none ∧ TK (σ 42) L 0 Mz ∧ ∀ c, c ≠ 45 → Mz c = ups (hput M 48 h') 45 4 0 c) (cl_step (T := σ 42) (L := L) (M := ups (hput M 48 h') 45 4 0) (e := 0) hH (by have q1 := rc_tp (hR.scr (b := 48) (h := h') (Or.inr (Or.inr rfl))) hL; exact ⟨fun k hk => by rw [ups_cell (by omega)]; exact q1.1 k hk, by rw [ups_cell (by omega)]; exact q1.2⟩) (ups_same _ _ _ _) (by omega) (fun Mz q1 q2 => ⟨rfl, q1, q2⟩)) vX3_step rfl lX3_33 ⟨_, _, _, rfl, rfl, rfl⟩ (by decide) (Nat.le_of_ble_eq_true rfl) dX3_read_14 rfl ?_
  rintro u M2 ⟨rfl, hKM2, hcM2⟩
  have hS0 : CS σ L 0 (nOf σ) [] M2 := ⟨(hR.scr (b := 48) (h := h') (Or.inr (Or.inr rfl))).rd (fun c hc => (hcM2 c hc).trans (ups_cell hc)), hKM2, HR.ofEq (fun j hj => (hcM2 (48 + j) (by omega)).trans ((ups_cell (by omega)).trans (hof_hput M h' 48 j hj))) ((hh'.le hn8).tr hR.1), hI.nI, hn8, by omega⟩
  refine G_iconst (K := mX3_read) (v := 1) dX3_read_17 (by decide) ?_
  refine G_istore_n (K := mX3_read) (i := 2) dX3_read_18 rfl (by decide) ?_
  have loop19 : ∀ it, it ≤ 121 → 1 ≤ it → ∀ (M3 : Mem) (e3 n3 : Nat) (R3 : List Row), CS σ L e3 n3 R3 M3 → pText (σ 42) L (121 - it) it n3 e3 R3 = txtOf σ → G mX3_read shC 7 Q 19 [some (.ref 45), some (.ref 1), some (.int (nI it))] [] M3 := by
    refine upto 121 (fun it hit ih => ?_)
    intro hi1 M3 e3 n3 R3 hS3 hPP
    refine G_iload_n (K := mX3_read) (i := 2) dX3_read_19 rfl rfl ?_
    refine G_bipush (K := mX3_read) (v := 120) dX3_read_20 (by decide) ?_
    refine G_icmp_gt (K := mX3_read) (tgt := 70) dX3_read_22 (by decide) (fun c22 => ?_) (fun c22 => ?_)
    · skip
      rw [show (120 : Int32) = nI 120 from rfl, lt_nn (by omega) (by omega)] at c22
      have hit : it = 121 := by omega
      subst hit
      refine G_iconst (K := mX3_read) (v := -1) dX3_read_70 (by decide) ?_
      refine G_aload_n (K := mX3_read) (i := 0) dX3_read_71 rfl rfl ?_
      refine G_geti (K := mX3_read) fX3_43 dX3_read_72 rfl rfl ?_
      refine G_isub (K := mX3_read) dX3_read_75 ?_
      rw [hS3.2.1.2.1]
      exact G_iret (st := []) (K := mX3_read) dX3_read_76 rfl (hQ _ _ (Or.inl ⟨_, hPP.symm, rfl, hS3.1⟩))
    · skip
      rw [show (120 : Int32) = nI 120 from rfl, lt_nn (by omega) (by omega)] at c22
      have ef : 121 - it = (121 - (it + 1)) + 1 := by omega
      rw [ef] at hPP
      refine G_aload_n (K := mX3_read) (i := 0) dX3_read_25 rfl rfl ?_
      refine G_call0 (K := mX3_read) (as := []) (r := 45) (Q' := PS σ L (pItem (σ 42) L n3 e3 R3)) (cl_readItem hL hH hS3 (fun _ _ h => h)) vX3_readItem rfl lX3_36 ⟨_, _, _, rfl, rfl, rfl⟩ (by decide) (Nat.le_of_ble_eq_true rfl) dX3_read_26 rfl ?_
      rintro u M5 hPV
      obtain ⟨z, rfl, hzn⟩ := hPV.z
      refine G_if_eq (K := mX3_read) (tgt := 70) dX3_read_29 (by decide) (fun c29 => ?_) (fun c29 => ?_)
      · skip
        obtain ⟨g1, g2, g3⟩ := hPV.n c29
        have hF : txtOf σ = .inl (tB (σ 42) L (pItem (σ 42) L n3 e3 R3).2.1) := by
          rw [← hPP]
          exact if_neg (by rw [g1]; decide)
        refine G_iconst (K := mX3_read) (v := -1) dX3_read_70 (by decide) ?_
        refine G_aload_n (K := mX3_read) (i := 0) dX3_read_71 rfl rfl ?_
        refine G_geti (K := mX3_read) fX3_43 dX3_read_72 rfl rfl ?_
        refine G_isub (K := mX3_read) dX3_read_75 ?_
        rw [g3.2.1]
        exact G_iret (st := []) (K := mX3_read) dX3_read_76 rfl (hQ _ _ (Or.inl ⟨_, hF, rfl, g2⟩))
      · skip
        obtain ⟨g1, hS5⟩ := hPV.y c29
        refine G_aload_n (K := mX3_read) (i := 0) dX3_read_32 rfl rfl ?_
        refine G_geti (K := mX3_read) fX3_40 dX3_read_33 rfl rfl ?_
        rw [hS5.2.1.1]
        refine G_if_ne (K := mX3_read) (tgt := 49) dX3_read_36 (by decide) (fun c36 => ?_) (fun c36 => ?_)
        · skip
          refine G_aload_n (K := mX3_read) (i := 0) dX3_read_49 rfl rfl ?_
          refine G_geti (K := mX3_read) fX3_40 dX3_read_50 rfl rfl ?_
          rw [hS5.2.1.1]
          refine G_iconst (K := mX3_read) (v := 3) dX3_read_53 (by decide) ?_
          refine G_icmp_eq (K := mX3_read) (tgt := 60) dX3_read_54 (by decide) (fun c54 => ?_) (fun c54 => ?_)
          · skip
            have hPP2 := hPP.symm.trans ((if_pos g1).trans ((if_neg c36).trans (if_pos c54)))
            refine G_aload_n (K := mX3_read) (i := 0) dX3_read_60 rfl rfl ?_
            refine G_call0 (K := mX3_read) (as := []) (r := 45) (Q' := fun u Mz => u = none ∧ TK (σ 42) L (tE (σ 42) L (pItem (σ 42) L n3 e3 R3).2.1) Mz ∧ ∀ c, c ≠ 45 → Mz c = M5 c) (cl_step (T := σ 42) (L := L) (M := M5) (e := tE (σ 42) L (pItem (σ 42) L n3 e3 R3).2.1) hH (rc_tp hS5.1 hL) (hS5.2.1.2.2.1) (tE_le hS5.2.2.2.2.2) (fun Mz q1 q2 => ⟨rfl, q1, q2⟩)) vX3_step rfl lX3_33 ⟨_, _, _, rfl, rfl, rfl⟩ (by decide) (Nat.le_of_ble_eq_true rfl) dX3_read_61 rfl ?_
            rintro u M6 ⟨rfl, hKM6, hcM6⟩
            have hM6 := hS5.next hcM6 hKM6 (tE_le hS5.2.2.2.2.2)
            refine G_iincN (K := mX3_read) dX3_read_64 (by decide) rfl ?_
            refine G_goto (K := mX3_read) (tgt := 19) dX3_read_67 (by decide) ?_
            exact ih (it + 1) (by omega) (by omega) (by omega) M6 _ _ _ hM6 hPP2.symm
          · skip
            have hF : txtOf σ = .inl (tB (σ 42) L (pItem (σ 42) L n3 e3 R3).2.1) := hPP.symm.trans ((if_pos g1).trans ((if_neg c36).trans (if_neg c54)))
            have g2 := hS5.1
            have g3 := hS5.2.1
            refine G_goto (K := mX3_read) (tgt := 70) dX3_read_57 (by decide) ?_
            refine G_iconst (K := mX3_read) (v := -1) dX3_read_70 (by decide) ?_
            refine G_aload_n (K := mX3_read) (i := 0) dX3_read_71 rfl rfl ?_
            refine G_geti (K := mX3_read) fX3_43 dX3_read_72 rfl rfl ?_
            refine G_isub (K := mX3_read) dX3_read_75 ?_
            rw [g3.2.1]
            exact G_iret (st := []) (K := mX3_read) dX3_read_76 rfl (hQ _ _ (Or.inl ⟨_, hF, rfl, g2⟩))
        · skip
          have hF : txtOf σ = .inr (it, (pItem (σ 42) L n3 e3 R3).2.2.2) := by
            rw [← hPP]
            exact (if_pos g1).trans (if_pos c36)
          refine G_aload_n (K := mX3_read) (i := 1) dX3_read_39 rfl rfl ?_
          refine G_aload_n (K := mX3_read) (i := 0) dX3_read_40 rfl rfl ?_
          refine G_getr (K := mX3_read) fX3_21 dX3_read_41 rfl rfl ?_
          refine G_bec (K := mX3_read) (b := 1) (c := 48) (by unfold isH; omega) (by unfold isH; omega) (by unfold apart; omega) lX3_25 dX3_read_44 (by decide) (Nat.le_of_ble_eq_true rfl) (fun h6 hh6 => ?_)
          refine G_iload_n (K := mX3_read) (i := 2) dX3_read_47 rfl rfl ?_
          exact G_iret (st := []) (K := mX3_read) dX3_read_48 rfl (hQ _ _ (Or.inr ⟨it, _, hF, rfl, hS5.1.house (fun c hc => if_neg (by omega)) (by
            have hn5 : nOf (txS σ (pItem (σ 42) L n3 e3 R3).2.2.2) = (pItem (σ 42) L n3 e3 R3).2.2.1 := by
              show (apR σ (pItem (σ 42) L n3 e3 R3).2.2.2 0 0).toNatClampNeg = _
              rw [hS5.2.2.2.1, nI_clamp (by have := hS5.2.2.2.2.1; omega)]
            rw [hn5]
            exact ((hh6.le hS5.2.2.2.2.1).tr hS5.2.2.1).tr (HR.ofEq (fun j hj => (if_pos hj).symm) (HR.rf _ _)))⟩))
  exact loop19 1 (by omega) (by omega) M2 0 (nOf σ) [] hS0 (by unfold txtOf; rw [hcL])

theorem RC.len {M σ : Mem} {y : Int32} (hR : RC M σ) : RC (ups M 46 1 y) (ups σ 43 0 y) := by
  obtain ⟨-, -, r3, r4, r5, r6, r7⟩ := id hR
  exact hR.other (fun q h1 h2 => ups_cell (by omega)) (fun q h => ups_cell (by omega)) r3 r4 r5 (by rw [ups_same]; exact (ups_same σ 43 0 y).symm) (fun s hs => by
    rw [ups_cell (show 61 + 2 * s ≠ 46 by omega), ups_cell (show 62 + 2 * s ≠ 46 by omega), ups_cell (show 44 ≠ 43 by omega), ups_cell (show 45 ≠ 43 by omega), ups_cell (show 46 + s ≠ 43 by omega)]
    exact r7 s hs)
theorem inv_tape {σ : Mem} (hI : Inv σ) : ∃ L : Nat, L ≤ 120 ∧ σ 43 0 = nI L ∧ TH (σ 42) L := by
  have htp : rg (σ 43 0) 0 120 := hI.2.2.2.2.2.1
  unfold rg at htp
  refine ⟨(σ 43 0).toInt.toNat, by omega, i32_ext (by rw [nI_toI (by omega)]; omega), by omega, fun k hk => ?_⟩
  have h := hI.2.2.2.2.2.2.1 k (by omega)
  unfold rg at h
  rw [i32_le]
  exact h.1
set_option maxRecDepth 20000 in
theorem cl_text {M σ : Mem}  (hR : RC M σ) (hI : Inv σ) {Q : Option Value → Mem → Prop} (hQ : ∀ u' M', PostC (opText σ) u' M' → Q u' M') : CT mX4_text shC 12 [.ref 0] M Q := by
  refine CT.mk [some (.ref 0), none] (by decide) (Nat.le_of_ble_eq_true rfl) rfl rfl ?_
  refine G_aload_n (K := mX4_text) (i := 0) dX4_text_0 rfl rfl ?_
  refine G_getr (K := mX4_text) fX4_28 dX4_text_1 rfl rfl ?_
  refine G_aload_n (K := mX4_text) (i := 0) dX4_text_4 rfl rfl ?_
  refine G_getr (K := mX4_text) fX4_12 dX4_text_5 rfl rfl ?_
  obtain ⟨L, hL120, hL, hH⟩ := inv_tape hI
  refine G_call0 (K := mX4_text) (as := [.ref 1]) (r := 45) (Q' := RDp σ) (cl_read hL hH hR hI (fun _ _ h => h)) vX3_read rfl lX4_221 ⟨_, _, _, rfl, rfl, rfl⟩ (by decide) (Nat.le_of_ble_eq_true rfl) dX4_text_8 rfl ?_
  rintro u M2 hRD
  obtain ⟨z, rfl, hfin⟩ : ∃ z : Int32, u = some (.int z) ∧ PostC (opText σ) (some (.int z)) (ups M2 46 1 0) := by
    rcases hRD with ⟨b, h1, rfl, h3⟩ | ⟨it, R, h1, rfl, h3⟩
    · refine ⟨_, rfl, ?_⟩
      unfold opText
      rw [h1]
      exact ⟨rfl, h3.len⟩
    · refine ⟨_, rfl, ?_⟩
      unfold opText
      rw [h1]
      exact ⟨rfl, h3.len⟩
  refine G_istore_n (K := mX4_text) (i := 1) dX4_text_11 rfl (by decide) ?_
  refine G_aload_n (K := mX4_text) (i := 0) dX4_text_12 rfl rfl ?_
  refine G_getr (K := mX4_text) fX4_36 dX4_text_13 rfl rfl ?_
  refine G_iconst (K := mX4_text) (v := 0) dX4_text_16 (by decide) ?_
  refine G_puti (K := mX4_text) fX4_213 w2_1 dX4_text_17 rfl rfl ?_
  refine G_iload_n (K := mX4_text) (i := 1) dX4_text_20 rfl rfl ?_
  exact G_iret (st := []) (K := mX4_text) dX4_text_21 rfl (hQ _ _ hfin)

