theorem PS.ok {σ M : Mem} {L : Nat} {r : PR} (h : r.1 = true) (hC : CS σ L r.2.1 r.2.2.1 r.2.2.2 M) : PS σ L r (some (.int 1)) M := Or.inl ⟨h, rfl, hC⟩
theorem pP_no {T : Nat → Int32} {L own p e : Nat} {R : List Row} (h1 : 1 ≤ p) (h4 : p ≤ 4) (h : ¬ isW T L e (6 + p) = true) : pParts T L own (5 - p) e R = pParts T L own (5 - (p + 1)) e R := by
  obtain ⟨j, hj⟩ : ∃ j, 5 - p = j + 1 := ⟨4 - p, by omega⟩
  have hj2 : 5 - (p + 1) = j := by omega
  rw [hj, hj2]
  show (if isW T L e (6 + (4 - j)) = true then _ else _) = _
  rw [show 4 - j = p by omega, if_neg h]
theorem pP_yes {T : Nat → Int32} {L own p e : Nat} {R : List Row} (h1 : 1 ≤ p) (h4 : p ≤ 4) (h : isW T L e (6 + p) = true) : pParts T L own (5 - p) e R = if tS T L (tE T L e) = 2 ∧ fitB (own + 1) (nI own) (nI p) (tV T L (tE T L e)) = true then pParts T L own (5 - (p + 1)) (tE T L (tE T L e)) (R ++ [(10 + p, nI own, tV T L (tE T L e))]) else (false, tE T L e, own + 1, R) := by
  obtain ⟨j, hj⟩ : ∃ j, 5 - p = j + 1 := ⟨4 - p, by omega⟩
  have hj2 : 5 - (p + 1) = j := by omega
  rw [hj, hj2]
  show (if isW T L e (6 + (4 - j)) = true then _ else _) = _
  rw [show 4 - j = p by omega, if_pos h]
set_option maxRecDepth 20000 in
theorem cl_readRoom {σ : Mem} {L e n k : Nat} {R : List Row} {M : Mem} (hL : σ 43 0 = nI L) (hH : TH (σ 42) L) (hS : CS σ L e n R M) (hk : k < 7) {Q : Option Value → Mem → Prop} (hQ : ∀ v M2, PS σ L (pRoom (σ 42) L n k e R) v M2 → Q v M2) : CT mX3_readRoom shC 5 [.ref 45, .int (nI k)] M Q := by
  refine CT.mk [some (.ref 45), some (.int (nI k)), none, none] (by decide) (Nat.le_of_ble_eq_true rfl) rfl rfl ?_
  have hn8 := hS.2.2.2.2.1
  refine G_aload_n (K := mX3_readRoom) (i := 0) dX3_readRoom_0 rfl rfl ?_
  refine G_getr (K := mX3_readRoom) fX3_21 dX3_readRoom_1 rfl rfl ?_
  refine G_geti (K := mX3_readRoom) fX3_68 dX3_readRoom_4 rfl rfl ?_
  rw [show M 48 0 = nI n from hS.n0]
  refine G_bipush (K := mX3_readRoom) (v := 8) dX3_readRoom_7 (by decide) ?_
  refine G_icmp_lt (K := mX3_readRoom) (tgt := 14) dX3_readRoom_9 (by decide) (fun c9 => ?_) (fun c9 => ?_)
  · skip
    rw [show (8 : Int32) = nI 8 from rfl, lt_nn (by omega) (by omega)] at c9
    refine G_aload_n (K := mX3_readRoom) (i := 0) dX3_readRoom_14 rfl rfl ?_
    refine G_getr (K := mX3_readRoom) fX3_21 dX3_readRoom_15 rfl rfl ?_
    refine G_iload_n (K := mX3_readRoom) (i := 1) dX3_readRoom_18 rfl rfl ?_
    refine G_hv (K := mX3_readRoom) (b := 48) (by unfold isH; omega) (c_X0_addRoom (M := hof M 48) (k := nI k) (n := n) hS.n0 (by omega) ⟨rfl, rfl⟩) vX0_addRoom rfl lX3_71 dX3_readRoom_19 rfl (by decide) rfl (Nat.le_of_ble_eq_true rfl) ?_
    refine G_istore_n (K := mX3_readRoom) (i := 2) dX3_readRoom_22 rfl (by decide) ?_
    refine G_aload_n (K := mX3_readRoom) (i := 0) dX3_readRoom_23 rfl rfl ?_
    refine G_call0 (K := mX3_readRoom) (as := []) (r := 45) (Q' := fun u Mz => u = none ∧ TK (σ 42) L (tE (σ 42) L e) Mz ∧ ∀ c, c ≠ 45 → Mz c = (hput M 48 (addH (hof M 48) (nI k) n)) c) (cl_step (T := σ 42) (L := L) (M := (hput M 48 (addH (hof M 48) (nI k) n))) (e := tE (σ 42) L e) hH (rc_tp (hS.1.scr (b := 48) (Or.inr (Or.inr rfl))) hL) (by rw [hput_out (by omega)]; exact hS.2.1.2.2.1) (tE_le hS.2.2.2.2.2) (fun Mz q1 q2 => ⟨rfl, q1, q2⟩)) vX3_step rfl lX3_33 ⟨_, _, _, rfl, rfl, rfl⟩ (by decide) (Nat.le_of_ble_eq_true rfl) dX3_readRoom_24 rfl ?_
    rintro u M2 ⟨rfl, hKM2, hcM2⟩
    have hn1 : addH (apR σ R) (nI k) n 0 0 = nI (n + 1) := by
      show apR σ R 0 0 + 1 = _
      rw [hS.2.2.2.1, nI_1]
    have hap : apR σ (R ++ [(k, 0, 0)]) = addH (apR σ R) (nI k) n := by
      rw [apR_snoc]
      unfold apRow
      rw [if_neg (show ¬ k = 20 by omega), if_neg (show ¬ 10 ≤ k by omega)]
      show addH (apR σ R) (nI k) (nOf (apR σ R)) = _
      unfold nOf
      rw [hS.2.2.2.1, nI_clamp (by omega)]
    have hS2 : CS σ L (tE (σ 42) L e) (n + 1) (R ++ [(k, 0, 0)]) M2 := hS.draft (h2 := addH (hof M 48) (nI k) n) hcM2 hKM2 (by rw [hap]; exact HR.addH hS.2.2.1 hS.2.2.2.1 (by omega)) (by rw [hap]; exact hn1) (by omega) (tE_le hS.2.2.2.2.2)
    refine G_iconst (K := mX3_readRoom) (v := 1) dX3_readRoom_27 (by decide) ?_
    refine G_istore_n (K := mX3_readRoom) (i := 3) dX3_readRoom_28 rfl (by decide) ?_
    have loop29 : ∀ p, p ≤ 5 → 1 ≤ p → ∀ (M3 : Mem) (e3 : Nat) (R3 : List Row), CS σ L e3 (n + 1) R3 M3 → pParts (σ 42) L n (5 - p) e3 R3 = pParts (σ 42) L n 4 (tE (σ 42) L e) (R ++ [(k, 0, 0)]) → G mX3_readRoom shC 5 Q 29 [some (.ref 45), some (.int (nI k)), some (.int (nI n)), some (.int (nI p))] [] M3 := by
      refine upto 5 (fun p hp ih => ?_)
      intro hp1 M3 e3 R3 hS3 hPP
      refine G_iload_n (K := mX3_readRoom) (i := 3) dX3_readRoom_29 rfl rfl ?_
      refine G_iconst (K := mX3_readRoom) (v := 4) dX3_readRoom_30 (by decide) ?_
      refine G_icmp_gt (K := mX3_readRoom) (tgt := 66) dX3_readRoom_31 (by decide) (fun c31 => ?_) (fun c31 => ?_)
      · skip
        rw [show (4 : Int32) = nI 4 from rfl, lt_nn (by omega) (by omega)] at c31
        have hp5 : p = 5 := by omega
        subst hp5
        refine G_aload_n (K := mX3_readRoom) (i := 0) dX3_readRoom_66 rfl rfl ?_
        refine G_ldcs (K := mX3_readRoom) (i := 11) (tx := "away") dX3_readRoom_67 (by decide +kernel) ?_
        refine G_cv (K := mX3_readRoom) (cl_isWord (T := σ 42) (L := L) (e := e3) (i := 11) (M := M3) hH (rc_tp hS3.1 hL) hS3.2.1 hS3.2.2.2.2.2 (by omega) ⟨rfl, rfl⟩) vX3_isWord rfl lX3_56 dX3_readRoom_69 ⟨_, _, _, rfl, rfl, rfl⟩ (by decide) rfl (Nat.le_of_ble_eq_true rfl) ?_
        refine G_if_eq (K := mX3_readRoom) (tgt := 100) dX3_readRoom_72 (by decide) (fun c72 => ?_) (fun c72 => ?_)
        · skip
          have hW := bI_0 c72
          refine G_iconst (K := mX3_readRoom) (v := 1) dX3_readRoom_100 (by decide) ?_
          have hP0 : pParts (σ 42) L n 4 (tE (σ 42) L e) (R ++ [(k, 0, 0)]) = (true, e3, n + 1, R3) := hPP.symm
          exact G_zret (st := []) (K := mX3_readRoom) dX3_readRoom_101 rfl rfl (hQ _ _ (by
            unfold pRoom pAway
            rw [if_neg (by omega), hP0, if_pos rfl, if_neg (show ¬ isW (σ 42) L e3 11 = true from by rw [hW]; decide)]
            exact PS.ok rfl hS3))
        · skip
          have hW := bI_1 c72
          refine G_aload_n (K := mX3_readRoom) (i := 0) dX3_readRoom_75 rfl rfl ?_
          refine G_getr (K := mX3_readRoom) fX3_21 dX3_readRoom_76 rfl rfl ?_
          refine G_iload_n (K := mX3_readRoom) (i := 2) dX3_readRoom_79 rfl rfl ?_
          refine G_hp (K := mX3_readRoom) (b := 48) (by unfold isH; omega) (c_X0_has (M := hof M3 48) (r := nI n) ⟨rfl, rfl⟩) vX0_has rfl lX3_85 dX3_readRoom_80 rfl (by decide) rfl (Nat.le_of_ble_eq_true rfl) ?_
          rw [hasI_B hS3.n0 (by omega), roomB_nI (by omega) (by omega)]
          refine G_if_eq (K := mX3_readRoom) (tgt := 100) dX3_readRoom_83 (by decide) (fun c83 => ?_) (fun c83 => ?_)
          · skip
            exact absurd c83 (by decide)
          · skip
            refine G_aload_n (K := mX3_readRoom) (i := 0) dX3_readRoom_86 rfl rfl ?_
            refine G_getr (K := mX3_readRoom) fX3_21 dX3_readRoom_87 rfl rfl ?_
            refine G_getr (K := mX3_readRoom) fX3_88 dX3_readRoom_90 rfl rfl ?_
            refine G_iload_n (K := mX3_readRoom) (i := 2) dX3_readRoom_93 rfl rfl ?_
            refine G_iconst (K := mX3_readRoom) (v := 1) dX3_readRoom_94 (by decide) ?_
            refine G_sto (K := mX3_readRoom) n dX3_readRoom_95 rfl rfl (by omega) (by decide) ?_
            refine G_aload_n (K := mX3_readRoom) (i := 0) dX3_readRoom_96 rfl rfl ?_
            refine G_call0 (K := mX3_readRoom) (as := []) (r := 45) (Q' := fun u Mz => u = none ∧ TK (σ 42) L (tE (σ 42) L e3) Mz ∧ ∀ c, c ≠ 45 → Mz c = (ups M3 (48 + (1 + 5)) n 1) c) (cl_step (T := σ 42) (L := L) (M := (ups M3 (48 + (1 + 5)) n 1)) (e := tE (σ 42) L e3) hH (by have q1 := rc_tp hS3.1 hL; exact ⟨fun k hk => by rw [ups_cell (by omega)]; exact q1.1 k hk, by rw [ups_cell (by omega)]; exact q1.2⟩) (by rw [ups_cell (by omega)]; exact hS3.2.1.2.2.1) (tE_le hS3.2.2.2.2.2) (fun Mz q1 q2 => ⟨rfl, q1, q2⟩)) vX3_step rfl lX3_33 ⟨_, _, _, rfl, rfl, rfl⟩ (by decide) (Nat.le_of_ble_eq_true rfl) dX3_readRoom_97 rfl ?_
            rintro u M4 ⟨rfl, hKM4, hcM4⟩
            refine G_iconst (K := mX3_readRoom) (v := 1) dX3_readRoom_100 (by decide) ?_
            have hP0 : pParts (σ 42) L n 4 (tE (σ 42) L e) (R ++ [(k, 0, 0)]) = (true, e3, n + 1, R3) := hPP.symm
            exact G_zret (st := []) (K := mX3_readRoom) dX3_readRoom_101 rfl rfl (hQ _ _ (by
              unfold pRoom pAway
              rw [if_neg (by omega), hP0, if_pos rfl, if_pos (show isW (σ 42) L e3 11 = true from hW)]
              exact PS.ok rfl (hS3.set (p := 5) (by omega) (by omega) hcM4 hKM4 (tE_le hS3.2.2.2.2.2))))
      · skip
        rw [show (4 : Int32) = nI 4 from rfl, lt_nn (by omega) (by omega)] at c31
        refine G_aload_n (K := mX3_readRoom) (i := 0) dX3_readRoom_34 rfl rfl ?_
        refine G_iload_n (K := mX3_readRoom) (i := 3) dX3_readRoom_35 rfl rfl ?_
        refine G_callS0 (K := mX3_readRoom) (as := [.int (nI p)]) (Q' := fun v M' => v = some (.ref (1100 + (6 + p))) ∧ M' = M3) (cl_wordOfPart (by omega) (by omega) ⟨rfl, rfl⟩) sX3_wordOfPart rfl lX3_75 (by decide) (Nat.le_of_ble_eq_true rfl) dX3_readRoom_36 rfl ?_
        rintro v M' ⟨rfl, e'⟩
        obtain rfl := e'.symm
        refine G_cv (K := mX3_readRoom) (cl_isWord (T := σ 42) (L := L) (e := e3) (i := 6 + p) (M := M3) hH (rc_tp hS3.1 hL) hS3.2.1 hS3.2.2.2.2.2 (by omega) ⟨rfl, rfl⟩) vX3_isWord rfl lX3_56 dX3_readRoom_39 ⟨_, _, _, rfl, rfl, rfl⟩ (by decide) rfl (Nat.le_of_ble_eq_true rfl) ?_
        refine G_if_eq (K := mX3_readRoom) (tgt := 60) dX3_readRoom_42 (by decide) (fun c42 => ?_) (fun c42 => ?_)
        · skip
          have hW := bI_0 c42
          refine G_iincN (K := mX3_readRoom) dX3_readRoom_60 (by decide) rfl ?_
          refine G_goto (K := mX3_readRoom) (tgt := 29) dX3_readRoom_63 (by decide) ?_
          exact ih (p + 1) (by omega) (by omega) (by omega) M3 e3 R3 hS3 (by rw [← pP_no (by omega) (by omega) (by rw [hW]; decide)]; exact hPP)
        · skip
          have hW := bI_1 c42
          refine G_aload_n (K := mX3_readRoom) (i := 0) dX3_readRoom_45 rfl rfl ?_
          refine G_call0 (K := mX3_readRoom) (as := []) (r := 45) (Q' := fun u Mz => u = none ∧ TK (σ 42) L (tE (σ 42) L e3) Mz ∧ ∀ c, c ≠ 45 → Mz c = M3 c) (cl_step (T := σ 42) (L := L) (M := M3) (e := tE (σ 42) L e3) hH (rc_tp hS3.1 hL) (hS3.2.1.2.2.1) (tE_le hS3.2.2.2.2.2) (fun Mz q1 q2 => ⟨rfl, q1, q2⟩)) vX3_step rfl lX3_33 ⟨_, _, _, rfl, rfl, rfl⟩ (by decide) (Nat.le_of_ble_eq_true rfl) dX3_readRoom_46 rfl ?_
          rintro u M4 ⟨rfl, hKM4, hcM4⟩
          have hM4 := hS3.next hcM4 hKM4 (tE_le hS3.2.2.2.2.2)
          refine G_aload_n (K := mX3_readRoom) (i := 0) dX3_readRoom_49 rfl rfl ?_
          refine G_iload_n (K := mX3_readRoom) (i := 2) dX3_readRoom_50 rfl rfl ?_
          refine G_iload_n (K := mX3_readRoom) (i := 3) dX3_readRoom_51 rfl rfl ?_
          refine G_call0 (K := mX3_readRoom) (as := [.int (nI n), .int (nI p)]) (r := 45) (Q' := fun u Mz => PS σ L (if tS (σ 42) L (tE (σ 42) L e3) = 2 ∧ fitB (n + 1) (nI n) (nI p) (tV (σ 42) L (tE (σ 42) L e3)) = true then (true, tE (σ 42) L (tE (σ 42) L e3), n + 1, R3 ++ [(10 + p, nI n, tV (σ 42) L (tE (σ 42) L e3))]) else (false, tE (σ 42) L e3, n + 1, R3)) u Mz) (cl_readValue (M := M4) (a := nI n) hL hH (by omega) hM4 (fun _ _ h => h)) vX3_readValue rfl lX3_79 ⟨_, _, _, rfl, rfl, rfl⟩ (by decide) (Nat.le_of_ble_eq_true rfl) dX3_readRoom_52 rfl ?_
          rintro u M5 hPV
          obtain ⟨z, rfl⟩ : ∃ z : Int32, u = some (.int z) := by
            rcases hPV with ⟨-, h, -⟩ | ⟨-, h, -⟩
            · exact ⟨1, h⟩
            · exact ⟨0, h⟩
          refine G_if_ne (K := mX3_readRoom) (tgt := 60) dX3_readRoom_55 (by decide) (fun c55 => ?_) (fun c55 => ?_)
          · skip
            obtain ⟨hc2, hS5⟩ : (tS (σ 42) L (tE (σ 42) L e3) = 2 ∧ fitB (n + 1) (nI n) (nI p) (tV (σ 42) L (tE (σ 42) L e3)) = true) ∧ CS σ L (tE (σ 42) L (tE (σ 42) L e3)) (n + 1) (R3 ++ [(10 + p, nI n, tV (σ 42) L (tE (σ 42) L e3))]) M5 := by
              by_cases hc2 : tS (σ 42) L (tE (σ 42) L e3) = 2 ∧ fitB (n + 1) (nI n) (nI p) (tV (σ 42) L (tE (σ 42) L e3)) = true
              · rw [if_pos hc2] at hPV
                rcases hPV with ⟨-, -, h⟩ | ⟨h, -⟩
                · exact ⟨hc2, h⟩
                · exact absurd h (show ¬ (true = false) by decide)
              · rw [if_neg hc2] at hPV
                rcases hPV with ⟨h, -⟩ | ⟨-, h, -⟩
                · exact absurd h (show ¬ (false = true) by decide)
                · rw [Option.some.inj h |> Value.int.inj] at c55; exact absurd rfl c55
            have hPP2 := hPP
            rw [pP_yes (by omega) (by omega) hW, if_pos hc2] at hPP2
            refine G_iincN (K := mX3_readRoom) dX3_readRoom_60 (by decide) rfl ?_
            refine G_goto (K := mX3_readRoom) (tgt := 29) dX3_readRoom_63 (by decide) ?_
            exact ih (p + 1) (by omega) (by omega) (by omega) M5 _ _ hS5 hPP2
          · skip
            refine G_iconst (K := mX3_readRoom) (v := 0) dX3_readRoom_58 (by decide) ?_
            have hPR : pParts (σ 42) L n 4 (tE (σ 42) L e) (R ++ [(k, 0, 0)]) = (false, tE (σ 42) L e3, n + 1, R3) ∧ RC M5 σ ∧ TK (σ 42) L (tE (σ 42) L e3) M5 := by
              by_cases hc2 : tS (σ 42) L (tE (σ 42) L e3) = 2 ∧ fitB (n + 1) (nI n) (nI p) (tV (σ 42) L (tE (σ 42) L e3)) = true
              · rw [if_pos hc2] at hPV
                rcases hPV with ⟨-, h, -⟩ | ⟨h, -⟩
                · rw [Option.some.inj h |> Value.int.inj] at c55; exact absurd c55 (by decide)
                · exact absurd h (show ¬ (true = false) by decide)
              · rw [if_neg hc2] at hPV
                rcases hPV with ⟨h, -⟩ | ⟨-, -, h1, h2⟩
                · exact absurd h (show ¬ (false = true) by decide)
                · rw [← hPP, pP_yes (by omega) (by omega) hW, if_neg hc2]
                  exact ⟨rfl, h1, h2⟩
            exact G_zret (st := []) (K := mX3_readRoom) dX3_readRoom_59 rfl rfl (hQ _ _ (by
              unfold pRoom
              rw [if_neg (by omega), hPR.1]
              exact Or.inr ⟨rfl, rfl, hPR.2.1, hPR.2.2⟩))
    exact loop29 1 (by omega) (by omega) M2 _ _ hS2 rfl
  · skip
    rw [show (8 : Int32) = nI 8 from rfl, lt_nn (by omega) (by omega)] at c9
    refine G_iconst (K := mX3_readRoom) (v := 0) dX3_readRoom_12 (by decide) ?_
    exact G_zret (st := []) (K := mX3_readRoom) dX3_readRoom_13 rfl rfl (hQ _ _ (by unfold pRoom; rw [if_pos (by omega)]; exact hS.fail))

