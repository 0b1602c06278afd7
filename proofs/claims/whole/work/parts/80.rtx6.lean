theorem HI.nn0 {h : Mem} {n p q : Nat} (H : HI h n) (hp : p < 9) (hq : q < n) : 0 ≤ (h (1 + p) q).toInt := by
  obtain ⟨a1, a2, a3, a4, a5, a6, a7, a8, a9⟩ := H.2.2.2.2 q hq
  have h9 : p = 0 ∨ p = 1 ∨ p = 2 ∨ p = 3 ∨ p = 4 ∨ p = 5 ∨ p = 6 ∨ p = 7 ∨ p = 8 := by omega
  rcases h9 with rfl | rfl | rfl | rfl | rfl | rfl | rfl | rfl | rfl
  · exact a1.1
  · exact a2.1
  · exact a3.1
  · exact Int.le_trans (by decide) a4.1
  · exact a5.1
  · exact a6.1
  · exact a7.1
  · exact a8.1
  · exact a9.1
set_option maxRecDepth 20000 in
theorem rf_isSo {h M : Mem} {n k : Nat} {R : List Row} (hT : HR (toH (M 1)) h n) (hI : HI h n) (hr : okRow n (R.getD k dr0)) (hk : k < R.length) (hl : R.length ≤ 720) (hA : rowsAt R M) {Q : Option Value → Mem → Prop} (hQ : ∀ (z : Int32) (M2 : Mem), 0 ≤ z → HR (toH (M2 1)) (apRow h (R.getD k dr0)) (nxN n (R.getD k dr0)) → (∀ c, c ≠ 1 → M2 c = M c) → Q (some (.int z)) M2) : CT mX5_isSo shR 3 [.ref 0, .int (nI (3 * k))] M Q := by
  refine CT.mk [some (.ref 0), some (.int (nI (3 * k))), none, none] (by decide) (Nat.le_of_ble_eq_true rfl) rfl rfl ?_
  obtain ⟨a1, a2, a3⟩ := hA k hk
  have hn8 := hI.n8
  generalize hrow : R.getD k dr0 = row at hr hQ a1 a2 a3
  have hw : row.1 < 21 := by
    rcases hr with ⟨h, -⟩ | ⟨h, -⟩ | ⟨p, q, hp, h, -⟩ <;> omega
  have hn2 : M 1 2 = nI n := (hT.1 0 (by omega)).trans hI.1
  refine G_aload_n (K := mX5_isSo) (i := 0) dX5_isSo_0 rfl rfl ?_
  refine G_getr (K := mX5_isSo) fX5_77 dX5_isSo_1 rfl rfl ?_
  refine G_iload_n (K := mX5_isSo) (i := 1) dX5_isSo_4 rfl rfl ?_
  refine G_ld (K := mX5_isSo) (3 * k) dX5_isSo_5 rfl rfl (by omega) (by decide) ?_
  rw [a1]
  refine G_istore_n (K := mX5_isSo) (i := 2) dX5_isSo_6 rfl (by decide) ?_
  refine G_aload_n (K := mX5_isSo) (i := 0) dX5_isSo_7 rfl rfl ?_
  refine G_getr (K := mX5_isSo) fX5_77 dX5_isSo_8 rfl rfl ?_
  refine G_iload_n (K := mX5_isSo) (i := 1) dX5_isSo_11 rfl rfl ?_
  refine G_iconst (K := mX5_isSo) (v := 1) dX5_isSo_12 (by decide) ?_
  refine G_iadd (K := mX5_isSo) dX5_isSo_13 ?_
  rw [nI_1]
  refine G_ld (K := mX5_isSo) (3 * k + 1) dX5_isSo_14 rfl rfl (by omega) (by decide) ?_
  rw [a2]
  refine G_istore_n (K := mX5_isSo) (i := 3) dX5_isSo_15 rfl (by decide) ?_
  refine G_iload_n (K := mX5_isSo) (i := 2) dX5_isSo_16 rfl rfl ?_
  refine G_bipush (K := mX5_isSo) (v := 20) dX5_isSo_17 (by decide) ?_
  refine G_icmp_ne (K := mX5_isSo) (tgt := 31) dX5_isSo_19 (by decide) (fun c19 => ?_) (fun c19 => ?_)
  · skip
    have hn20 : ¬ row.1 = 20 := fun z => c19 (by rw [z]; rfl)
    refine G_iload_n (K := mX5_isSo) (i := 2) dX5_isSo_31 rfl rfl ?_
    refine G_bipush (K := mX5_isSo) (v := 10) dX5_isSo_32 (by decide) ?_
    refine G_icmp_lt (K := mX5_isSo) (tgt := 60) dX5_isSo_34 (by decide) (fun c34 => ?_) (fun c34 => ?_)
    · skip
      rw [show (10 : Int32) = nI 10 from rfl, lt_nn (by omega) (by omega)] at c34
      obtain ⟨h1, h2⟩ : row.1 < 7 ∧ n < 8 := by
        rcases hr with h | ⟨h, -⟩ | ⟨p, q, hp, h, -⟩
        · exact h
        · omega
        · omega
      refine G_aload_n (K := mX5_isSo) (i := 0) dX5_isSo_60 rfl rfl ?_
      refine G_iload_n (K := mX5_isSo) (i := 2) dX5_isSo_61 rfl rfl ?_
      refine G_call0 (K := mX5_isSo)  (Q' := fun v Mz => v = some (.int (nI n)) ∧ toH (Mz 1) = addH (toH (M 1)) (nI row.1) n ∧ ∀ c, c ≠ 1 → Mz c = M c) (c_X5_comes (M := M) (k := nI row.1) (n := n) hn2 h2 (fun Mz q1 q2 => ⟨rfl, q1, q2⟩)) vX5_comes rfl lX5_114 ⟨_, _, _, rfl, rfl, rfl⟩ (by decide) (Nat.le_of_ble_eq_true rfl) dX5_isSo_62 rfl ?_
      rintro v M2 ⟨rfl, h21, h22⟩
      have e1 : apRow h row = addH h (nI row.1) n := by
        unfold apRow
        rw [if_neg hn20, if_neg (by omega), show nOf h = n from hI.nn]
      have e2 : nxN n row = n + 1 := if_pos h1
      rw [e1, e2] at hQ
      exact G_iret (st := []) (K := mX5_isSo) dX5_isSo_65 rfl (hQ _ _ (by rw [i32_le, nI_toI (by omega)]; show (0 : Int) ≤ _; omega) (by rw [h21]; exact HR.addH hT hI.1 h2) h22)
    · skip
      rw [show (10 : Int32) = nI 10 from rfl, lt_nn (by omega) (by omega)] at c34
      obtain ⟨p, q, hp, h1, hq, h3, hf⟩ : ∃ p q, p < 9 ∧ row.1 = 10 + p ∧ q < n ∧ row.2.1 = nI q ∧ fitB n (nI q) (nI p) row.2.2 = true := by
        rcases hr with ⟨h, -⟩ | ⟨h, -⟩ | h
        · omega
        · exact absurd h hn20
        · exact h
      refine G_aload_n (K := mX5_isSo) (i := 0) dX5_isSo_37 rfl rfl ?_
      refine G_iload_n (K := mX5_isSo) (i := 3) dX5_isSo_38 rfl rfl ?_
      refine G_iload_n (K := mX5_isSo) (i := 2) dX5_isSo_39 rfl rfl ?_
      refine G_bipush (K := mX5_isSo) (v := 10) dX5_isSo_40 (by decide) ?_
      refine G_isub (K := mX5_isSo) dX5_isSo_42 ?_
      rw [h1, show nI (10 + p) - 10 = nI p from by rw [show (10 : Int32) = nI 10 from rfl, nI_subI (by omega) (by omega), show 10 + p - 10 = p by omega], h3]
      refine G_sv (K := mX5_isSo) (c_X5_at (i := q) (f := p) (by omega) (by omega) ⟨rfl, rfl⟩) sX5_at rfl lX5_101 dX5_isSo_43 (by decide) rfl (Nat.le_of_ble_eq_true rfl) ?_
      refine G_aload_n (K := mX5_isSo) (i := 0) dX5_isSo_46 rfl rfl ?_
      refine G_getr (K := mX5_isSo) fX5_77 dX5_isSo_47 rfl rfl ?_
      refine G_iload_n (K := mX5_isSo) (i := 1) dX5_isSo_50 rfl rfl ?_
      refine G_iconst (K := mX5_isSo) (v := 2) dX5_isSo_51 (by decide) ?_
      refine G_iadd (K := mX5_isSo) dX5_isSo_52 ?_
      rw [show nI (3 * k) + 2 = nI (3 * k + 2) from nI_add _ 2]
      refine G_ld (K := mX5_isSo) (3 * k + 2) dX5_isSo_53 rfl rfl (by omega) (by decide) ?_
      rw [a3]
      refine G_cv (K := mX5_isSo) (c_X5_become (M := M) (k := 14 + 9 * q + p) (v := row.2.2) (by omega) ⟨rfl, rfl⟩) vX5_become rfl lX5_134 dX5_isSo_54 ⟨_, _, _, rfl, rfl, rfl⟩ (by decide) rfl (Nat.le_of_ble_eq_true rfl) ?_
      refine G_goto (K := mX5_isSo) (tgt := 65) dX5_isSo_57 (by decide) ?_
      have e1 : apRow h row = ups h (1 + p) q row.2.2 := by
        unfold apRow
        rw [if_neg hn20, if_pos (by omega), h1, h3, show 10 + p - 10 = p by omega, cut_nI (by omega)]
      have e2 : nxN n row = n := if_neg (by omega)
      rw [e1, e2] at hQ
      exact G_iret (st := []) (K := mX5_isSo) dX5_isSo_65 rfl (hQ _ _ (by
        have e3 : M 1 (14 + 9 * q + p) = h (1 + p) q := (toH_f (M 1) (by omega) (by omega)).symm.trans (hT.f (1 + p) (by omega) (by omega) hq)
        rw [e3, i32_le]
        exact hI.nn0 hp hq) (by rw [toH_ups (by omega) (by omega)]; exact hT.upd1 (by omega) (by omega)) (fun c hc => ups_cell hc))
  · skip
    have h20 : row.1 = 20 := (nI_eqI (by omega) (by omega)).mp c19
    have hv : rg row.2.1 0 100 := by
      rcases hr with ⟨h, -⟩ | ⟨-, h⟩ | ⟨p, q, hp, h, -⟩
      · omega
      · exact h
      · omega
    refine G_aload_n (K := mX5_isSo) (i := 0) dX5_isSo_22 rfl rfl ?_
    refine G_iconst (K := mX5_isSo) (v := 1) dX5_isSo_23 (by decide) ?_
    refine G_iload_n (K := mX5_isSo) (i := 3) dX5_isSo_24 rfl rfl ?_
    refine G_cv (K := mX5_isSo) (c_X5_become (M := M) (k := 1) (v := row.2.1) (by omega) ⟨rfl, rfl⟩) vX5_become rfl lX5_134 dX5_isSo_25 ⟨_, _, _, rfl, rfl, rfl⟩ (by decide) rfl (Nat.le_of_ble_eq_true rfl) ?_
    refine G_goto (K := mX5_isSo) (tgt := 65) dX5_isSo_28 (by decide) ?_
    have e1 : apRow h row = ups h 0 1 row.2.1 := if_pos h20
    have e2 : nxN n row = n := if_neg (by omega)
    rw [e1, e2] at hQ
    exact G_iret (st := []) (K := mX5_isSo) dX5_isSo_65 rfl (hQ _ _ (by have e3 : M 1 1 = h 0 1 := hT.1 1 (by omega); rw [e3, i32_le]; exact hI.2.2.1.1) (by rw [toH_s 1 1 (by omega)]; exact HR.out hT) (fun c hc => ups_cell hc))

def contT (T : Nat → Int32) (L f it : Nat) (r : PR) : Nat ⊕ (Nat × List Row) := if r.1 = true then (if tS T L r.2.1 = 0 then .inr (it, r.2.2.2) else if tS T L r.2.1 = 3 then pText T L f (it + 1) r.2.2.1 (tE T L r.2.1) r.2.2.2 else .inl (tB T L r.2.1)) else .inl (tB T L r.2.1)
theorem pText_s {T : Nat → Int32} {L f it n e : Nat} {R : List Row} : pText T L (f + 1) it n e R = contT T L f it (pItem T L n e R) := rfl
theorem srt_59 {x : Int32} (h : srt x = 3) : x = 59 := by
  have h0 : ¬ x < 0 := fun z => by unfold srt at h; rw [if_pos z] at h; exact absurd h (by decide)
  rcases srt_34 h0 (by rw [h]; decide) (by rw [h]; decide) with ⟨a, -⟩ | ⟨-, a⟩
  · exact a
  · rw [h] at a; exact absurd a (by decide)
theorem srt_60 {x : Int32} (h : x = 59) : srt x = 3 := by subst h; decide
theorem nOf_txS {σ : Mem} {R : List Row} {n : Nat} (h : apR σ R 0 0 = nI n) (hn : n ≤ 8) : nOf (ups (txS σ R) 43 0 0) = n := by
  unfold nOf
  rw [ups_cell (by decide)]
  show (apR σ R 0 0).toNatClampNeg = n
  rw [h, nI_clamp (by omega)]
set_option maxRecDepth 20000 in
theorem rf_text {M σ : Mem}  (hR : RR M σ) (hI : Inv σ) {Q : Option Value → Mem → Prop} (hQ : ∀ u' M', PostR (opText σ) u' M' → Q u' M') : CT mX5_text shR 12 [.ref 0] M Q := by
  refine CT.mk [some (.ref 0), none, none] (by decide) (Nat.le_of_ble_eq_true rfl) rfl rfl ?_
  refine G_aload_n (K := mX5_text) (i := 0) dX5_text_0 rfl rfl ?_
  refine G_iconst (K := mX5_text) (v := 0) dX5_text_1 (by decide) ?_
  refine G_puti (K := mX5_text) fX5_263 w5_21 dX5_text_2 rfl rfl ?_
  refine G_aload_n (K := mX5_text) (i := 0) dX5_text_5 rfl rfl ?_
  refine G_iconst (K := mX5_text) (v := 0) dX5_text_6 (by decide) ?_
  refine G_put (K := mX5_text) fX5_285 w5_24 dX5_text_7 rfl rfl rfl rfl ?_
  refine G_aload_n (K := mX5_text) (i := 0) dX5_text_10 rfl rfl ?_
  refine G_iconst (K := mX5_text) (v := 0) dX5_text_11 (by decide) ?_
  refine G_puti (K := mX5_text) fX5_296 w5_28 dX5_text_12 rfl rfl ?_
  refine G_aload_n (K := mX5_text) (i := 0) dX5_text_15 rfl rfl ?_
  refine G_iconst (K := mX5_text) (v := 0) dX5_text_16 (by decide) ?_
  refine G_puti (K := mX5_text) fX5_306 w5_29 dX5_text_17 rfl rfl ?_
  refine G_aload_n (K := mX5_text) (i := 0) dX5_text_20 rfl rfl ?_
  refine G_aload_n (K := mX5_text) (i := 0) dX5_text_21 rfl rfl ?_
  refine G_getr (K := mX5_text) fX5_9 dX5_text_22 rfl rfl ?_
  refine G_iconst (K := mX5_text) (v := 2) dX5_text_25 (by decide) ?_
  refine G_ld (K := mX5_text) 2 dX5_text_26 rfl rfl (by omega) (by decide) ?_
  refine G_puti (K := mX5_text) fX5_309 w5_30 dX5_text_27 rfl rfl ?_
  refine G_aload_n (K := mX5_text) (i := 0) dX5_text_30 rfl rfl ?_
  obtain ⟨L, hL120, hL, hH⟩ := inv_tape hI
  have hn8 := hI.n8
  rw [show ups (ups (ups (ups M 0 21 0) 0 24 0) 0 28 0) 0 29 0 1 2 = nI (nOf σ) from by rw [ups_cell (by decide), ups_cell (by decide), ups_cell (by decide), ups_cell (by decide)]; exact hR.n hI]
  obtain ⟨M0, hM0⟩ : ∃ M0, M0 = ups (ups (ups (ups (ups M 0 21 0) 0 24 0) 0 28 0) 0 29 0) 0 30 (nI (nOf σ)) := ⟨_, rfl⟩
  rw [← hM0]
  have k4 : ∀ c, c ≠ 0 → M0 c = M c := fun c hc => by rw [hM0, ups_cell hc, ups_cell hc, ups_cell hc, ups_cell hc, ups_cell hc]
  have k5 : ∀ y, y ≠ 21 → y ≠ 24 → y ≠ 28 → y ≠ 29 → y ≠ 30 → M0 0 y = M 0 y := fun y a b c d e => by rw [hM0, ups_ne (by omega), ups_ne (by omega), ups_ne (by omega), ups_ne (by omega), ups_ne (by omega)]
  have hR0 : RR M0 σ := hR.txt (fun c a b => k4 c a) (k5 3 (by decide) (by decide) (by decide) (by decide) (by decide)) (k5 19 (by decide) (by decide) (by decide) (by decide) (by decide))
  have e21 : M0 0 21 = nI 0 := by rw [hM0, ups_ne (by omega), ups_ne (by omega), ups_ne (by omega), ups_ne (by omega), ups_same]; rfl
  have e24 : M0 0 24 = 0 := by rw [hM0, ups_ne (by omega), ups_ne (by omega), ups_ne (by omega), ups_same]
  have e28 : M0 0 28 = 0 := by rw [hM0, ups_ne (by omega), ups_ne (by omega), ups_same]
  have e29 : M0 0 29 = 0 := by rw [hM0, ups_ne (by omega), ups_same]
  have e30 : M0 0 30 = nI (nOf σ) := by rw [hM0, ups_same]
  refine G_call0 (K := mX5_text) (as := []) (r := 0) (Q' := fun u Mz => u = none ∧ TR (σ 42) L 0 Mz ∧ (∀ c, c ≠ 0 → Mz c = M0 c) ∧ ∀ y, y ≠ 20 → y ≠ 21 → y ≠ 22 → y ≠ 23 → Mz 0 y = M0 0 y) (rf_next (T := σ 42) (L := L) (e := 0) (M := M0) hH (rr_tp hR0 hL) e21 (by omega) (fun Mz q1 q2 q3 => ⟨rfl, q1, q2, q3⟩)) vX5_next rfl lX5_289 ⟨_, _, _, rfl, rfl, rfl⟩ (by decide) (Nat.le_of_ble_eq_true rfl) dX5_text_31 rfl ?_
  rintro u M1 ⟨rfl, j1, j2, j3⟩
  have hX0 : XS σ L 0 0 (true, 0, nOf σ, []) M1 := ⟨by rw [j3 29 (by decide) (by decide) (by decide) (by decide)]; exact e29, Or.inl ⟨rfl, Nat.le_refl _, hR0.txt (fun c a b => j2 c a) (j3 3 (by decide) (by decide) (by decide) (by decide)) (j3 19 (by decide) (by decide) (by decide) (by decide)), by rw [j3 24 (by decide) (by decide) (by decide) (by decide)]; exact e24, j1, Nat.zero_le L, by rw [j3 30 (by decide) (by decide) (by decide) (by decide)]; exact e30, hn8, by rw [j3 28 (by decide) (by decide) (by decide) (by decide)]; exact e28, fun j hj => absurd hj (by show ¬ j < 0; omega)⟩⟩
  refine G_aload_n (K := mX5_text) (i := 0) dX5_text_34 rfl rfl ?_
  refine G_call0 (K := mX5_text) (as := []) (r := 0) (Q' := fun u Mz => u = none ∧ XS σ L (0 + 1) (0 + 6) (pItem (σ 42) L (nOf σ) 0 []) Mz) (rf_readItem hL hH hX0 (by omega) (fun Mz q => ⟨rfl, q⟩)) vX5_readItem rfl lX5_327 ⟨_, _, _, rfl, rfl, rfl⟩ (by decide) (Nat.le_of_ble_eq_true rfl) dX5_text_35 rfl ?_
  rintro u M2 ⟨rfl, hX2⟩
  have loop38 : ∀ it, it ≤ 61 → 1 ≤ it → ∀ (M3 : Mem) (r : PR), XS σ L it (6 * it) r M3 → contT (σ 42) L (120 - it) it r = txtOf σ → (r.1 = true → vR (nOf σ) r.2.2.2 ∧ cR (nOf σ) r.2.2.2 = r.2.2.1 ∧ 2 * it ≤ r.2.1 + 1) → G mX5_text shR 12 Q 38 [some (.ref 0), none, none] [] M3 := by
    refine upto 61 (fun it hit ih => ?_)
    intro hi1 M3 r hX3 hct hgo
    refine G_aload_n (K := mX5_text) (i := 0) dX5_text_38 rfl rfl ?_
    refine G_geti (K := mX5_text) fX5_285 dX5_text_39 rfl rfl ?_
    refine G_if_ne (K := mX5_text) (tgt := 79) dX5_text_42 (by decide) (fun c42 => ?_) (fun c42 => ?_)
    · skip
      refine G_aload_n (K := mX5_text) (i := 0) dX5_text_79 rfl rfl ?_
      refine G_aload_n (K := mX5_text) (i := 0) dX5_text_80 rfl rfl ?_
      refine G_geti (K := mX5_text) fX5_275 dX5_text_81 rfl rfl ?_
      refine G_if_ne (K := mX5_text) (tgt := 91) dX5_text_84 (by decide) (fun c84 => ?_) (fun c84 => ?_)
      · skip
        refine G_iconst (K := mX5_text) (v := 0) dX5_text_91 (by decide) ?_
        have hend : txtOf σ = .inr (it, r.2.2.2) ∧ r.1 = true ∨ ∃ b, txtOf σ = .inl b ∧ tB (σ 42) L r.2.1 = b ∧ (r.1 = true → ¬ M3 0 22 = 0) := by
          rw [← hct]
          unfold contT
          rcases Bool.eq_false_or_eq_true r.1 with hr | hr
          · rw [if_pos hr]
            obtain ⟨-, hok⟩ := hX3.ok hr
            by_cases h0 : tS (σ 42) L r.2.1 = 0
            · rw [if_pos h0]
              exact Or.inl ⟨rfl, hr⟩
            · rw [if_neg h0, if_neg (by intro z; rw [hok.2.1] at c42; exact c42 rfl)]
              exact Or.inr ⟨_, rfl, rfl, fun _ z => h0 ((hok.2.2.1.s2 (by decide) (by decide)).mp z)⟩
          · rw [if_neg (by rw [hr]; decide)]
            exact Or.inr ⟨_, rfl, rfl, fun z => by rw [hr] at z; exact absurd z (by decide)⟩
        refine G_call0 (K := mX5_text) (as := [.int 0]) (r := 0) (Q' := fun u Mz => u = none ∧ XS σ L (it) (6 * it) (mustF (σ 42) L r (decide (¬ 0 = 0))) Mz ∧ Mz 0 30 = M3 0 30) (rf_must (M := M3) (z := 0) hL hH hX3 (fun h => absurd rfl h) (fun Mz q1 q2 => ⟨rfl, q1, q2⟩)) vX5_must rfl lX5_292 ⟨_, _, _, rfl, rfl, rfl⟩ (by decide) (Nat.le_of_ble_eq_true rfl) dX5_text_92 rfl ?_
        rintro u M4 ⟨rfl, hXM4, h30M4⟩
        refine G_aload_n (K := mX5_text) (i := 0) dX5_text_95 rfl rfl ?_
        refine G_iconst (K := mX5_text) (v := 0) dX5_text_96 (by decide) ?_
        refine G_puti (K := mX5_text) fX5_260 w5_19 dX5_text_97 rfl rfl ?_
        refine G_aload_n (K := mX5_text) (i := 0) dX5_text_100 rfl rfl ?_
        refine G_geti (K := mX5_text) fX5_285 dX5_text_101 rfl rfl ?_
        refine G_if_eq (K := mX5_text) (tgt := 114) dX5_text_104 (by decide) (fun c104 => ?_) (fun c104 => ?_)
        · skip
          have hw : M4 0 24 = 0 := by rw [ups_ne (by omega)] at c104; exact c104
          obtain ⟨hr, Rz, hRz, hfin⟩ : ∃ _ : r.1 = true, ∃ Rz, Rz = r.2.2.2 ∧ txtOf σ = .inr (it, Rz) := by
            rcases hend with ⟨h1, h2⟩ | ⟨b, h1, h2, h3⟩
            · exact ⟨h2, _, rfl, h1⟩
            · exfalso
              rcases Bool.eq_false_or_eq_true r.1 with hr | hr
              · rw [show mustF (σ 42) L r (decide (¬ (0 : Int32) = 0)) = (false, r.2.1, r.2.2.1, r.2.2.2) from (if_pos hr).trans (if_neg (by decide))] at hXM4
                obtain ⟨m, -, hB⟩ := hXM4.bad rfl
                rw [hB.2.1] at hw; exact absurd hw (by decide)
              · rw [mustF_bad hr] at hXM4
                obtain ⟨m, -, hB⟩ := hXM4.bad hr
                rw [hB.2.1] at hw; exact absurd hw (by decide)
          obtain ⟨hk28, hok4, hit29⟩ : M4 0 28 = nI Rz.length ∧ OKs σ L r.2.2.1 (tE (σ 42) L r.2.1) Rz M4 ∧ M4 0 29 = nI it := by
            rw [show mustF (σ 42) L r (decide (¬ (0 : Int32) = 0)) = (false, r.2.1, r.2.2.1, r.2.2.2) from (if_pos hr).trans (if_neg (by decide))] at hXM4
            obtain ⟨m, -, hB⟩ := hXM4.bad rfl
            rw [hB.2.1] at hw; exact absurd hw (by decide)
          have hrows := hok4.2.2.2.2.2.2.2
          obtain ⟨hvR, hcR, -⟩ := hgo hr
          rw [← hRz] at hvR hcR
          have hlR : Rz.length ≤ 6 * it := by rw [hRz]; exact (hX3.ok hr).1
          refine G_iconst (K := mX5_text) (v := 0) dX5_text_114 (by decide) ?_
          refine G_istore_n (K := mX5_text) (i := 1) dX5_text_115 rfl (by decide) ?_
          refine G_iconst (K := mX5_text) (v := 0) dX5_text_116 (by decide) ?_
          refine G_istore_n (K := mX5_text) (i := 2) dX5_text_117 rfl (by decide) ?_
          have loop118 : ∀ k, k ≤ Rz.length → ∀ M6 : Mem, HR (toH (M6 1)) (apR σ (Rz.take k)) (cR (nOf σ) (Rz.take k)) → (∀ c, c ≠ 1 → M6 c = ups M4 0 19 0 c) → G mX5_text shR 12 Q 118 [some (.ref 0), some (.int (nI k)), some (.int (nI k))] [] M6 := by
            refine upto Rz.length (fun k hkR kh => ?_)
            intro M6 hT6 h6c
            have h28 : M6 0 28 = nI Rz.length := by rw [h6c 0 (by decide), ups_ne (by omega)]; exact hk28
            refine G_iload_n (K := mX5_text) (i := 2) dX5_text_118 rfl rfl ?_
            refine G_aload_n (K := mX5_text) (i := 0) dX5_text_119 rfl rfl ?_
            refine G_geti (K := mX5_text) fX5_296 dX5_text_120 rfl rfl ?_
            refine G_icmp_ge (K := mX5_text) (tgt := 150) dX5_text_123 (by decide) (fun c123 => ?_) (fun c123 => ?_)
            · skip
              rw [h28, le_nn (by omega) (by omega)] at c123
              have hkl : k = Rz.length := by omega
              refine G_iload_n (K := mX5_text) (i := 1) dX5_text_150 rfl rfl ?_
              refine G_aload_n (K := mX5_text) (i := 0) dX5_text_151 rfl rfl ?_
              refine G_geti (K := mX5_text) fX5_296 dX5_text_152 rfl rfl ?_
              refine G_icmp_ne (K := mX5_text) (tgt := 165) dX5_text_155 (by decide) (fun c155 => ?_) (fun c155 => ?_)
              · skip
                exact absurd (by rw [h28, hkl]) c155
              · skip
                refine G_aload_n (K := mX5_text) (i := 0) dX5_text_158 rfl rfl ?_
                refine G_geti (K := mX5_text) fX5_306 dX5_text_159 rfl rfl ?_
                refine G_goto (K := mX5_text) (tgt := 166) dX5_text_162 (by decide) ?_
                have hop : opText σ = (nI it, ups (txS σ Rz) 43 0 0) := by unfold opText; rw [hfin]
                rw [h6c 0 (by decide), ups_ne (by omega), hit29]
                rw [hkl, List.take_length] at hT6
                have hHI := hI.1.rows hvR Rz.length (Nat.le_refl _)
                rw [List.take_length] at hHI
                have hn6 := nOf_txS (σ := σ) (R := Rz) hHI.1 hHI.n8
                have hR4 : RR (ups M4 0 19 0) (ups σ 43 0 0) := hXM4.rr.obj (Or.inr ⟨rfl, rfl⟩)
                exact G_iret (st := []) (K := mX5_text) dX5_text_166 rfl (hQ _ _ (by
                  rw [hop]
                  refine ⟨rfl, hR4.house (fun c hc => ?_) ?_ (fun c hc => h6c c (by unfold solid at hc; omega)) (congrFun (h6c 0 (by decide)) 3) (congrFun (h6c 0 (by decide)) 19)⟩
                  · show ups (txS σ Rz) 43 0 0 c = ups σ 43 0 0 c
                    by_cases h43 : c = 43
                    · subst h43
                      funext i
                      by_cases hi : i = 0
                      · subst hi
                        rw [ups_same, ups_same]
                      · exact (ups_ne (fun z => hi z.2)).trans ((congrFun (if_neg (by omega)) i).trans (ups_ne (fun z => hi z.2)).symm)
                    · exact (ups_cell h43).trans ((if_neg (by omega)).trans (ups_cell h43).symm)
                  · rw [hn6]
                    exact hT6.tr (HR.ofEq (fun j hj => ((ups_cell (by omega)).trans (if_pos hj)).symm) (HR.rf _ _))))
            · skip
              rw [h28, le_nn (by omega) (by omega)] at c123
              have c123 : k < Rz.length := by omega
              refine G_iload_n (K := mX5_text) (i := 1) dX5_text_126 rfl rfl ?_
              refine G_aload_n (K := mX5_text) (i := 0) dX5_text_127 rfl rfl ?_
              refine G_iconst (K := mX5_text) (v := 3) dX5_text_128 (by decide) ?_
              refine G_iload_n (K := mX5_text) (i := 2) dX5_text_129 rfl rfl ?_
              refine G_imul (K := mX5_text) dX5_text_130 ?_
              rw [mul3 (by omega)]
              refine G_call0 (K := mX5_text) (as := [.int (nI (3 * k))]) (r := 0) (Q' := fun u Mz => ∃ z : Int32, u = some (.int z) ∧ 0 ≤ z ∧ HR (toH (Mz 1)) (apRow (apR σ (Rz.take k)) (Rz.getD k dr0)) (nxN (cR (nOf σ) (Rz.take k)) (Rz.getD k dr0)) ∧ ∀ c, c ≠ 1 → Mz c = M6 c) (rf_isSo (M := M6) hT6 (hI.1.rows hvR k (by omega)) (hvR k c123) c123 (by omega) (fun j hj => by rw [h6c 15 (by decide)]; exact hrows j hj) (fun z Mz q1 q2 q3 => ⟨z, rfl, q1, q2, q3⟩)) vX5_isSo rfl lX5_330 ⟨_, _, _, rfl, rfl, rfl⟩ (by decide) (Nat.le_of_ble_eq_true rfl) dX5_text_131 rfl ?_
              rintro u M7 ⟨z, rfl, hz0, hT7, h7c⟩
              refine G_if_ge (K := mX5_text) (tgt := 141) dX5_text_134 (by decide) (fun c134 => ?_) (fun c134 => ?_)
              · skip
                refine G_iconst (K := mX5_text) (v := 1) dX5_text_141 (by decide) ?_
                refine G_iadd (K := mX5_text) dX5_text_142 ?_
                rw [nI_1]
                refine G_istore_n (K := mX5_text) (i := 1) dX5_text_143 rfl (by decide) ?_
                refine G_iincN (K := mX5_text) dX5_text_144 (by decide) rfl ?_
                refine G_goto (K := mX5_text) (tgt := 118) dX5_text_147 (by decide) ?_
                refine kh (k + 1) (by omega) (by omega) M7 ?_ (fun c hc => (h7c c hc).trans (h6c c hc))
                have e : Rz.take (k + 1) = Rz.take k ++ [Rz.getD k dr0] := by
                  rw [List.take_add_one, List.getD_eq_getElem?_getD, List.getElem?_eq_getElem (by omega)]
                  rfl
                rw [e, apR_snoc, cR_snoc]
                exact hT7
              · skip
                exact absurd hz0 c134
          exact loop118 0 (by omega) _ (by rw [List.take_zero, ups_cell (by decide)]; exact hok4.1.1) (fun c hc => rfl)
        · skip
          obtain ⟨b, hb1, hb2, hbad⟩ : ∃ b, txtOf σ = .inl b ∧ tB (σ 42) L r.2.1 = b ∧ M4 0 20 = nI b := by
            have hw : ¬ M4 0 24 = 0 := fun z => c104 (by rw [ups_ne (by omega)]; exact z)
            rcases Bool.eq_false_or_eq_true r.1 with hr | hr
            · rw [show mustF (σ 42) L r (decide (¬ (0 : Int32) = 0)) = (false, r.2.1, r.2.2.1, r.2.2.2) from (if_pos hr).trans (if_neg (by decide))] at hXM4
              obtain ⟨m, -, hB⟩ := hXM4.bad rfl
              rcases hend with ⟨h, -⟩ | ⟨b, h1, h2, -⟩
              · exfalso
                have h0 : tS (σ 42) L r.2.1 = 0 := by
                  rw [← hct] at h
                  unfold contT at h
                  rw [if_pos hr] at h
                  by_cases h0 : tS (σ 42) L r.2.1 = 0
                  · exact h0
                  · rw [if_neg h0, if_neg (by intro z; rw [(hX3.ok hr).2.2.1] at c42; exact c42 rfl)] at h
                    cases h
                exact c84 (((hX3.ok hr).2.2.2.1.s2 (s := 0) (by decide) (by decide)).mpr h0)
              · exact ⟨b, h1, h2, by rw [← h2]; exact hB.2.2.1⟩
            · rw [mustF_bad hr] at hXM4
              obtain ⟨m, -, hB⟩ := hXM4.bad hr
              rcases hend with ⟨-, h⟩ | ⟨b, h1, h2, -⟩
              · rw [hr] at h; exact absurd h (by decide)
              · exact ⟨b, h1, h2, by rw [← h2]; exact hB.2.2.1⟩
          refine G_iconst (K := mX5_text) (v := -1) dX5_text_107 (by decide) ?_
          refine G_aload_n (K := mX5_text) (i := 0) dX5_text_108 rfl rfl ?_
          refine G_geti (K := mX5_text) fX5_266 dX5_text_109 rfl rfl ?_
          refine G_isub (K := mX5_text) dX5_text_112 ?_
          have hop : opText σ = (-1 - nI b, ups σ 43 0 0) := by unfold opText; rw [hb1]
          rw [ups_ne (by omega), hbad]
          exact G_iret (st := []) (K := mX5_text) dX5_text_113 rfl (hQ _ _ (by rw [hop]; exact ⟨rfl, hXM4.rr.obj (Or.inr ⟨rfl, rfl⟩)⟩))
      · skip
        refine G_iconst (K := mX5_text) (v := 1) dX5_text_87 (by decide) ?_
        refine G_goto (K := mX5_text) (tgt := 92) dX5_text_88 (by decide) ?_
        have hend : txtOf σ = .inr (it, r.2.2.2) ∧ r.1 = true ∨ ∃ b, txtOf σ = .inl b ∧ tB (σ 42) L r.2.1 = b ∧ (r.1 = true → ¬ M3 0 22 = 0) := by
          rw [← hct]
          unfold contT
          rcases Bool.eq_false_or_eq_true r.1 with hr | hr
          · rw [if_pos hr]
            obtain ⟨-, hok⟩ := hX3.ok hr
            by_cases h0 : tS (σ 42) L r.2.1 = 0
            · rw [if_pos h0]
              exact Or.inl ⟨rfl, hr⟩
            · rw [if_neg h0, if_neg (by intro z; rw [hok.2.1] at c42; exact c42 rfl)]
              exact Or.inr ⟨_, rfl, rfl, fun _ z => h0 ((hok.2.2.1.s2 (by decide) (by decide)).mp z)⟩
          · rw [if_neg (by rw [hr]; decide)]
            exact Or.inr ⟨_, rfl, rfl, fun z => by rw [hr] at z; exact absurd z (by decide)⟩
        refine G_call0 (K := mX5_text) (as := [.int 1]) (r := 0) (Q' := fun u Mz => u = none ∧ XS σ L (it) (6 * it) (mustF (σ 42) L r (decide (¬ 1 = 0))) Mz ∧ Mz 0 30 = M3 0 30) (rf_must (M := M3) (z := 1) hL hH hX3 (fun _ hr => by rw [((hX3.ok hr).2.2.2.1.s2 (s := 0) (by decide) (by decide)).mp c84]; decide) (fun Mz q1 q2 => ⟨rfl, q1, q2⟩)) vX5_must rfl lX5_292 ⟨_, _, _, rfl, rfl, rfl⟩ (by decide) (Nat.le_of_ble_eq_true rfl) dX5_text_92 rfl ?_
        rintro u M4 ⟨rfl, hXM4, h30M4⟩
        refine G_aload_n (K := mX5_text) (i := 0) dX5_text_95 rfl rfl ?_
        refine G_iconst (K := mX5_text) (v := 0) dX5_text_96 (by decide) ?_
        refine G_puti (K := mX5_text) fX5_260 w5_19 dX5_text_97 rfl rfl ?_
        refine G_aload_n (K := mX5_text) (i := 0) dX5_text_100 rfl rfl ?_
        refine G_geti (K := mX5_text) fX5_285 dX5_text_101 rfl rfl ?_
        refine G_if_eq (K := mX5_text) (tgt := 114) dX5_text_104 (by decide) (fun c104 => ?_) (fun c104 => ?_)
        · skip
          have hw : M4 0 24 = 0 := by rw [ups_ne (by omega)] at c104; exact c104
          obtain ⟨hr, Rz, hRz, hfin⟩ : ∃ _ : r.1 = true, ∃ Rz, Rz = r.2.2.2 ∧ txtOf σ = .inr (it, Rz) := by
            rcases hend with ⟨h1, h2⟩ | ⟨b, h1, h2, h3⟩
            · exact ⟨h2, _, rfl, h1⟩
            · exfalso
              rcases Bool.eq_false_or_eq_true r.1 with hr | hr
              · exact h3 hr c84
              · rw [mustF_bad hr] at hXM4
                obtain ⟨m, -, hB⟩ := hXM4.bad hr
                rw [hB.2.1] at hw; exact absurd hw (by decide)
          obtain ⟨hk28, hok4, hit29⟩ : M4 0 28 = nI Rz.length ∧ OKs σ L r.2.2.1 (tE (σ 42) L r.2.1) Rz M4 ∧ M4 0 29 = nI it := by
            rw [show mustF (σ 42) L r (decide (¬ (1 : Int32) = 0)) = (true, tE (σ 42) L r.2.1, r.2.2.1, r.2.2.2) from (if_pos hr).trans (if_pos rfl)] at hXM4
            have h := (hXM4.ok rfl).2
            rw [hRz]
            exact ⟨h.2.2.2.2.2.2.1, h, hXM4.1⟩
          have hrows := hok4.2.2.2.2.2.2.2
          obtain ⟨hvR, hcR, -⟩ := hgo hr
          rw [← hRz] at hvR hcR
          have hlR : Rz.length ≤ 6 * it := by rw [hRz]; exact (hX3.ok hr).1
          refine G_iconst (K := mX5_text) (v := 0) dX5_text_114 (by decide) ?_
          refine G_istore_n (K := mX5_text) (i := 1) dX5_text_115 rfl (by decide) ?_
          refine G_iconst (K := mX5_text) (v := 0) dX5_text_116 (by decide) ?_
          refine G_istore_n (K := mX5_text) (i := 2) dX5_text_117 rfl (by decide) ?_
          have loop118 : ∀ k, k ≤ Rz.length → ∀ M6 : Mem, HR (toH (M6 1)) (apR σ (Rz.take k)) (cR (nOf σ) (Rz.take k)) → (∀ c, c ≠ 1 → M6 c = ups M4 0 19 0 c) → G mX5_text shR 12 Q 118 [some (.ref 0), some (.int (nI k)), some (.int (nI k))] [] M6 := by
            refine upto Rz.length (fun k hkR kh => ?_)
            intro M6 hT6 h6c
            have h28 : M6 0 28 = nI Rz.length := by rw [h6c 0 (by decide), ups_ne (by omega)]; exact hk28
            refine G_iload_n (K := mX5_text) (i := 2) dX5_text_118 rfl rfl ?_
            refine G_aload_n (K := mX5_text) (i := 0) dX5_text_119 rfl rfl ?_
            refine G_geti (K := mX5_text) fX5_296 dX5_text_120 rfl rfl ?_
            refine G_icmp_ge (K := mX5_text) (tgt := 150) dX5_text_123 (by decide) (fun c123 => ?_) (fun c123 => ?_)
            · skip
              rw [h28, le_nn (by omega) (by omega)] at c123
              have hkl : k = Rz.length := by omega
              refine G_iload_n (K := mX5_text) (i := 1) dX5_text_150 rfl rfl ?_
              refine G_aload_n (K := mX5_text) (i := 0) dX5_text_151 rfl rfl ?_
              refine G_geti (K := mX5_text) fX5_296 dX5_text_152 rfl rfl ?_
              refine G_icmp_ne (K := mX5_text) (tgt := 165) dX5_text_155 (by decide) (fun c155 => ?_) (fun c155 => ?_)
              · skip
                exact absurd (by rw [h28, hkl]) c155
              · skip
                refine G_aload_n (K := mX5_text) (i := 0) dX5_text_158 rfl rfl ?_
                refine G_geti (K := mX5_text) fX5_306 dX5_text_159 rfl rfl ?_
                refine G_goto (K := mX5_text) (tgt := 166) dX5_text_162 (by decide) ?_
                have hop : opText σ = (nI it, ups (txS σ Rz) 43 0 0) := by unfold opText; rw [hfin]
                rw [h6c 0 (by decide), ups_ne (by omega), hit29]
                rw [hkl, List.take_length] at hT6
                have hHI := hI.1.rows hvR Rz.length (Nat.le_refl _)
                rw [List.take_length] at hHI
                have hn6 := nOf_txS (σ := σ) (R := Rz) hHI.1 hHI.n8
                have hR4 : RR (ups M4 0 19 0) (ups σ 43 0 0) := hXM4.rr.obj (Or.inr ⟨rfl, rfl⟩)
                exact G_iret (st := []) (K := mX5_text) dX5_text_166 rfl (hQ _ _ (by
                  rw [hop]
                  refine ⟨rfl, hR4.house (fun c hc => ?_) ?_ (fun c hc => h6c c (by unfold solid at hc; omega)) (congrFun (h6c 0 (by decide)) 3) (congrFun (h6c 0 (by decide)) 19)⟩
                  · show ups (txS σ Rz) 43 0 0 c = ups σ 43 0 0 c
                    by_cases h43 : c = 43
                    · subst h43
                      funext i
                      by_cases hi : i = 0
                      · subst hi
                        rw [ups_same, ups_same]
                      · exact (ups_ne (fun z => hi z.2)).trans ((congrFun (if_neg (by omega)) i).trans (ups_ne (fun z => hi z.2)).symm)
                    · exact (ups_cell h43).trans ((if_neg (by omega)).trans (ups_cell h43).symm)
                  · rw [hn6]
                    exact hT6.tr (HR.ofEq (fun j hj => ((ups_cell (by omega)).trans (if_pos hj)).symm) (HR.rf _ _))))
            · skip
              rw [h28, le_nn (by omega) (by omega)] at c123
              have c123 : k < Rz.length := by omega
              refine G_iload_n (K := mX5_text) (i := 1) dX5_text_126 rfl rfl ?_
              refine G_aload_n (K := mX5_text) (i := 0) dX5_text_127 rfl rfl ?_
              refine G_iconst (K := mX5_text) (v := 3) dX5_text_128 (by decide) ?_
              refine G_iload_n (K := mX5_text) (i := 2) dX5_text_129 rfl rfl ?_
              refine G_imul (K := mX5_text) dX5_text_130 ?_
              rw [mul3 (by omega)]
              refine G_call0 (K := mX5_text) (as := [.int (nI (3 * k))]) (r := 0) (Q' := fun u Mz => ∃ z : Int32, u = some (.int z) ∧ 0 ≤ z ∧ HR (toH (Mz 1)) (apRow (apR σ (Rz.take k)) (Rz.getD k dr0)) (nxN (cR (nOf σ) (Rz.take k)) (Rz.getD k dr0)) ∧ ∀ c, c ≠ 1 → Mz c = M6 c) (rf_isSo (M := M6) hT6 (hI.1.rows hvR k (by omega)) (hvR k c123) c123 (by omega) (fun j hj => by rw [h6c 15 (by decide)]; exact hrows j hj) (fun z Mz q1 q2 q3 => ⟨z, rfl, q1, q2, q3⟩)) vX5_isSo rfl lX5_330 ⟨_, _, _, rfl, rfl, rfl⟩ (by decide) (Nat.le_of_ble_eq_true rfl) dX5_text_131 rfl ?_
              rintro u M7 ⟨z, rfl, hz0, hT7, h7c⟩
              refine G_if_ge (K := mX5_text) (tgt := 141) dX5_text_134 (by decide) (fun c134 => ?_) (fun c134 => ?_)
              · skip
                refine G_iconst (K := mX5_text) (v := 1) dX5_text_141 (by decide) ?_
                refine G_iadd (K := mX5_text) dX5_text_142 ?_
                rw [nI_1]
                refine G_istore_n (K := mX5_text) (i := 1) dX5_text_143 rfl (by decide) ?_
                refine G_iincN (K := mX5_text) dX5_text_144 (by decide) rfl ?_
                refine G_goto (K := mX5_text) (tgt := 118) dX5_text_147 (by decide) ?_
                refine kh (k + 1) (by omega) (by omega) M7 ?_ (fun c hc => (h7c c hc).trans (h6c c hc))
                have e : Rz.take (k + 1) = Rz.take k ++ [Rz.getD k dr0] := by
                  rw [List.take_add_one, List.getD_eq_getElem?_getD, List.getElem?_eq_getElem (by omega)]
                  rfl
                rw [e, apR_snoc, cR_snoc]
                exact hT7
              · skip
                exact absurd hz0 c134
          exact loop118 0 (by omega) _ (by rw [List.take_zero, ups_cell (by decide)]; exact hok4.1.1) (fun c hc => rfl)
        · skip
          obtain ⟨b, hb1, hb2, hbad⟩ : ∃ b, txtOf σ = .inl b ∧ tB (σ 42) L r.2.1 = b ∧ M4 0 20 = nI b := by
            have hw : ¬ M4 0 24 = 0 := fun z => c104 (by rw [ups_ne (by omega)]; exact z)
            rcases Bool.eq_false_or_eq_true r.1 with hr | hr
            · rw [show mustF (σ 42) L r (decide (¬ (1 : Int32) = 0)) = (true, tE (σ 42) L r.2.1, r.2.2.1, r.2.2.2) from (if_pos hr).trans (if_pos rfl)] at hXM4
              exact absurd (hXM4.ok rfl).2.2.1 hw
            · rw [mustF_bad hr] at hXM4
              obtain ⟨m, -, hB⟩ := hXM4.bad hr
              rcases hend with ⟨-, h⟩ | ⟨b, h1, h2, -⟩
              · rw [hr] at h; exact absurd h (by decide)
              · exact ⟨b, h1, h2, by rw [← h2]; exact hB.2.2.1⟩
          refine G_iconst (K := mX5_text) (v := -1) dX5_text_107 (by decide) ?_
          refine G_aload_n (K := mX5_text) (i := 0) dX5_text_108 rfl rfl ?_
          refine G_geti (K := mX5_text) fX5_266 dX5_text_109 rfl rfl ?_
          refine G_isub (K := mX5_text) dX5_text_112 ?_
          have hop : opText σ = (-1 - nI b, ups σ 43 0 0) := by unfold opText; rw [hb1]
          rw [ups_ne (by omega), hbad]
          exact G_iret (st := []) (K := mX5_text) dX5_text_113 rfl (hQ _ _ (by rw [hop]; exact ⟨rfl, hXM4.rr.obj (Or.inr ⟨rfl, rfl⟩)⟩))
    · skip
      have hr1 : r.1 = true := by
        rcases hX3.2 with ⟨h, -⟩ | ⟨-, m, -, h⟩
        · exact h
        · rw [h.2.1] at c42; exact absurd c42 (by decide)
      obtain ⟨hlen, hok⟩ := hX3.ok hr1
      refine G_aload_n (K := mX5_text) (i := 0) dX5_text_45 rfl rfl ?_
      refine G_geti (K := mX5_text) fX5_275 dX5_text_46 rfl rfl ?_
      refine G_iconst (K := mX5_text) (v := 3) dX5_text_49 (by decide) ?_
      refine G_icmp_ne (K := mX5_text) (tgt := 79) dX5_text_50 (by decide) (fun c50 => ?_) (fun c50 => ?_)
      · skip
        refine G_aload_n (K := mX5_text) (i := 0) dX5_text_79 rfl rfl ?_
        refine G_aload_n (K := mX5_text) (i := 0) dX5_text_80 rfl rfl ?_
        refine G_geti (K := mX5_text) fX5_275 dX5_text_81 rfl rfl ?_
        refine G_if_ne (K := mX5_text) (tgt := 91) dX5_text_84 (by decide) (fun c84 => ?_) (fun c84 => ?_)
        · skip
          refine G_iconst (K := mX5_text) (v := 0) dX5_text_91 (by decide) ?_
          have hend : txtOf σ = .inr (it, r.2.2.2) ∧ r.1 = true ∨ ∃ b, txtOf σ = .inl b ∧ tB (σ 42) L r.2.1 = b ∧ (r.1 = true → ¬ M3 0 22 = 0) := by
            rw [← hct]
            unfold contT
            rcases Bool.eq_false_or_eq_true r.1 with hr | hr
            · rw [if_pos hr]
              obtain ⟨-, hok⟩ := hX3.ok hr
              by_cases h0 : tS (σ 42) L r.2.1 = 0
              · rw [if_pos h0]
                exact Or.inl ⟨rfl, hr⟩
              · rw [if_neg h0, if_neg (fun z => c50 (by rw [hok.2.2.1.2.2.1, if_neg (by rw [z]; decide)]; exact z))]
                exact Or.inr ⟨_, rfl, rfl, fun _ z => h0 ((hok.2.2.1.s2 (by decide) (by decide)).mp z)⟩
            · rw [if_neg (by rw [hr]; decide)]
              exact Or.inr ⟨_, rfl, rfl, fun z => by rw [hr] at z; exact absurd z (by decide)⟩
          refine G_call0 (K := mX5_text) (as := [.int 0]) (r := 0) (Q' := fun u Mz => u = none ∧ XS σ L (it) (6 * it) (mustF (σ 42) L r (decide (¬ 0 = 0))) Mz ∧ Mz 0 30 = M3 0 30) (rf_must (M := M3) (z := 0) hL hH hX3 (fun h => absurd rfl h) (fun Mz q1 q2 => ⟨rfl, q1, q2⟩)) vX5_must rfl lX5_292 ⟨_, _, _, rfl, rfl, rfl⟩ (by decide) (Nat.le_of_ble_eq_true rfl) dX5_text_92 rfl ?_
          rintro u M4 ⟨rfl, hXM4, h30M4⟩
          refine G_aload_n (K := mX5_text) (i := 0) dX5_text_95 rfl rfl ?_
          refine G_iconst (K := mX5_text) (v := 0) dX5_text_96 (by decide) ?_
          refine G_puti (K := mX5_text) fX5_260 w5_19 dX5_text_97 rfl rfl ?_
          refine G_aload_n (K := mX5_text) (i := 0) dX5_text_100 rfl rfl ?_
          refine G_geti (K := mX5_text) fX5_285 dX5_text_101 rfl rfl ?_
          refine G_if_eq (K := mX5_text) (tgt := 114) dX5_text_104 (by decide) (fun c104 => ?_) (fun c104 => ?_)
          · skip
            have hw : M4 0 24 = 0 := by rw [ups_ne (by omega)] at c104; exact c104
            obtain ⟨hr, Rz, hRz, hfin⟩ : ∃ _ : r.1 = true, ∃ Rz, Rz = r.2.2.2 ∧ txtOf σ = .inr (it, Rz) := by
              rcases hend with ⟨h1, h2⟩ | ⟨b, h1, h2, h3⟩
              · exact ⟨h2, _, rfl, h1⟩
              · exfalso
                rcases Bool.eq_false_or_eq_true r.1 with hr | hr
                · rw [show mustF (σ 42) L r (decide (¬ (0 : Int32) = 0)) = (false, r.2.1, r.2.2.1, r.2.2.2) from (if_pos hr).trans (if_neg (by decide))] at hXM4
                  obtain ⟨m, -, hB⟩ := hXM4.bad rfl
                  rw [hB.2.1] at hw; exact absurd hw (by decide)
                · rw [mustF_bad hr] at hXM4
                  obtain ⟨m, -, hB⟩ := hXM4.bad hr
                  rw [hB.2.1] at hw; exact absurd hw (by decide)
            obtain ⟨hk28, hok4, hit29⟩ : M4 0 28 = nI Rz.length ∧ OKs σ L r.2.2.1 (tE (σ 42) L r.2.1) Rz M4 ∧ M4 0 29 = nI it := by
              rw [show mustF (σ 42) L r (decide (¬ (0 : Int32) = 0)) = (false, r.2.1, r.2.2.1, r.2.2.2) from (if_pos hr).trans (if_neg (by decide))] at hXM4
              obtain ⟨m, -, hB⟩ := hXM4.bad rfl
              rw [hB.2.1] at hw; exact absurd hw (by decide)
            have hrows := hok4.2.2.2.2.2.2.2
            obtain ⟨hvR, hcR, -⟩ := hgo hr
            rw [← hRz] at hvR hcR
            have hlR : Rz.length ≤ 6 * it := by rw [hRz]; exact (hX3.ok hr).1
            refine G_iconst (K := mX5_text) (v := 0) dX5_text_114 (by decide) ?_
            refine G_istore_n (K := mX5_text) (i := 1) dX5_text_115 rfl (by decide) ?_
            refine G_iconst (K := mX5_text) (v := 0) dX5_text_116 (by decide) ?_
            refine G_istore_n (K := mX5_text) (i := 2) dX5_text_117 rfl (by decide) ?_
            have loop118 : ∀ k, k ≤ Rz.length → ∀ M6 : Mem, HR (toH (M6 1)) (apR σ (Rz.take k)) (cR (nOf σ) (Rz.take k)) → (∀ c, c ≠ 1 → M6 c = ups M4 0 19 0 c) → G mX5_text shR 12 Q 118 [some (.ref 0), some (.int (nI k)), some (.int (nI k))] [] M6 := by
              refine upto Rz.length (fun k hkR kh => ?_)
              intro M6 hT6 h6c
              have h28 : M6 0 28 = nI Rz.length := by rw [h6c 0 (by decide), ups_ne (by omega)]; exact hk28
              refine G_iload_n (K := mX5_text) (i := 2) dX5_text_118 rfl rfl ?_
              refine G_aload_n (K := mX5_text) (i := 0) dX5_text_119 rfl rfl ?_
              refine G_geti (K := mX5_text) fX5_296 dX5_text_120 rfl rfl ?_
              refine G_icmp_ge (K := mX5_text) (tgt := 150) dX5_text_123 (by decide) (fun c123 => ?_) (fun c123 => ?_)
              · skip
                rw [h28, le_nn (by omega) (by omega)] at c123
                have hkl : k = Rz.length := by omega
                refine G_iload_n (K := mX5_text) (i := 1) dX5_text_150 rfl rfl ?_
                refine G_aload_n (K := mX5_text) (i := 0) dX5_text_151 rfl rfl ?_
                refine G_geti (K := mX5_text) fX5_296 dX5_text_152 rfl rfl ?_
                refine G_icmp_ne (K := mX5_text) (tgt := 165) dX5_text_155 (by decide) (fun c155 => ?_) (fun c155 => ?_)
                · skip
                  exact absurd (by rw [h28, hkl]) c155
                · skip
                  refine G_aload_n (K := mX5_text) (i := 0) dX5_text_158 rfl rfl ?_
                  refine G_geti (K := mX5_text) fX5_306 dX5_text_159 rfl rfl ?_
                  refine G_goto (K := mX5_text) (tgt := 166) dX5_text_162 (by decide) ?_
                  have hop : opText σ = (nI it, ups (txS σ Rz) 43 0 0) := by unfold opText; rw [hfin]
                  rw [h6c 0 (by decide), ups_ne (by omega), hit29]
                  rw [hkl, List.take_length] at hT6
                  have hHI := hI.1.rows hvR Rz.length (Nat.le_refl _)
                  rw [List.take_length] at hHI
                  have hn6 := nOf_txS (σ := σ) (R := Rz) hHI.1 hHI.n8
                  have hR4 : RR (ups M4 0 19 0) (ups σ 43 0 0) := hXM4.rr.obj (Or.inr ⟨rfl, rfl⟩)
                  exact G_iret (st := []) (K := mX5_text) dX5_text_166 rfl (hQ _ _ (by
                    rw [hop]
                    refine ⟨rfl, hR4.house (fun c hc => ?_) ?_ (fun c hc => h6c c (by unfold solid at hc; omega)) (congrFun (h6c 0 (by decide)) 3) (congrFun (h6c 0 (by decide)) 19)⟩
                    · show ups (txS σ Rz) 43 0 0 c = ups σ 43 0 0 c
                      by_cases h43 : c = 43
                      · subst h43
                        funext i
                        by_cases hi : i = 0
                        · subst hi
                          rw [ups_same, ups_same]
                        · exact (ups_ne (fun z => hi z.2)).trans ((congrFun (if_neg (by omega)) i).trans (ups_ne (fun z => hi z.2)).symm)
                      · exact (ups_cell h43).trans ((if_neg (by omega)).trans (ups_cell h43).symm)
                    · rw [hn6]
                      exact hT6.tr (HR.ofEq (fun j hj => ((ups_cell (by omega)).trans (if_pos hj)).symm) (HR.rf _ _))))
              · skip
                rw [h28, le_nn (by omega) (by omega)] at c123
                have c123 : k < Rz.length := by omega
                refine G_iload_n (K := mX5_text) (i := 1) dX5_text_126 rfl rfl ?_
                refine G_aload_n (K := mX5_text) (i := 0) dX5_text_127 rfl rfl ?_
                refine G_iconst (K := mX5_text) (v := 3) dX5_text_128 (by decide) ?_
                refine G_iload_n (K := mX5_text) (i := 2) dX5_text_129 rfl rfl ?_
                refine G_imul (K := mX5_text) dX5_text_130 ?_
                rw [mul3 (by omega)]
                refine G_call0 (K := mX5_text) (as := [.int (nI (3 * k))]) (r := 0) (Q' := fun u Mz => ∃ z : Int32, u = some (.int z) ∧ 0 ≤ z ∧ HR (toH (Mz 1)) (apRow (apR σ (Rz.take k)) (Rz.getD k dr0)) (nxN (cR (nOf σ) (Rz.take k)) (Rz.getD k dr0)) ∧ ∀ c, c ≠ 1 → Mz c = M6 c) (rf_isSo (M := M6) hT6 (hI.1.rows hvR k (by omega)) (hvR k c123) c123 (by omega) (fun j hj => by rw [h6c 15 (by decide)]; exact hrows j hj) (fun z Mz q1 q2 q3 => ⟨z, rfl, q1, q2, q3⟩)) vX5_isSo rfl lX5_330 ⟨_, _, _, rfl, rfl, rfl⟩ (by decide) (Nat.le_of_ble_eq_true rfl) dX5_text_131 rfl ?_
                rintro u M7 ⟨z, rfl, hz0, hT7, h7c⟩
                refine G_if_ge (K := mX5_text) (tgt := 141) dX5_text_134 (by decide) (fun c134 => ?_) (fun c134 => ?_)
                · skip
                  refine G_iconst (K := mX5_text) (v := 1) dX5_text_141 (by decide) ?_
                  refine G_iadd (K := mX5_text) dX5_text_142 ?_
                  rw [nI_1]
                  refine G_istore_n (K := mX5_text) (i := 1) dX5_text_143 rfl (by decide) ?_
                  refine G_iincN (K := mX5_text) dX5_text_144 (by decide) rfl ?_
                  refine G_goto (K := mX5_text) (tgt := 118) dX5_text_147 (by decide) ?_
                  refine kh (k + 1) (by omega) (by omega) M7 ?_ (fun c hc => (h7c c hc).trans (h6c c hc))
                  have e : Rz.take (k + 1) = Rz.take k ++ [Rz.getD k dr0] := by
                    rw [List.take_add_one, List.getD_eq_getElem?_getD, List.getElem?_eq_getElem (by omega)]
                    rfl
                  rw [e, apR_snoc, cR_snoc]
                  exact hT7
                · skip
                  exact absurd hz0 c134
            exact loop118 0 (by omega) _ (by rw [List.take_zero, ups_cell (by decide)]; exact hok4.1.1) (fun c hc => rfl)
          · skip
            obtain ⟨b, hb1, hb2, hbad⟩ : ∃ b, txtOf σ = .inl b ∧ tB (σ 42) L r.2.1 = b ∧ M4 0 20 = nI b := by
              have hw : ¬ M4 0 24 = 0 := fun z => c104 (by rw [ups_ne (by omega)]; exact z)
              rcases Bool.eq_false_or_eq_true r.1 with hr | hr
              · rw [show mustF (σ 42) L r (decide (¬ (0 : Int32) = 0)) = (false, r.2.1, r.2.2.1, r.2.2.2) from (if_pos hr).trans (if_neg (by decide))] at hXM4
                obtain ⟨m, -, hB⟩ := hXM4.bad rfl
                rcases hend with ⟨h, -⟩ | ⟨b, h1, h2, -⟩
                · exfalso
                  have h0 : tS (σ 42) L r.2.1 = 0 := by
                    rw [← hct] at h
                    unfold contT at h
                    rw [if_pos hr] at h
                    by_cases h0 : tS (σ 42) L r.2.1 = 0
                    · exact h0
                    · rw [if_neg h0, if_neg (by exact fun z => c50 (by rw [(hX3.ok hr).2.2.2.1.2.2.1, if_neg (by rw [z]; decide)]; exact z))] at h
                      cases h
                  exact c84 (((hX3.ok hr).2.2.2.1.s2 (s := 0) (by decide) (by decide)).mpr h0)
                · exact ⟨b, h1, h2, by rw [← h2]; exact hB.2.2.1⟩
              · rw [mustF_bad hr] at hXM4
                obtain ⟨m, -, hB⟩ := hXM4.bad hr
                rcases hend with ⟨-, h⟩ | ⟨b, h1, h2, -⟩
                · rw [hr] at h; exact absurd h (by decide)
                · exact ⟨b, h1, h2, by rw [← h2]; exact hB.2.2.1⟩
            refine G_iconst (K := mX5_text) (v := -1) dX5_text_107 (by decide) ?_
            refine G_aload_n (K := mX5_text) (i := 0) dX5_text_108 rfl rfl ?_
            refine G_geti (K := mX5_text) fX5_266 dX5_text_109 rfl rfl ?_
            refine G_isub (K := mX5_text) dX5_text_112 ?_
            have hop : opText σ = (-1 - nI b, ups σ 43 0 0) := by unfold opText; rw [hb1]
            rw [ups_ne (by omega), hbad]
            exact G_iret (st := []) (K := mX5_text) dX5_text_113 rfl (hQ _ _ (by rw [hop]; exact ⟨rfl, hXM4.rr.obj (Or.inr ⟨rfl, rfl⟩)⟩))
        · skip
          refine G_iconst (K := mX5_text) (v := 1) dX5_text_87 (by decide) ?_
          refine G_goto (K := mX5_text) (tgt := 92) dX5_text_88 (by decide) ?_
          have hend : txtOf σ = .inr (it, r.2.2.2) ∧ r.1 = true ∨ ∃ b, txtOf σ = .inl b ∧ tB (σ 42) L r.2.1 = b ∧ (r.1 = true → ¬ M3 0 22 = 0) := by
            rw [← hct]
            unfold contT
            rcases Bool.eq_false_or_eq_true r.1 with hr | hr
            · rw [if_pos hr]
              obtain ⟨-, hok⟩ := hX3.ok hr
              by_cases h0 : tS (σ 42) L r.2.1 = 0
              · rw [if_pos h0]
                exact Or.inl ⟨rfl, hr⟩
              · rw [if_neg h0, if_neg (fun z => c50 (by rw [hok.2.2.1.2.2.1, if_neg (by rw [z]; decide)]; exact z))]
                exact Or.inr ⟨_, rfl, rfl, fun _ z => h0 ((hok.2.2.1.s2 (by decide) (by decide)).mp z)⟩
            · rw [if_neg (by rw [hr]; decide)]
              exact Or.inr ⟨_, rfl, rfl, fun z => by rw [hr] at z; exact absurd z (by decide)⟩
          refine G_call0 (K := mX5_text) (as := [.int 1]) (r := 0) (Q' := fun u Mz => u = none ∧ XS σ L (it) (6 * it) (mustF (σ 42) L r (decide (¬ 1 = 0))) Mz ∧ Mz 0 30 = M3 0 30) (rf_must (M := M3) (z := 1) hL hH hX3 (fun _ hr => by rw [((hX3.ok hr).2.2.2.1.s2 (s := 0) (by decide) (by decide)).mp c84]; decide) (fun Mz q1 q2 => ⟨rfl, q1, q2⟩)) vX5_must rfl lX5_292 ⟨_, _, _, rfl, rfl, rfl⟩ (by decide) (Nat.le_of_ble_eq_true rfl) dX5_text_92 rfl ?_
          rintro u M4 ⟨rfl, hXM4, h30M4⟩
          refine G_aload_n (K := mX5_text) (i := 0) dX5_text_95 rfl rfl ?_
          refine G_iconst (K := mX5_text) (v := 0) dX5_text_96 (by decide) ?_
          refine G_puti (K := mX5_text) fX5_260 w5_19 dX5_text_97 rfl rfl ?_
          refine G_aload_n (K := mX5_text) (i := 0) dX5_text_100 rfl rfl ?_
          refine G_geti (K := mX5_text) fX5_285 dX5_text_101 rfl rfl ?_
          refine G_if_eq (K := mX5_text) (tgt := 114) dX5_text_104 (by decide) (fun c104 => ?_) (fun c104 => ?_)
          · skip
            have hw : M4 0 24 = 0 := by rw [ups_ne (by omega)] at c104; exact c104
            obtain ⟨hr, Rz, hRz, hfin⟩ : ∃ _ : r.1 = true, ∃ Rz, Rz = r.2.2.2 ∧ txtOf σ = .inr (it, Rz) := by
              rcases hend with ⟨h1, h2⟩ | ⟨b, h1, h2, h3⟩
              · exact ⟨h2, _, rfl, h1⟩
              · exfalso
                rcases Bool.eq_false_or_eq_true r.1 with hr | hr
                · exact h3 hr c84
                · rw [mustF_bad hr] at hXM4
                  obtain ⟨m, -, hB⟩ := hXM4.bad hr
                  rw [hB.2.1] at hw; exact absurd hw (by decide)
            obtain ⟨hk28, hok4, hit29⟩ : M4 0 28 = nI Rz.length ∧ OKs σ L r.2.2.1 (tE (σ 42) L r.2.1) Rz M4 ∧ M4 0 29 = nI it := by
              rw [show mustF (σ 42) L r (decide (¬ (1 : Int32) = 0)) = (true, tE (σ 42) L r.2.1, r.2.2.1, r.2.2.2) from (if_pos hr).trans (if_pos rfl)] at hXM4
              have h := (hXM4.ok rfl).2
              rw [hRz]
              exact ⟨h.2.2.2.2.2.2.1, h, hXM4.1⟩
            have hrows := hok4.2.2.2.2.2.2.2
            obtain ⟨hvR, hcR, -⟩ := hgo hr
            rw [← hRz] at hvR hcR
            have hlR : Rz.length ≤ 6 * it := by rw [hRz]; exact (hX3.ok hr).1
            refine G_iconst (K := mX5_text) (v := 0) dX5_text_114 (by decide) ?_
            refine G_istore_n (K := mX5_text) (i := 1) dX5_text_115 rfl (by decide) ?_
            refine G_iconst (K := mX5_text) (v := 0) dX5_text_116 (by decide) ?_
            refine G_istore_n (K := mX5_text) (i := 2) dX5_text_117 rfl (by decide) ?_
            have loop118 : ∀ k, k ≤ Rz.length → ∀ M6 : Mem, HR (toH (M6 1)) (apR σ (Rz.take k)) (cR (nOf σ) (Rz.take k)) → (∀ c, c ≠ 1 → M6 c = ups M4 0 19 0 c) → G mX5_text shR 12 Q 118 [some (.ref 0), some (.int (nI k)), some (.int (nI k))] [] M6 := by
              refine upto Rz.length (fun k hkR kh => ?_)
              intro M6 hT6 h6c
              have h28 : M6 0 28 = nI Rz.length := by rw [h6c 0 (by decide), ups_ne (by omega)]; exact hk28
              refine G_iload_n (K := mX5_text) (i := 2) dX5_text_118 rfl rfl ?_
              refine G_aload_n (K := mX5_text) (i := 0) dX5_text_119 rfl rfl ?_
              refine G_geti (K := mX5_text) fX5_296 dX5_text_120 rfl rfl ?_
              refine G_icmp_ge (K := mX5_text) (tgt := 150) dX5_text_123 (by decide) (fun c123 => ?_) (fun c123 => ?_)
              · skip
                rw [h28, le_nn (by omega) (by omega)] at c123
                have hkl : k = Rz.length := by omega
                refine G_iload_n (K := mX5_text) (i := 1) dX5_text_150 rfl rfl ?_
                refine G_aload_n (K := mX5_text) (i := 0) dX5_text_151 rfl rfl ?_
                refine G_geti (K := mX5_text) fX5_296 dX5_text_152 rfl rfl ?_
                refine G_icmp_ne (K := mX5_text) (tgt := 165) dX5_text_155 (by decide) (fun c155 => ?_) (fun c155 => ?_)
                · skip
                  exact absurd (by rw [h28, hkl]) c155
                · skip
                  refine G_aload_n (K := mX5_text) (i := 0) dX5_text_158 rfl rfl ?_
                  refine G_geti (K := mX5_text) fX5_306 dX5_text_159 rfl rfl ?_
                  refine G_goto (K := mX5_text) (tgt := 166) dX5_text_162 (by decide) ?_
                  have hop : opText σ = (nI it, ups (txS σ Rz) 43 0 0) := by unfold opText; rw [hfin]
                  rw [h6c 0 (by decide), ups_ne (by omega), hit29]
                  rw [hkl, List.take_length] at hT6
                  have hHI := hI.1.rows hvR Rz.length (Nat.le_refl _)
                  rw [List.take_length] at hHI
                  have hn6 := nOf_txS (σ := σ) (R := Rz) hHI.1 hHI.n8
                  have hR4 : RR (ups M4 0 19 0) (ups σ 43 0 0) := hXM4.rr.obj (Or.inr ⟨rfl, rfl⟩)
                  exact G_iret (st := []) (K := mX5_text) dX5_text_166 rfl (hQ _ _ (by
                    rw [hop]
                    refine ⟨rfl, hR4.house (fun c hc => ?_) ?_ (fun c hc => h6c c (by unfold solid at hc; omega)) (congrFun (h6c 0 (by decide)) 3) (congrFun (h6c 0 (by decide)) 19)⟩
                    · show ups (txS σ Rz) 43 0 0 c = ups σ 43 0 0 c
                      by_cases h43 : c = 43
                      · subst h43
                        funext i
                        by_cases hi : i = 0
                        · subst hi
                          rw [ups_same, ups_same]
                        · exact (ups_ne (fun z => hi z.2)).trans ((congrFun (if_neg (by omega)) i).trans (ups_ne (fun z => hi z.2)).symm)
                      · exact (ups_cell h43).trans ((if_neg (by omega)).trans (ups_cell h43).symm)
                    · rw [hn6]
                      exact hT6.tr (HR.ofEq (fun j hj => ((ups_cell (by omega)).trans (if_pos hj)).symm) (HR.rf _ _))))
              · skip
                rw [h28, le_nn (by omega) (by omega)] at c123
                have c123 : k < Rz.length := by omega
                refine G_iload_n (K := mX5_text) (i := 1) dX5_text_126 rfl rfl ?_
                refine G_aload_n (K := mX5_text) (i := 0) dX5_text_127 rfl rfl ?_
                refine G_iconst (K := mX5_text) (v := 3) dX5_text_128 (by decide) ?_
                refine G_iload_n (K := mX5_text) (i := 2) dX5_text_129 rfl rfl ?_
                refine G_imul (K := mX5_text) dX5_text_130 ?_
                rw [mul3 (by omega)]
                refine G_call0 (K := mX5_text) (as := [.int (nI (3 * k))]) (r := 0) (Q' := fun u Mz => ∃ z : Int32, u = some (.int z) ∧ 0 ≤ z ∧ HR (toH (Mz 1)) (apRow (apR σ (Rz.take k)) (Rz.getD k dr0)) (nxN (cR (nOf σ) (Rz.take k)) (Rz.getD k dr0)) ∧ ∀ c, c ≠ 1 → Mz c = M6 c) (rf_isSo (M := M6) hT6 (hI.1.rows hvR k (by omega)) (hvR k c123) c123 (by omega) (fun j hj => by rw [h6c 15 (by decide)]; exact hrows j hj) (fun z Mz q1 q2 q3 => ⟨z, rfl, q1, q2, q3⟩)) vX5_isSo rfl lX5_330 ⟨_, _, _, rfl, rfl, rfl⟩ (by decide) (Nat.le_of_ble_eq_true rfl) dX5_text_131 rfl ?_
                rintro u M7 ⟨z, rfl, hz0, hT7, h7c⟩
                refine G_if_ge (K := mX5_text) (tgt := 141) dX5_text_134 (by decide) (fun c134 => ?_) (fun c134 => ?_)
                · skip
                  refine G_iconst (K := mX5_text) (v := 1) dX5_text_141 (by decide) ?_
                  refine G_iadd (K := mX5_text) dX5_text_142 ?_
                  rw [nI_1]
                  refine G_istore_n (K := mX5_text) (i := 1) dX5_text_143 rfl (by decide) ?_
                  refine G_iincN (K := mX5_text) dX5_text_144 (by decide) rfl ?_
                  refine G_goto (K := mX5_text) (tgt := 118) dX5_text_147 (by decide) ?_
                  refine kh (k + 1) (by omega) (by omega) M7 ?_ (fun c hc => (h7c c hc).trans (h6c c hc))
                  have e : Rz.take (k + 1) = Rz.take k ++ [Rz.getD k dr0] := by
                    rw [List.take_add_one, List.getD_eq_getElem?_getD, List.getElem?_eq_getElem (by omega)]
                    rfl
                  rw [e, apR_snoc, cR_snoc]
                  exact hT7
                · skip
                  exact absurd hz0 c134
            exact loop118 0 (by omega) _ (by rw [List.take_zero, ups_cell (by decide)]; exact hok4.1.1) (fun c hc => rfl)
          · skip
            obtain ⟨b, hb1, hb2, hbad⟩ : ∃ b, txtOf σ = .inl b ∧ tB (σ 42) L r.2.1 = b ∧ M4 0 20 = nI b := by
              have hw : ¬ M4 0 24 = 0 := fun z => c104 (by rw [ups_ne (by omega)]; exact z)
              rcases Bool.eq_false_or_eq_true r.1 with hr | hr
              · rw [show mustF (σ 42) L r (decide (¬ (1 : Int32) = 0)) = (true, tE (σ 42) L r.2.1, r.2.2.1, r.2.2.2) from (if_pos hr).trans (if_pos rfl)] at hXM4
                exact absurd (hXM4.ok rfl).2.2.1 hw
              · rw [mustF_bad hr] at hXM4
                obtain ⟨m, -, hB⟩ := hXM4.bad hr
                rcases hend with ⟨-, h⟩ | ⟨b, h1, h2, -⟩
                · rw [hr] at h; exact absurd h (by decide)
                · exact ⟨b, h1, h2, by rw [← h2]; exact hB.2.2.1⟩
            refine G_iconst (K := mX5_text) (v := -1) dX5_text_107 (by decide) ?_
            refine G_aload_n (K := mX5_text) (i := 0) dX5_text_108 rfl rfl ?_
            refine G_geti (K := mX5_text) fX5_266 dX5_text_109 rfl rfl ?_
            refine G_isub (K := mX5_text) dX5_text_112 ?_
            have hop : opText σ = (-1 - nI b, ups σ 43 0 0) := by unfold opText; rw [hb1]
            rw [ups_ne (by omega), hbad]
            exact G_iret (st := []) (K := mX5_text) dX5_text_113 rfl (hQ _ _ (by rw [hop]; exact ⟨rfl, hXM4.rr.obj (Or.inr ⟨rfl, rfl⟩)⟩))
      · skip
        have hbL : tB (σ 42) L r.2.1 < L := by
          rcases Nat.lt_or_ge (tB (σ 42) L r.2.1) L with q | q
          · exact q
          · have h0 : tS (σ 42) L r.2.1 = 0 := by unfold tS; rw [byt_out q]; decide
            rw [hok.2.2.1.2.2.1, h0] at c50
            exact absurd c50 (by decide)
        have hL2 := hH.1
        refine G_aload_n (K := mX5_text) (i := 0) dX5_text_53 rfl rfl ?_
        refine G_getr (K := mX5_text) fX5_43 dX5_text_54 rfl rfl ?_
        refine G_aload_n (K := mX5_text) (i := 0) dX5_text_57 rfl rfl ?_
        refine G_geti (K := mX5_text) fX5_266 dX5_text_58 rfl rfl ?_
        rw [hok.2.2.1.1]
        refine G_ld (K := mX5_text) (tB (σ 42) L r.2.1) dX5_text_61 rfl rfl (by omega) (by decide) ?_
        rw [hok.1.2.2.2.2.1 _ (by omega), ← byt_in (T := σ 42) (L := L) (k := tB (σ 42) L r.2.1) hbL]
        refine G_bipush (K := mX5_text) (v := 59) dX5_text_62 (by decide) ?_
        refine G_icmp_ne (K := mX5_text) (tgt := 79) dX5_text_64 (by decide) (fun c64 => ?_) (fun c64 => ?_)
        · skip
          refine G_aload_n (K := mX5_text) (i := 0) dX5_text_79 rfl rfl ?_
          refine G_aload_n (K := mX5_text) (i := 0) dX5_text_80 rfl rfl ?_
          refine G_geti (K := mX5_text) fX5_275 dX5_text_81 rfl rfl ?_
          refine G_if_ne (K := mX5_text) (tgt := 91) dX5_text_84 (by decide) (fun c84 => ?_) (fun c84 => ?_)
          · skip
            refine G_iconst (K := mX5_text) (v := 0) dX5_text_91 (by decide) ?_
            have hend : txtOf σ = .inr (it, r.2.2.2) ∧ r.1 = true ∨ ∃ b, txtOf σ = .inl b ∧ tB (σ 42) L r.2.1 = b ∧ (r.1 = true → ¬ M3 0 22 = 0) := by
              rw [← hct]
              unfold contT
              rcases Bool.eq_false_or_eq_true r.1 with hr | hr
              · rw [if_pos hr]
                obtain ⟨-, hok⟩ := hX3.ok hr
                by_cases h0 : tS (σ 42) L r.2.1 = 0
                · rw [if_pos h0]
                  exact Or.inl ⟨rfl, hr⟩
                · rw [if_neg h0, if_neg (show ¬ tS (σ 42) L r.2.1 = 3 from fun z => c64 (srt_59 z))]
                  exact Or.inr ⟨_, rfl, rfl, fun _ z => h0 ((hok.2.2.1.s2 (by decide) (by decide)).mp z)⟩
              · rw [if_neg (by rw [hr]; decide)]
                exact Or.inr ⟨_, rfl, rfl, fun z => by rw [hr] at z; exact absurd z (by decide)⟩
            refine G_call0 (K := mX5_text) (as := [.int 0]) (r := 0) (Q' := fun u Mz => u = none ∧ XS σ L (it) (6 * it) (mustF (σ 42) L r (decide (¬ 0 = 0))) Mz ∧ Mz 0 30 = M3 0 30) (rf_must (M := M3) (z := 0) hL hH hX3 (fun h => absurd rfl h) (fun Mz q1 q2 => ⟨rfl, q1, q2⟩)) vX5_must rfl lX5_292 ⟨_, _, _, rfl, rfl, rfl⟩ (by decide) (Nat.le_of_ble_eq_true rfl) dX5_text_92 rfl ?_
            rintro u M4 ⟨rfl, hXM4, h30M4⟩
            refine G_aload_n (K := mX5_text) (i := 0) dX5_text_95 rfl rfl ?_
            refine G_iconst (K := mX5_text) (v := 0) dX5_text_96 (by decide) ?_
            refine G_puti (K := mX5_text) fX5_260 w5_19 dX5_text_97 rfl rfl ?_
            refine G_aload_n (K := mX5_text) (i := 0) dX5_text_100 rfl rfl ?_
            refine G_geti (K := mX5_text) fX5_285 dX5_text_101 rfl rfl ?_
            refine G_if_eq (K := mX5_text) (tgt := 114) dX5_text_104 (by decide) (fun c104 => ?_) (fun c104 => ?_)
            · skip
              have hw : M4 0 24 = 0 := by rw [ups_ne (by omega)] at c104; exact c104
              obtain ⟨hr, Rz, hRz, hfin⟩ : ∃ _ : r.1 = true, ∃ Rz, Rz = r.2.2.2 ∧ txtOf σ = .inr (it, Rz) := by
                rcases hend with ⟨h1, h2⟩ | ⟨b, h1, h2, h3⟩
                · exact ⟨h2, _, rfl, h1⟩
                · exfalso
                  rcases Bool.eq_false_or_eq_true r.1 with hr | hr
                  · rw [show mustF (σ 42) L r (decide (¬ (0 : Int32) = 0)) = (false, r.2.1, r.2.2.1, r.2.2.2) from (if_pos hr).trans (if_neg (by decide))] at hXM4
                    obtain ⟨m, -, hB⟩ := hXM4.bad rfl
                    rw [hB.2.1] at hw; exact absurd hw (by decide)
                  · rw [mustF_bad hr] at hXM4
                    obtain ⟨m, -, hB⟩ := hXM4.bad hr
                    rw [hB.2.1] at hw; exact absurd hw (by decide)
              obtain ⟨hk28, hok4, hit29⟩ : M4 0 28 = nI Rz.length ∧ OKs σ L r.2.2.1 (tE (σ 42) L r.2.1) Rz M4 ∧ M4 0 29 = nI it := by
                rw [show mustF (σ 42) L r (decide (¬ (0 : Int32) = 0)) = (false, r.2.1, r.2.2.1, r.2.2.2) from (if_pos hr).trans (if_neg (by decide))] at hXM4
                obtain ⟨m, -, hB⟩ := hXM4.bad rfl
                rw [hB.2.1] at hw; exact absurd hw (by decide)
              have hrows := hok4.2.2.2.2.2.2.2
              obtain ⟨hvR, hcR, -⟩ := hgo hr
              rw [← hRz] at hvR hcR
              have hlR : Rz.length ≤ 6 * it := by rw [hRz]; exact (hX3.ok hr).1
              refine G_iconst (K := mX5_text) (v := 0) dX5_text_114 (by decide) ?_
              refine G_istore_n (K := mX5_text) (i := 1) dX5_text_115 rfl (by decide) ?_
              refine G_iconst (K := mX5_text) (v := 0) dX5_text_116 (by decide) ?_
              refine G_istore_n (K := mX5_text) (i := 2) dX5_text_117 rfl (by decide) ?_
              have loop118 : ∀ k, k ≤ Rz.length → ∀ M6 : Mem, HR (toH (M6 1)) (apR σ (Rz.take k)) (cR (nOf σ) (Rz.take k)) → (∀ c, c ≠ 1 → M6 c = ups M4 0 19 0 c) → G mX5_text shR 12 Q 118 [some (.ref 0), some (.int (nI k)), some (.int (nI k))] [] M6 := by
                refine upto Rz.length (fun k hkR kh => ?_)
                intro M6 hT6 h6c
                have h28 : M6 0 28 = nI Rz.length := by rw [h6c 0 (by decide), ups_ne (by omega)]; exact hk28
                refine G_iload_n (K := mX5_text) (i := 2) dX5_text_118 rfl rfl ?_
                refine G_aload_n (K := mX5_text) (i := 0) dX5_text_119 rfl rfl ?_
                refine G_geti (K := mX5_text) fX5_296 dX5_text_120 rfl rfl ?_
                refine G_icmp_ge (K := mX5_text) (tgt := 150) dX5_text_123 (by decide) (fun c123 => ?_) (fun c123 => ?_)
                · skip
                  rw [h28, le_nn (by omega) (by omega)] at c123
                  have hkl : k = Rz.length := by omega
                  refine G_iload_n (K := mX5_text) (i := 1) dX5_text_150 rfl rfl ?_
                  refine G_aload_n (K := mX5_text) (i := 0) dX5_text_151 rfl rfl ?_
                  refine G_geti (K := mX5_text) fX5_296 dX5_text_152 rfl rfl ?_
                  refine G_icmp_ne (K := mX5_text) (tgt := 165) dX5_text_155 (by decide) (fun c155 => ?_) (fun c155 => ?_)
                  · skip
                    exact absurd (by rw [h28, hkl]) c155
                  · skip
                    refine G_aload_n (K := mX5_text) (i := 0) dX5_text_158 rfl rfl ?_
                    refine G_geti (K := mX5_text) fX5_306 dX5_text_159 rfl rfl ?_
                    refine G_goto (K := mX5_text) (tgt := 166) dX5_text_162 (by decide) ?_
                    have hop : opText σ = (nI it, ups (txS σ Rz) 43 0 0) := by unfold opText; rw [hfin]
                    rw [h6c 0 (by decide), ups_ne (by omega), hit29]
                    rw [hkl, List.take_length] at hT6
                    have hHI := hI.1.rows hvR Rz.length (Nat.le_refl _)
                    rw [List.take_length] at hHI
                    have hn6 := nOf_txS (σ := σ) (R := Rz) hHI.1 hHI.n8
                    have hR4 : RR (ups M4 0 19 0) (ups σ 43 0 0) := hXM4.rr.obj (Or.inr ⟨rfl, rfl⟩)
                    exact G_iret (st := []) (K := mX5_text) dX5_text_166 rfl (hQ _ _ (by
                      rw [hop]
                      refine ⟨rfl, hR4.house (fun c hc => ?_) ?_ (fun c hc => h6c c (by unfold solid at hc; omega)) (congrFun (h6c 0 (by decide)) 3) (congrFun (h6c 0 (by decide)) 19)⟩
                      · show ups (txS σ Rz) 43 0 0 c = ups σ 43 0 0 c
                        by_cases h43 : c = 43
                        · subst h43
                          funext i
                          by_cases hi : i = 0
                          · subst hi
                            rw [ups_same, ups_same]
                          · exact (ups_ne (fun z => hi z.2)).trans ((congrFun (if_neg (by omega)) i).trans (ups_ne (fun z => hi z.2)).symm)
                        · exact (ups_cell h43).trans ((if_neg (by omega)).trans (ups_cell h43).symm)
                      · rw [hn6]
                        exact hT6.tr (HR.ofEq (fun j hj => ((ups_cell (by omega)).trans (if_pos hj)).symm) (HR.rf _ _))))
                · skip
                  rw [h28, le_nn (by omega) (by omega)] at c123
                  have c123 : k < Rz.length := by omega
                  refine G_iload_n (K := mX5_text) (i := 1) dX5_text_126 rfl rfl ?_
                  refine G_aload_n (K := mX5_text) (i := 0) dX5_text_127 rfl rfl ?_
                  refine G_iconst (K := mX5_text) (v := 3) dX5_text_128 (by decide) ?_
                  refine G_iload_n (K := mX5_text) (i := 2) dX5_text_129 rfl rfl ?_
                  refine G_imul (K := mX5_text) dX5_text_130 ?_
                  rw [mul3 (by omega)]
                  refine G_call0 (K := mX5_text) (as := [.int (nI (3 * k))]) (r := 0) (Q' := fun u Mz => ∃ z : Int32, u = some (.int z) ∧ 0 ≤ z ∧ HR (toH (Mz 1)) (apRow (apR σ (Rz.take k)) (Rz.getD k dr0)) (nxN (cR (nOf σ) (Rz.take k)) (Rz.getD k dr0)) ∧ ∀ c, c ≠ 1 → Mz c = M6 c) (rf_isSo (M := M6) hT6 (hI.1.rows hvR k (by omega)) (hvR k c123) c123 (by omega) (fun j hj => by rw [h6c 15 (by decide)]; exact hrows j hj) (fun z Mz q1 q2 q3 => ⟨z, rfl, q1, q2, q3⟩)) vX5_isSo rfl lX5_330 ⟨_, _, _, rfl, rfl, rfl⟩ (by decide) (Nat.le_of_ble_eq_true rfl) dX5_text_131 rfl ?_
                  rintro u M7 ⟨z, rfl, hz0, hT7, h7c⟩
                  refine G_if_ge (K := mX5_text) (tgt := 141) dX5_text_134 (by decide) (fun c134 => ?_) (fun c134 => ?_)
                  · skip
                    refine G_iconst (K := mX5_text) (v := 1) dX5_text_141 (by decide) ?_
                    refine G_iadd (K := mX5_text) dX5_text_142 ?_
                    rw [nI_1]
                    refine G_istore_n (K := mX5_text) (i := 1) dX5_text_143 rfl (by decide) ?_
                    refine G_iincN (K := mX5_text) dX5_text_144 (by decide) rfl ?_
                    refine G_goto (K := mX5_text) (tgt := 118) dX5_text_147 (by decide) ?_
                    refine kh (k + 1) (by omega) (by omega) M7 ?_ (fun c hc => (h7c c hc).trans (h6c c hc))
                    have e : Rz.take (k + 1) = Rz.take k ++ [Rz.getD k dr0] := by
                      rw [List.take_add_one, List.getD_eq_getElem?_getD, List.getElem?_eq_getElem (by omega)]
                      rfl
                    rw [e, apR_snoc, cR_snoc]
                    exact hT7
                  · skip
                    exact absurd hz0 c134
              exact loop118 0 (by omega) _ (by rw [List.take_zero, ups_cell (by decide)]; exact hok4.1.1) (fun c hc => rfl)
            · skip
              obtain ⟨b, hb1, hb2, hbad⟩ : ∃ b, txtOf σ = .inl b ∧ tB (σ 42) L r.2.1 = b ∧ M4 0 20 = nI b := by
                have hw : ¬ M4 0 24 = 0 := fun z => c104 (by rw [ups_ne (by omega)]; exact z)
                rcases Bool.eq_false_or_eq_true r.1 with hr | hr
                · rw [show mustF (σ 42) L r (decide (¬ (0 : Int32) = 0)) = (false, r.2.1, r.2.2.1, r.2.2.2) from (if_pos hr).trans (if_neg (by decide))] at hXM4
                  obtain ⟨m, -, hB⟩ := hXM4.bad rfl
                  rcases hend with ⟨h, -⟩ | ⟨b, h1, h2, -⟩
                  · exfalso
                    have h0 : tS (σ 42) L r.2.1 = 0 := by
                      rw [← hct] at h
                      unfold contT at h
                      rw [if_pos hr] at h
                      by_cases h0 : tS (σ 42) L r.2.1 = 0
                      · exact h0
                      · rw [if_neg h0, if_neg (by exact show ¬ tS (σ 42) L r.2.1 = 3 from fun z => c64 (srt_59 z))] at h
                        cases h
                    exact c84 (((hX3.ok hr).2.2.2.1.s2 (s := 0) (by decide) (by decide)).mpr h0)
                  · exact ⟨b, h1, h2, by rw [← h2]; exact hB.2.2.1⟩
                · rw [mustF_bad hr] at hXM4
                  obtain ⟨m, -, hB⟩ := hXM4.bad hr
                  rcases hend with ⟨-, h⟩ | ⟨b, h1, h2, -⟩
                  · rw [hr] at h; exact absurd h (by decide)
                  · exact ⟨b, h1, h2, by rw [← h2]; exact hB.2.2.1⟩
              refine G_iconst (K := mX5_text) (v := -1) dX5_text_107 (by decide) ?_
              refine G_aload_n (K := mX5_text) (i := 0) dX5_text_108 rfl rfl ?_
              refine G_geti (K := mX5_text) fX5_266 dX5_text_109 rfl rfl ?_
              refine G_isub (K := mX5_text) dX5_text_112 ?_
              have hop : opText σ = (-1 - nI b, ups σ 43 0 0) := by unfold opText; rw [hb1]
              rw [ups_ne (by omega), hbad]
              exact G_iret (st := []) (K := mX5_text) dX5_text_113 rfl (hQ _ _ (by rw [hop]; exact ⟨rfl, hXM4.rr.obj (Or.inr ⟨rfl, rfl⟩)⟩))
          · skip
            refine G_iconst (K := mX5_text) (v := 1) dX5_text_87 (by decide) ?_
            refine G_goto (K := mX5_text) (tgt := 92) dX5_text_88 (by decide) ?_
            have hend : txtOf σ = .inr (it, r.2.2.2) ∧ r.1 = true ∨ ∃ b, txtOf σ = .inl b ∧ tB (σ 42) L r.2.1 = b ∧ (r.1 = true → ¬ M3 0 22 = 0) := by
              rw [← hct]
              unfold contT
              rcases Bool.eq_false_or_eq_true r.1 with hr | hr
              · rw [if_pos hr]
                obtain ⟨-, hok⟩ := hX3.ok hr
                by_cases h0 : tS (σ 42) L r.2.1 = 0
                · rw [if_pos h0]
                  exact Or.inl ⟨rfl, hr⟩
                · rw [if_neg h0, if_neg (show ¬ tS (σ 42) L r.2.1 = 3 from fun z => c64 (srt_59 z))]
                  exact Or.inr ⟨_, rfl, rfl, fun _ z => h0 ((hok.2.2.1.s2 (by decide) (by decide)).mp z)⟩
              · rw [if_neg (by rw [hr]; decide)]
                exact Or.inr ⟨_, rfl, rfl, fun z => by rw [hr] at z; exact absurd z (by decide)⟩
            refine G_call0 (K := mX5_text) (as := [.int 1]) (r := 0) (Q' := fun u Mz => u = none ∧ XS σ L (it) (6 * it) (mustF (σ 42) L r (decide (¬ 1 = 0))) Mz ∧ Mz 0 30 = M3 0 30) (rf_must (M := M3) (z := 1) hL hH hX3 (fun _ hr => by rw [((hX3.ok hr).2.2.2.1.s2 (s := 0) (by decide) (by decide)).mp c84]; decide) (fun Mz q1 q2 => ⟨rfl, q1, q2⟩)) vX5_must rfl lX5_292 ⟨_, _, _, rfl, rfl, rfl⟩ (by decide) (Nat.le_of_ble_eq_true rfl) dX5_text_92 rfl ?_
            rintro u M4 ⟨rfl, hXM4, h30M4⟩
            refine G_aload_n (K := mX5_text) (i := 0) dX5_text_95 rfl rfl ?_
            refine G_iconst (K := mX5_text) (v := 0) dX5_text_96 (by decide) ?_
            refine G_puti (K := mX5_text) fX5_260 w5_19 dX5_text_97 rfl rfl ?_
            refine G_aload_n (K := mX5_text) (i := 0) dX5_text_100 rfl rfl ?_
            refine G_geti (K := mX5_text) fX5_285 dX5_text_101 rfl rfl ?_
            refine G_if_eq (K := mX5_text) (tgt := 114) dX5_text_104 (by decide) (fun c104 => ?_) (fun c104 => ?_)
            · skip
              have hw : M4 0 24 = 0 := by rw [ups_ne (by omega)] at c104; exact c104
              obtain ⟨hr, Rz, hRz, hfin⟩ : ∃ _ : r.1 = true, ∃ Rz, Rz = r.2.2.2 ∧ txtOf σ = .inr (it, Rz) := by
                rcases hend with ⟨h1, h2⟩ | ⟨b, h1, h2, h3⟩
                · exact ⟨h2, _, rfl, h1⟩
                · exfalso
                  rcases Bool.eq_false_or_eq_true r.1 with hr | hr
                  · exact h3 hr c84
                  · rw [mustF_bad hr] at hXM4
                    obtain ⟨m, -, hB⟩ := hXM4.bad hr
                    rw [hB.2.1] at hw; exact absurd hw (by decide)
              obtain ⟨hk28, hok4, hit29⟩ : M4 0 28 = nI Rz.length ∧ OKs σ L r.2.2.1 (tE (σ 42) L r.2.1) Rz M4 ∧ M4 0 29 = nI it := by
                rw [show mustF (σ 42) L r (decide (¬ (1 : Int32) = 0)) = (true, tE (σ 42) L r.2.1, r.2.2.1, r.2.2.2) from (if_pos hr).trans (if_pos rfl)] at hXM4
                have h := (hXM4.ok rfl).2
                rw [hRz]
                exact ⟨h.2.2.2.2.2.2.1, h, hXM4.1⟩
              have hrows := hok4.2.2.2.2.2.2.2
              obtain ⟨hvR, hcR, -⟩ := hgo hr
              rw [← hRz] at hvR hcR
              have hlR : Rz.length ≤ 6 * it := by rw [hRz]; exact (hX3.ok hr).1
              refine G_iconst (K := mX5_text) (v := 0) dX5_text_114 (by decide) ?_
              refine G_istore_n (K := mX5_text) (i := 1) dX5_text_115 rfl (by decide) ?_
              refine G_iconst (K := mX5_text) (v := 0) dX5_text_116 (by decide) ?_
              refine G_istore_n (K := mX5_text) (i := 2) dX5_text_117 rfl (by decide) ?_
              have loop118 : ∀ k, k ≤ Rz.length → ∀ M6 : Mem, HR (toH (M6 1)) (apR σ (Rz.take k)) (cR (nOf σ) (Rz.take k)) → (∀ c, c ≠ 1 → M6 c = ups M4 0 19 0 c) → G mX5_text shR 12 Q 118 [some (.ref 0), some (.int (nI k)), some (.int (nI k))] [] M6 := by
                refine upto Rz.length (fun k hkR kh => ?_)
                intro M6 hT6 h6c
                have h28 : M6 0 28 = nI Rz.length := by rw [h6c 0 (by decide), ups_ne (by omega)]; exact hk28
                refine G_iload_n (K := mX5_text) (i := 2) dX5_text_118 rfl rfl ?_
                refine G_aload_n (K := mX5_text) (i := 0) dX5_text_119 rfl rfl ?_
                refine G_geti (K := mX5_text) fX5_296 dX5_text_120 rfl rfl ?_
                refine G_icmp_ge (K := mX5_text) (tgt := 150) dX5_text_123 (by decide) (fun c123 => ?_) (fun c123 => ?_)
                · skip
                  rw [h28, le_nn (by omega) (by omega)] at c123
                  have hkl : k = Rz.length := by omega
                  refine G_iload_n (K := mX5_text) (i := 1) dX5_text_150 rfl rfl ?_
                  refine G_aload_n (K := mX5_text) (i := 0) dX5_text_151 rfl rfl ?_
                  refine G_geti (K := mX5_text) fX5_296 dX5_text_152 rfl rfl ?_
                  refine G_icmp_ne (K := mX5_text) (tgt := 165) dX5_text_155 (by decide) (fun c155 => ?_) (fun c155 => ?_)
                  · skip
                    exact absurd (by rw [h28, hkl]) c155
                  · skip
                    refine G_aload_n (K := mX5_text) (i := 0) dX5_text_158 rfl rfl ?_
                    refine G_geti (K := mX5_text) fX5_306 dX5_text_159 rfl rfl ?_
                    refine G_goto (K := mX5_text) (tgt := 166) dX5_text_162 (by decide) ?_
                    have hop : opText σ = (nI it, ups (txS σ Rz) 43 0 0) := by unfold opText; rw [hfin]
                    rw [h6c 0 (by decide), ups_ne (by omega), hit29]
                    rw [hkl, List.take_length] at hT6
                    have hHI := hI.1.rows hvR Rz.length (Nat.le_refl _)
                    rw [List.take_length] at hHI
                    have hn6 := nOf_txS (σ := σ) (R := Rz) hHI.1 hHI.n8
                    have hR4 : RR (ups M4 0 19 0) (ups σ 43 0 0) := hXM4.rr.obj (Or.inr ⟨rfl, rfl⟩)
                    exact G_iret (st := []) (K := mX5_text) dX5_text_166 rfl (hQ _ _ (by
                      rw [hop]
                      refine ⟨rfl, hR4.house (fun c hc => ?_) ?_ (fun c hc => h6c c (by unfold solid at hc; omega)) (congrFun (h6c 0 (by decide)) 3) (congrFun (h6c 0 (by decide)) 19)⟩
                      · show ups (txS σ Rz) 43 0 0 c = ups σ 43 0 0 c
                        by_cases h43 : c = 43
                        · subst h43
                          funext i
                          by_cases hi : i = 0
                          · subst hi
                            rw [ups_same, ups_same]
                          · exact (ups_ne (fun z => hi z.2)).trans ((congrFun (if_neg (by omega)) i).trans (ups_ne (fun z => hi z.2)).symm)
                        · exact (ups_cell h43).trans ((if_neg (by omega)).trans (ups_cell h43).symm)
                      · rw [hn6]
                        exact hT6.tr (HR.ofEq (fun j hj => ((ups_cell (by omega)).trans (if_pos hj)).symm) (HR.rf _ _))))
                · skip
                  rw [h28, le_nn (by omega) (by omega)] at c123
                  have c123 : k < Rz.length := by omega
                  refine G_iload_n (K := mX5_text) (i := 1) dX5_text_126 rfl rfl ?_
                  refine G_aload_n (K := mX5_text) (i := 0) dX5_text_127 rfl rfl ?_
                  refine G_iconst (K := mX5_text) (v := 3) dX5_text_128 (by decide) ?_
                  refine G_iload_n (K := mX5_text) (i := 2) dX5_text_129 rfl rfl ?_
                  refine G_imul (K := mX5_text) dX5_text_130 ?_
                  rw [mul3 (by omega)]
                  refine G_call0 (K := mX5_text) (as := [.int (nI (3 * k))]) (r := 0) (Q' := fun u Mz => ∃ z : Int32, u = some (.int z) ∧ 0 ≤ z ∧ HR (toH (Mz 1)) (apRow (apR σ (Rz.take k)) (Rz.getD k dr0)) (nxN (cR (nOf σ) (Rz.take k)) (Rz.getD k dr0)) ∧ ∀ c, c ≠ 1 → Mz c = M6 c) (rf_isSo (M := M6) hT6 (hI.1.rows hvR k (by omega)) (hvR k c123) c123 (by omega) (fun j hj => by rw [h6c 15 (by decide)]; exact hrows j hj) (fun z Mz q1 q2 q3 => ⟨z, rfl, q1, q2, q3⟩)) vX5_isSo rfl lX5_330 ⟨_, _, _, rfl, rfl, rfl⟩ (by decide) (Nat.le_of_ble_eq_true rfl) dX5_text_131 rfl ?_
                  rintro u M7 ⟨z, rfl, hz0, hT7, h7c⟩
                  refine G_if_ge (K := mX5_text) (tgt := 141) dX5_text_134 (by decide) (fun c134 => ?_) (fun c134 => ?_)
                  · skip
                    refine G_iconst (K := mX5_text) (v := 1) dX5_text_141 (by decide) ?_
                    refine G_iadd (K := mX5_text) dX5_text_142 ?_
                    rw [nI_1]
                    refine G_istore_n (K := mX5_text) (i := 1) dX5_text_143 rfl (by decide) ?_
                    refine G_iincN (K := mX5_text) dX5_text_144 (by decide) rfl ?_
                    refine G_goto (K := mX5_text) (tgt := 118) dX5_text_147 (by decide) ?_
                    refine kh (k + 1) (by omega) (by omega) M7 ?_ (fun c hc => (h7c c hc).trans (h6c c hc))
                    have e : Rz.take (k + 1) = Rz.take k ++ [Rz.getD k dr0] := by
                      rw [List.take_add_one, List.getD_eq_getElem?_getD, List.getElem?_eq_getElem (by omega)]
                      rfl
                    rw [e, apR_snoc, cR_snoc]
                    exact hT7
                  · skip
                    exact absurd hz0 c134
              exact loop118 0 (by omega) _ (by rw [List.take_zero, ups_cell (by decide)]; exact hok4.1.1) (fun c hc => rfl)
            · skip
              obtain ⟨b, hb1, hb2, hbad⟩ : ∃ b, txtOf σ = .inl b ∧ tB (σ 42) L r.2.1 = b ∧ M4 0 20 = nI b := by
                have hw : ¬ M4 0 24 = 0 := fun z => c104 (by rw [ups_ne (by omega)]; exact z)
                rcases Bool.eq_false_or_eq_true r.1 with hr | hr
                · rw [show mustF (σ 42) L r (decide (¬ (1 : Int32) = 0)) = (true, tE (σ 42) L r.2.1, r.2.2.1, r.2.2.2) from (if_pos hr).trans (if_pos rfl)] at hXM4
                  exact absurd (hXM4.ok rfl).2.2.1 hw
                · rw [mustF_bad hr] at hXM4
                  obtain ⟨m, -, hB⟩ := hXM4.bad hr
                  rcases hend with ⟨-, h⟩ | ⟨b, h1, h2, -⟩
                  · rw [hr] at h; exact absurd h (by decide)
                  · exact ⟨b, h1, h2, by rw [← h2]; exact hB.2.2.1⟩
              refine G_iconst (K := mX5_text) (v := -1) dX5_text_107 (by decide) ?_
              refine G_aload_n (K := mX5_text) (i := 0) dX5_text_108 rfl rfl ?_
              refine G_geti (K := mX5_text) fX5_266 dX5_text_109 rfl rfl ?_
              refine G_isub (K := mX5_text) dX5_text_112 ?_
              have hop : opText σ = (-1 - nI b, ups σ 43 0 0) := by unfold opText; rw [hb1]
              rw [ups_ne (by omega), hbad]
              exact G_iret (st := []) (K := mX5_text) dX5_text_113 rfl (hQ _ _ (by rw [hop]; exact ⟨rfl, hXM4.rr.obj (Or.inr ⟨rfl, rfl⟩)⟩))
        · skip
          refine G_aload_n (K := mX5_text) (i := 0) dX5_text_67 rfl rfl ?_
          refine G_iconst (K := mX5_text) (v := 1) dX5_text_68 (by decide) ?_
          have hz3 : tS (σ 42) L r.2.1 = 3 := srt_60 c64
          refine G_call0 (K := mX5_text) (as := [.int 1]) (r := 0) (Q' := fun u Mz => u = none ∧ XS σ L (it) (6 * it) (mustF (σ 42) L r (decide (¬ 1 = 0))) Mz ∧ Mz 0 30 = M3 0 30) (rf_must (M := M3) (z := 1) hL hH hX3 (fun _ _ => by rw [hz3]; decide) (fun Mz q1 q2 => ⟨rfl, q1, q2⟩)) vX5_must rfl lX5_292 ⟨_, _, _, rfl, rfl, rfl⟩ (by decide) (Nat.le_of_ble_eq_true rfl) dX5_text_69 rfl ?_
          rintro u M4 ⟨rfl, hXM4, h30M4⟩
          rw [show mustF (σ 42) L r (decide (¬ (1 : Int32) = 0)) = (true, tE (σ 42) L r.2.1, r.2.2.1, r.2.2.2) from (if_pos hr1).trans (if_pos rfl)] at hXM4
          obtain ⟨g1, g2, g3⟩ := hgo hr1
          have hgt : r.2.1 < tE (σ 42) L r.2.1 := tE_gt2 hH (by rw [hz3]; decide)
          have hle : tE (σ 42) L r.2.1 ≤ L := tE_le hok.2.2.2.1
          have hit : it ≤ 60 := by omega
          have hcn : pText (σ 42) L (120 - it) (it + 1) r.2.2.1 (tE (σ 42) L r.2.1) r.2.2.2 = txtOf σ := by
            rw [← hct]
            exact ((if_pos hr1).trans ((if_neg (by rw [hz3]; decide)).trans (if_pos hz3))).symm
          have ef : 120 - it = (120 - (it + 1)) + 1 := by omega
          rw [ef, pText_s] at hcn
          refine G_aload_n (K := mX5_text) (i := 0) dX5_text_72 rfl rfl ?_
          refine G_call0 (K := mX5_text) (as := []) (r := 0) (Q' := fun u Mz => u = none ∧ XS σ L (it + 1) (6 * it + 6) (pItem (σ 42) L r.2.2.1 (tE (σ 42) L r.2.1) r.2.2.2) Mz) (rf_readItem hL hH hXM4 (by omega) (fun Mz q => ⟨rfl, q⟩)) vX5_readItem rfl lX5_327 ⟨_, _, _, rfl, rfl, rfl⟩ (by decide) (Nat.le_of_ble_eq_true rfl) dX5_text_73 rfl ?_
          rintro u M5 ⟨rfl, hX5⟩
          refine G_goto (K := mX5_text) (tgt := 38) dX5_text_76 (by decide) ?_
          exact ih (it + 1) (by omega) (by omega) (by omega) M5 _ (hX5.le (by omega)) hcn (fun h => by obtain ⟨a, b, c, d⟩ := pItem_good (n0 := nOf σ) hH hle g1 g2 h; exact ⟨a, b, by omega⟩)
  exact loop38 1 (by omega) (by omega) M2 _ hX2 (by unfold txtOf; rw [hL, cut_nI (by omega)]; rfl) (fun h => by obtain ⟨a, b, c, d⟩ := pItem_good (n0 := nOf σ) (n := nOf σ) (R := []) hH (Nat.zero_le L) (fun k hk => absurd hk (by show ¬ k < 0; omega)) rfl h; exact ⟨a, b, by omega⟩)

