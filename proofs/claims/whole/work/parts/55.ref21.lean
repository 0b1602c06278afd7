theorem turnN_0 {f : Nat → Int32} {q : Nat} : ∀ {v : Nat}, (∀ j, j < v → j = q) → (turnN f q v).2 = -1
  | 0, _ => rfl
  | v + 1, h => by
    have e : turnN f q (v + 1) = turnN f q v := if_pos (h v (by omega))
    rw [e]
    exact turnN_0 (fun j hj => h j (by omega))
theorem nI_eqI {a b : Nat} (ha : a < 2147483648) (hb : b < 2147483648) : nI a = nI b ↔ a = b := by
  refine ⟨fun h => ?_, fun h => by rw [h]⟩
  have h2 := congrArg Int32.toNatClampNeg h
  rw [nI_clamp ha, nI_clamp hb] at h2
  exact h2
theorem missN_nn {t : Nat → Int32} : ∀ n : Nat, n ≤ 8 → (n = 0 ∧ (missN t n).1 = -1) ∨ ∃ j, j < n ∧ (missN t n).1 = nI j
  | 0, _ => Or.inl ⟨rfl, rfl⟩
  | n + 1, hn => by
    refine Or.inr ?_
    have e : missN t (n + 1) = if (missN t n).1 < 0 then (nI n, t n) else if (missN t n).2 < t n then (nI n, t n) else missN t n := rfl
    by_cases h1 : (missN t n).1 < 0
    · exact ⟨n, by omega, by rw [e, if_pos h1]⟩
    · by_cases h2 : (missN t n).2 < t n
      · exact ⟨n, by omega, by rw [e, if_neg h1, if_pos h2]⟩
      · rcases missN_nn n (by omega) with ⟨-, h⟩ | ⟨j, hj, h⟩
        · exact absurd (by rw [h]; decide) h1
        · exact ⟨j, by omega, by rw [e, if_neg h1, if_neg h2, h]⟩
def turnOK (f : Nat → Int32) (q v : Nat) (s t : Int32) : Prop := t = (turnN f q v).2 ∧ ((∀ j, j < v → j = q) ∨ s = (turnN f q v).1)
theorem turn_sk {f : Nat → Int32} {q v : Nat} {s t : Int32} (h : turnOK f q v s t) (hv : v = q) : turnOK f q (v + 1) s t := by
  have e : turnN f q (v + 1) = turnN f q v := if_pos hv
  unfold turnOK
  rw [e]
  exact ⟨h.1, h.2.imp (fun h2 j hj => by by_cases hjv : j = v; exact hjv.trans hv; exact h2 j (by omega)) id⟩
theorem turn_le {f : Nat → Int32} {q v : Nat} {s t : Int32} (h : turnOK f q v s t) (hv : ¬ v = q) (h0 : -1 < f v) (hc : f v ≤ t) : turnOK f q (v + 1) s (maxI t (f v)) := by
  obtain ⟨rfl, h2⟩ := h
  have hn : ¬ (turnN f q v).2 < f v := Int32.not_lt.mpr hc
  have e : turnN f q (v + 1) = turnN f q v := (if_neg hv).trans (if_neg hn)
  refine ⟨by rw [e]; exact if_neg hn, Or.inr ?_⟩
  rw [e]
  rcases h2 with h2 | h2
  · have hz : (turnN f q v).2 = -1 := turnN_0 h2
    rw [hz] at hn
    exact absurd h0 hn
  · exact h2
theorem turn_gt {f : Nat → Int32} {q v : Nat} {s t : Int32} (h : turnOK f q v s t) (hv : ¬ v = q) (hc : ¬ f v ≤ t) : turnOK f q (v + 1) (nI v) (maxI t (f v)) := by
  obtain ⟨rfl, h2⟩ := h
  have hn : (turnN f q v).2 < f v := Int32.not_le.mp hc
  have e : turnN f q (v + 1) = (nI v, f v) := (if_neg hv).trans (if_pos hn)
  exact ⟨by rw [e]; exact if_pos hn, Or.inr (by rw [e])⟩
set_option maxRecDepth 20000 in
theorem rf_missed {M σ : Mem} {a : Int32} (hR : RR M σ) (hI : Inv σ) {Q : Option Value → Mem → Prop} (hQ : ∀ u' M', PostR (opMissed σ a) u' M' → Q u' M') : CT mX5_missed shR 8 [.ref 0, .int a] M Q := by
  refine CT.mk [some (.ref 0), some (.int a), none, none, none, none, none, none] (by decide) (Nat.le_of_ble_eq_true rfl) rfl rfl ?_
  refine G_aload_n (K := mX5_missed) (i := 0) dX5_missed_0 rfl rfl ?_
  refine G_iload_n (K := mX5_missed) (i := 1) dX5_missed_1 rfl rfl ?_
  refine G_bipush (K := mX5_missed) (v := 60) dX5_missed_2 (by decide) ?_
  refine G_cv (K := mX5_missed) (rf_refHours (a := a) (m := 60) hR hI ⟨rfl, rfl⟩) vX5_refusesHours rfl lX5_208 dX5_missed_4 ⟨_, _, _, rfl, rfl, rfl⟩ (by decide) rfl (Nat.le_of_ble_eq_true rfl) ?_
  refine G_istore_n (K := mX5_missed) (i := 2) dX5_missed_7 rfl (by decide) ?_
  refine G_iload_n (K := mX5_missed) (i := 2) dX5_missed_8 rfl rfl ?_
  refine G_if_eq (K := mX5_missed) (tgt := 18) dX5_missed_9 (by decide) (fun c9 => ?_) (fun c9 => ?_)
  · skip
    obtain ⟨k, hk1, hk2, rfl⟩ := refH_nat c9
    have hn8 := hI.n8
    have hk60 : k ≤ 60 := refH_60 (m := 60) hk2 (by omega) c9
    refine G_aload_n (K := mX5_missed) (i := 0) dX5_missed_18 rfl rfl ?_
    refine G_iload_n (K := mX5_missed) (i := 1) dX5_missed_19 rfl rfl ?_
    refine G_call0 (K := mX5_missed) (as := [.int (nI k)]) (r := 0) (Q' := fun u Mz => u = none ∧ toH (Mz 1) = toH (M 1) ∧ toH (Mz 3) = toH (M 1) ∧ (∀ r, r < nOf σ → Mz 10 r = aH σ k 2 r) ∧ ∀ c, c ≠ 1 → c ≠ 3 → c ≠ 7 → c ≠ 9 → c ≠ 10 → Mz c = M c) (c_X5_liveAnyhow (n := nOf σ) (k := k) (hR.n hI) hI.n8 (by omega) (hR.hj hI) (hR.ho hI) (fun Mz h1 h2 h3 h4 h5 => ⟨rfl, h1, h2, fun r hr => by rw [h4 r (by have := hI.n8; omega), h3 r hr]; exact (hoursH_congr hR.1 k).f 2 (by omega) (by omega) hr, h5⟩)) vX5_liveAnyhow rfl lX5_201 ⟨_, _, _, rfl, rfl, rfl⟩ (by decide) (Nat.le_of_ble_eq_true rfl) dX5_missed_20 rfl ?_
    rintro v M2 ⟨rfl, h21, h23, h2A, h2c⟩
    refine G_iconst (K := mX5_missed) (v := -1) dX5_missed_23 (by decide) ?_
    refine G_istore_n (K := mX5_missed) (i := 3) dX5_missed_24 rfl (by decide) ?_
    refine G_iconst (K := mX5_missed) (v := 0) dX5_missed_25 (by decide) ?_
    refine G_istore (K := mX5_missed) dX5_missed_26 (by decide) ?_
    refine G_iconst (K := mX5_missed) (v := 0) dX5_missed_28 (by decide) ?_
    refine G_istore (K := mX5_missed) dX5_missed_29 (by decide) ?_
    have loop31 : ∀ i, i ≤ nOf σ → ∀ (s t : Int32) (M3 : Mem) (x6 x7 : Option Value), toH (M3 1) = toH (M 1) → toH (M3 3) = toH (M 1) → (∀ r, r < nOf σ → M3 10 r = aH σ k 2 r) → (∀ c, c ≠ 1 → c ≠ 3 → c ≠ 7 → c ≠ 9 → c ≠ 10 → M3 c = M c) → (s, t) = missN (tkF σ k) i → G mX5_missed shR 8 Q 31 [some (.ref 0), some (.int (nI k)), some (.int (refH σ (nI k) 60)), some (.int s), some (.int t), some (.int (nI i)), x6, x7] [] M3 := by
      refine upto (nOf σ) (fun i hi ih => ?_)
      intro s t M3 x6 x7 h31 h33 h3A h3c hst
      have hn3 : M3 1 2 = nI (nOf σ) := by rw [← toH_n (M3 1), h31]; exact hR.n hI
      have hR3 : RR M3 σ := hR.scr4 h31 h3c
      refine G_iload (K := mX5_missed) dX5_missed_31 rfl ?_
      refine G_aload_n (K := mX5_missed) (i := 0) dX5_missed_33 rfl rfl ?_
      refine G_getr (K := mX5_missed) fX5_9 dX5_missed_34 rfl rfl ?_
      refine G_iconst (K := mX5_missed) (v := 2) dX5_missed_37 (by decide) ?_
      refine G_ld (K := mX5_missed) 2 dX5_missed_38 rfl rfl (by omega) (by decide) ?_
      refine G_icmp_ge (K := mX5_missed) (tgt := 137) dX5_missed_39 (by decide) (fun c39 => ?_) (fun c39 => ?_)
      · skip
        rw [hn3, le_nn (by have := hI.n8; omega) (by have := hI.n8; omega)] at c39
        have hin : i = nOf σ := by omega
        refine G_iload_n (K := mX5_missed) (i := 3) dX5_missed_137 rfl rfl ?_
        refine G_if_ge (K := mX5_missed) (tgt := 150) dX5_missed_138 (by decide) (fun c138 => ?_) (fun c138 => ?_)
        · skip
          have hn0 : ¬ nOf σ = 0 := fun z => by
            rw [hin, z] at hst
            have e : s = -1 := congrArg Prod.fst hst
            rw [e] at c138
            exact absurd c138 (by decide)
          refine G_iload_n (K := mX5_missed) (i := 3) dX5_missed_150 rfl rfl ?_
          exact G_iret (st := []) (K := mX5_missed) dX5_missed_151 rfl (hQ _ _ (by rw [show opMissed σ (nI k) = if nOf σ = 0 then tl σ 3 else ((missN (tkF σ (cut (nI k))) (nOf σ)).1, σ) from if_pos c9, cut_nI hk2, if_neg hn0, ← hin, ← hst]; exact ⟨rfl, hR3⟩))
        · skip
          have hn0 : nOf σ = 0 := by
            rcases missN_nn (t := tkF σ k) (nOf σ) hI.n8 with ⟨h, -⟩ | ⟨j, hj, h⟩
            · exact h
            · rw [hin] at hst
              have e : s = nI j := (congrArg Prod.fst hst).trans h
              rw [e, i32_le, nI_toI (by have := hI.n8; omega)] at c138
              exact absurd (show (0 : Int) ≤ _ by omega) c138
          refine G_aload_n (K := mX5_missed) (i := 0) dX5_missed_141 rfl rfl ?_
          refine G_ldc (K := mX5_missed) dX5_missed_142 kX5_186 ?_
          refine G_call0 (K := mX5_missed) (Q' := PostR (tl σ 3)) (rf_finding hR3 (k := 3) (by omega) (fun _ _ h => h)) vX5_finding rfl lX5_109 ⟨_, _, _, rfl, rfl, rfl⟩ (by decide) (Nat.le_of_ble_eq_true rfl) dX5_missed_144 rfl ?_
          rintro v M1 ⟨rfl, hR1⟩
          refine G_goto (K := mX5_missed) (tgt := 151) dX5_missed_147 (by decide) ?_
          exact G_iret (st := []) (K := mX5_missed) dX5_missed_151 rfl (hQ _ _ (by rw [show opMissed σ (nI k) = if nOf σ = 0 then tl σ 3 else ((missN (tkF σ (cut (nI k))) (nOf σ)).1, σ) from if_pos c9, cut_nI hk2, if_pos hn0]; exact ⟨rfl, hR1⟩))
      · skip
        rw [hn3, le_nn (by have := hI.n8; omega) (by have := hI.n8; omega)] at c39
        have hn8 := hI.n8
        refine G_aload_n (K := mX5_missed) (i := 0) dX5_missed_42 rfl rfl ?_
        refine G_getr (K := mX5_missed) fX5_9 dX5_missed_43 rfl rfl ?_
        refine G_iload (K := mX5_missed) dX5_missed_46 rfl ?_
        refine G_iconst (K := mX5_missed) (v := 5) dX5_missed_48 (by decide) ?_
        refine G_sv (K := mX5_missed) (c_X5_at (i := i) (f := 5) (by omega) (by omega) ⟨rfl, rfl⟩) sX5_at rfl lX5_101 dX5_missed_49 (by decide) rfl (Nat.le_of_ble_eq_true rfl) ?_
        refine G_iconst (K := mX5_missed) (v := 1) dX5_missed_52 (by decide) ?_
        refine G_sto (K := mX5_missed) (14 + 9 * i + 5) dX5_missed_53 rfl rfl (by omega) (by decide) ?_
        refine G_aload_n (K := mX5_missed) (i := 0) dX5_missed_54 rfl rfl ?_
        refine G_iload_n (K := mX5_missed) (i := 1) dX5_missed_55 rfl rfl ?_
        have hn8 := hI.n8
        have eT : toH ((ups M3 1 (14 + 9 * i + 5) 1) 1) = ups (toH (M 1)) (1 + 5) i 1 := by rw [toH_ups (by omega) (by omega), h31]
        have hnW : (ups M3 1 (14 + 9 * i + 5) 1) 1 2 = nI (nOf σ) := by rw [ups_ne (by omega), ← toH_n (M3 1), h31]; exact hR.n hI
        have hJW : HJ (toH ((ups M3 1 (14 + 9 * i + 5) 1) 1)) (nOf σ) := by rw [eT]; exact (hR.hj hI).up (by omega) (by omega) (by omega) (by omega) (by omega) (by omega)
        have hoW : 0 ≤ (toH ((ups M3 1 (14 + 9 * i + 5) 1) 1) 0 1).toInt := by rw [eT, ups_cell (by omega)]; exact hR.ho hI
        refine G_call0 (K := mX5_missed) (as := [.int (nI k)]) (r := 0) (Q' := fun u Mz => u = none ∧ toH (Mz 1) = toH ((ups M3 1 (14 + 9 * i + 5) 1) 3) ∧ (∀ r, r < nOf σ → Mz 9 r = hoursH (nOf σ) k (toH ((ups M3 1 (14 + 9 * i + 5) 1) 1)) 2 r) ∧ ∀ c, c ≠ 1 → c ≠ 7 → c ≠ 9 → Mz c = (ups M3 1 (14 + 9 * i + 5) 1) c) (c_X5_live (M := (ups M3 1 (14 + 9 * i + 5) 1)) (n := nOf σ) (k := k) hnW hI.n8 (by omega) hJW hoW (fun Mz h1 h2 h3 => ⟨rfl, h1, h2, h3⟩)) vX5_live rfl lX5_194 ⟨_, _, _, rfl, rfl, rfl⟩ (by decide) (Nat.le_of_ble_eq_true rfl) dX5_missed_56 rfl ?_
        rintro z M4 ⟨rfl, h41, h42, h43⟩
        rw [ups_cell (by decide), h33] at h41
        have f9 : ∀ r, r < nOf σ → M4 9 r = wH σ k 5 i 1 2 r := fun r hr => by rw [h42 r hr, eT]; exact hR.wH (by omega) hr
        have h44 : toH (M4 3) = toH (M 1) := by rw [h43 3 (by decide) (by decide) (by decide), ups_cell (by decide)]; exact h33
        have h4A : M4 10 = M3 10 := by rw [h43 10 (by decide) (by decide) (by decide), ups_cell (by decide)]
        have h4c : ∀ c, c ≠ 1 → c ≠ 3 → c ≠ 7 → c ≠ 9 → c ≠ 10 → M4 c = M c := fun c a b d e f => by rw [h43 c a d e, ups_cell a]; exact h3c c a b d e f
        have hn4 : M4 1 2 = nI (nOf σ) := by rw [← toH_n (M4 1), h41]; exact hR.n hI
        have hR4 : RR M4 σ := hR.scr4 h41 h4c
        refine G_iconst (K := mX5_missed) (v := 0) dX5_missed_59 (by decide) ?_
        refine G_istore (K := mX5_missed) dX5_missed_60 (by decide) ?_
        refine G_iconst (K := mX5_missed) (v := 0) dX5_missed_62 (by decide) ?_
        refine G_istore (K := mX5_missed) dX5_missed_63 (by decide) ?_
        have loop65 : ∀ y, y ≤ nOf σ → ∀ lo : Int32, lo = sumN (fun o => if o = i then 0 else aH σ k 2 o - wH σ k 5 i 1 2 o) y → G mX5_missed shR 8 Q 65 [some (.ref 0), some (.int (nI k)), some (.int (refH σ (nI k) 60)), some (.int s), some (.int t), some (.int (nI i)), some (.int lo), some (.int (nI y))] [] M4 := by
          refine upto (nOf σ) (fun y hy yh => ?_)
          intro lo hlo
          refine G_iload (K := mX5_missed) dX5_missed_65 rfl ?_
          refine G_aload_n (K := mX5_missed) (i := 0) dX5_missed_67 rfl rfl ?_
          refine G_getr (K := mX5_missed) fX5_9 dX5_missed_68 rfl rfl ?_
          refine G_iconst (K := mX5_missed) (v := 2) dX5_missed_71 (by decide) ?_
          refine G_ld (K := mX5_missed) 2 dX5_missed_72 rfl rfl (by omega) (by decide) ?_
          refine G_icmp_ge (K := mX5_missed) (tgt := 113) dX5_missed_73 (by decide) (fun c73 => ?_) (fun c73 => ?_)
          · skip
            rw [hn4, le_nn (by have := hI.n8; omega) (by have := hI.n8; omega)] at c73
            have hyn : y = nOf σ := by omega
            refine G_iload_n (K := mX5_missed) (i := 3) dX5_missed_113 rfl rfl ?_
            refine G_if_lt (K := mX5_missed) (tgt := 124) dX5_missed_114 (by decide) (fun c114 => ?_) (fun c114 => ?_)
            · skip
              refine G_iload (K := mX5_missed) dX5_missed_124 rfl ?_
              refine G_istore_n (K := mX5_missed) (i := 3) dX5_missed_126 rfl (by decide) ?_
              refine G_iload (K := mX5_missed) dX5_missed_127 rfl ?_
              refine G_istore (K := mX5_missed) dX5_missed_129 (by decide) ?_
              refine G_iincN (K := mX5_missed) dX5_missed_131 (by decide) rfl ?_
              refine G_goto (K := mX5_missed) (tgt := 31) dX5_missed_134 (by decide) ?_
              have et : lo = tkF σ k i := by rw [hlo, hyn]; rfl
              have e1 : (missN (tkF σ k) i).1 = s := (congrArg Prod.fst hst).symm
              have e2 : (missN (tkF σ k) i).2 = t := (congrArg Prod.snd hst).symm
              refine ih (i + 1) (by omega) (by omega) _ _ M4 _ _ h41 h44 (by rw [h4A]; exact h3A) h4c ?_
              show _ = (if (missN (tkF σ k) i).1 < 0 then (nI i, tkF σ k i) else if (missN (tkF σ k) i).2 < tkF σ k i then (nI i, tkF σ k i) else missN (tkF σ k) i)
              rw [e1, e2, ← et]
              exact (if_pos c114).symm
            · skip
              refine G_iload (K := mX5_missed) dX5_missed_117 rfl ?_
              refine G_iload (K := mX5_missed) dX5_missed_119 rfl ?_
              refine G_icmp_le (K := mX5_missed) (tgt := 131) dX5_missed_121 (by decide) (fun c121 => ?_) (fun c121 => ?_)
              · skip
                refine G_iincN (K := mX5_missed) dX5_missed_131 (by decide) rfl ?_
                refine G_goto (K := mX5_missed) (tgt := 31) dX5_missed_134 (by decide) ?_
                have et : lo = tkF σ k i := by rw [hlo, hyn]; rfl
                have e1 : (missN (tkF σ k) i).1 = s := (congrArg Prod.fst hst).symm
                have e2 : (missN (tkF σ k) i).2 = t := (congrArg Prod.snd hst).symm
                refine ih (i + 1) (by omega) (by omega) _ _ M4 _ _ h41 h44 (by rw [h4A]; exact h3A) h4c ?_
                show _ = (if (missN (tkF σ k) i).1 < 0 then (nI i, tkF σ k i) else if (missN (tkF σ k) i).2 < tkF σ k i then (nI i, tkF σ k i) else missN (tkF σ k) i)
                rw [e1, e2, ← et]
                rw [if_neg c114, if_neg (Int32.not_lt.mpr c121)]; exact hst
              · skip
                refine G_iload (K := mX5_missed) dX5_missed_124 rfl ?_
                refine G_istore_n (K := mX5_missed) (i := 3) dX5_missed_126 rfl (by decide) ?_
                refine G_iload (K := mX5_missed) dX5_missed_127 rfl ?_
                refine G_istore (K := mX5_missed) dX5_missed_129 (by decide) ?_
                refine G_iincN (K := mX5_missed) dX5_missed_131 (by decide) rfl ?_
                refine G_goto (K := mX5_missed) (tgt := 31) dX5_missed_134 (by decide) ?_
                have et : lo = tkF σ k i := by rw [hlo, hyn]; rfl
                have e1 : (missN (tkF σ k) i).1 = s := (congrArg Prod.fst hst).symm
                have e2 : (missN (tkF σ k) i).2 = t := (congrArg Prod.snd hst).symm
                refine ih (i + 1) (by omega) (by omega) _ _ M4 _ _ h41 h44 (by rw [h4A]; exact h3A) h4c ?_
                show _ = (if (missN (tkF σ k) i).1 < 0 then (nI i, tkF σ k i) else if (missN (tkF σ k) i).2 < tkF σ k i then (nI i, tkF σ k i) else missN (tkF σ k) i)
                rw [e1, e2, ← et]
                rw [if_neg c114, if_pos (Int32.not_le.mp c121)]
          · skip
            rw [hn4, le_nn (by have := hI.n8; omega) (by have := hI.n8; omega)] at c73
            have hn8 := hI.n8
            refine G_iload (K := mX5_missed) dX5_missed_76 rfl ?_
            refine G_iload (K := mX5_missed) dX5_missed_78 rfl ?_
            refine G_iload (K := mX5_missed) dX5_missed_80 rfl ?_
            refine G_icmp_ne (K := mX5_missed) (tgt := 89) dX5_missed_82 (by decide) (fun c82 => ?_) (fun c82 => ?_)
            · skip
              have hyi : ¬ y = i := fun z => c82 (by rw [z])
              refine G_aload_n (K := mX5_missed) (i := 0) dX5_missed_89 rfl rfl ?_
              refine G_getr (K := mX5_missed) fX5_37 dX5_missed_90 rfl rfl ?_
              refine G_iload (K := mX5_missed) dX5_missed_93 rfl ?_
              refine G_ld (K := mX5_missed) y dX5_missed_95 rfl rfl (by omega) (by decide) ?_
              refine G_aload_n (K := mX5_missed) (i := 0) dX5_missed_96 rfl rfl ?_
              refine G_getr (K := mX5_missed) fX5_34 dX5_missed_97 rfl rfl ?_
              refine G_iload (K := mX5_missed) dX5_missed_100 rfl ?_
              refine G_ld (K := mX5_missed) y dX5_missed_102 rfl rfl (by omega) (by decide) ?_
              rw [f9 y (by omega), h4A, h3A y (by omega)]
              refine G_isub (K := mX5_missed) dX5_missed_103 ?_
              refine G_iadd (K := mX5_missed) dX5_missed_104 ?_
              refine G_istore (K := mX5_missed) dX5_missed_105 (by decide) ?_
              refine G_iincN (K := mX5_missed) dX5_missed_107 (by decide) rfl ?_
              refine G_goto (K := mX5_missed) (tgt := 65) dX5_missed_110 (by decide) ?_
              refine yh (y + 1) (by omega) (by omega) _ ?_
              rw [hlo]
              show _ = sumN _ y + (if y = i then 0 else aH σ k 2 y - wH σ k 5 i 1 2 y)
              rw [if_neg hyi]
            · skip
              have hyi : y = i := (nI_eqI (by omega) (by omega)).mp c82
              refine G_iconst (K := mX5_missed) (v := 0) dX5_missed_85 (by decide) ?_
              refine G_goto (K := mX5_missed) (tgt := 104) dX5_missed_86 (by decide) ?_
              refine G_iadd (K := mX5_missed) dX5_missed_104 ?_
              refine G_istore (K := mX5_missed) dX5_missed_105 (by decide) ?_
              refine G_iincN (K := mX5_missed) dX5_missed_107 (by decide) rfl ?_
              refine G_goto (K := mX5_missed) (tgt := 65) dX5_missed_110 (by decide) ?_
              refine yh (y + 1) (by omega) (by omega) _ ?_
              rw [hlo]
              show _ = sumN _ y + (if y = i then 0 else aH σ k 2 y - wH σ k 5 i 1 2 y)
              rw [if_pos hyi]
        exact loop65 0 (by omega) _ rfl
    exact loop31 0 (by omega) _ _ M2 _ _ h21 h23 h2A h2c rfl
  · skip
    refine G_aload_n (K := mX5_missed) (i := 0) dX5_missed_12 rfl rfl ?_
    refine G_iload_n (K := mX5_missed) (i := 2) dX5_missed_13 rfl rfl ?_
    obtain ⟨q, hq, eq⟩ := refH_fin c9
    rw [eq]
    refine G_call0 (K := mX5_missed) (Q' := PostR (tl σ q)) (rf_finding hR (k := q) (by omega) (fun _ _ h => h)) vX5_finding rfl lX5_109 ⟨_, _, _, rfl, rfl, rfl⟩ (by decide) (Nat.le_of_ble_eq_true rfl) dX5_missed_14 rfl ?_
    rintro v M1 ⟨rfl, hR1⟩
    exact G_iret (st := []) (K := mX5_missed) dX5_missed_17 rfl (hQ _ _ (by rw [show opMissed σ a = _ from (by unfold opMissed; exact (if_neg c9).trans ((congrArg (tlI σ) eq).trans (tlI_fin hq)))]; exact ⟨rfl, hR1⟩))

theorem leastN_m1 {w : Nat → Int32} {n : Nat} (hw : ∀ i, i < n → rg (w i) 0 300) (hn : n ≤ 8) : -1 < leastN w n := by
  unfold leastN
  by_cases h : coldN w n < 0
  · rw [if_pos h]; decide
  · rw [if_neg h]
    rcases coldN_pos w n (by omega) with ⟨-, e⟩ | ⟨j, hj, e⟩
    · rw [e] at h; exact absurd (by decide) h
    · rw [e, nI_clamp (by omega), i32_lt]
      have := hw j hj
      unfold rg at this
      show (-1 : Int) < _
      omega
set_option maxRecDepth 20000 in
theorem rf_turn {M σ : Mem} {r a : Int32} (hR : RR M σ) (hI : Inv σ) {Q : Option Value → Mem → Prop} (hQ : ∀ u' M', PostR (opTurn σ r a) u' M' → Q u' M') : CT mX5_turn shR 8 [.ref 0, .int r, .int a] M Q := by
  refine CT.mk [some (.ref 0), some (.int r), some (.int a), none, none, none, none] (by decide) (Nat.le_of_ble_eq_true rfl) rfl rfl ?_
  refine G_aload_n (K := mX5_turn) (i := 0) dX5_turn_0 rfl rfl ?_
  refine G_iload_n (K := mX5_turn) (i := 1) dX5_turn_1 rfl rfl ?_
  refine G_iload_n (K := mX5_turn) (i := 2) dX5_turn_2 rfl rfl ?_
  refine G_cv (K := mX5_turn) (rf_refuses (r := r) (a := a) hR hI ⟨rfl, rfl⟩) vX5_refuses rfl lX5_198 dX5_turn_3 ⟨_, _, _, rfl, rfl, rfl⟩ (by decide) rfl (Nat.le_of_ble_eq_true rfl) ?_
  refine G_istore_n (K := mX5_turn) (i := 3) dX5_turn_6 rfl (by decide) ?_
  refine G_iload_n (K := mX5_turn) (i := 3) dX5_turn_7 rfl rfl ?_
  refine G_if_ne (K := mX5_turn) (tgt := 24) dX5_turn_8 (by decide) (fun c8 => ?_) (fun c8 => ?_)
  · skip
    refine G_iload_n (K := mX5_turn) (i := 3) dX5_turn_24 rfl rfl ?_
    refine G_if_eq (K := mX5_turn) (tgt := 34) dX5_turn_25 (by decide) (fun c25 => ?_) (fun c25 => ?_)
    · skip
      exact absurd c25 c8
    · skip
      refine G_aload_n (K := mX5_turn) (i := 0) dX5_turn_28 rfl rfl ?_
      refine G_iload_n (K := mX5_turn) (i := 3) dX5_turn_29 rfl rfl ?_
      obtain ⟨q, hq, eq⟩ := refR_fin c8
      rw [eq]
      refine G_call0 (K := mX5_turn) (Q' := PostR (tl σ q)) (rf_finding hR (k := q) (by omega) (fun _ _ h => h)) vX5_finding rfl lX5_109 ⟨_, _, _, rfl, rfl, rfl⟩ (by decide) (Nat.le_of_ble_eq_true rfl) dX5_turn_30 rfl ?_
      rintro v M1 ⟨rfl, hR1⟩
      exact G_iret (st := []) (K := mX5_turn) dX5_turn_33 rfl (hQ _ _ (by rw [show opTurn σ r a = _ from (by unfold opTurn; exact (if_neg c8).trans ((congrArg (tlI σ) eq).trans (tlI_fin hq)))]; exact ⟨rfl, hR1⟩))
  · skip
    obtain ⟨q, k, hq, rfl, hk1, hk2, rfl, hH⟩ := refR_0 hI c8
    have hn8 := hI.n8
    have hk60 : k ≤ 60 := refH_60 (m := 60) hk2 (by omega) hH
    refine G_aload_n (K := mX5_turn) (i := 0) dX5_turn_11 rfl rfl ?_
    refine G_getr (K := mX5_turn) fX5_9 dX5_turn_12 rfl rfl ?_
    refine G_iconst (K := mX5_turn) (v := 2) dX5_turn_15 (by decide) ?_
    refine G_ld (K := mX5_turn) 2 dX5_turn_16 rfl rfl (by omega) (by decide) ?_
    rw [hR.n hI]
    refine G_iconst (K := mX5_turn) (v := 1) dX5_turn_17 (by decide) ?_
    refine G_icmp_ne (K := mX5_turn) (tgt := 24) dX5_turn_18 (by decide) (fun c18 => ?_) (fun c18 => ?_)
    · skip
      have hn1 : ¬ nOf σ = 1 := fun z => c18 (by rw [z]; rfl)
      refine G_iload_n (K := mX5_turn) (i := 3) dX5_turn_24 rfl rfl ?_
      refine G_if_eq (K := mX5_turn) (tgt := 34) dX5_turn_25 (by decide) (fun c25 => ?_) (fun c25 => ?_)
      · skip
        refine G_aload_n (K := mX5_turn) (i := 0) dX5_turn_34 rfl rfl ?_
        refine G_getr (K := mX5_turn) fX5_9 dX5_turn_35 rfl rfl ?_
        refine G_aload_n (K := mX5_turn) (i := 0) dX5_turn_38 rfl rfl ?_
        refine G_getr (K := mX5_turn) fX5_16 dX5_turn_39 rfl rfl ?_
        refine G_sn (K := mX5_turn) (c_X5_copyRow (a := 1) (b := 3) rfl rfl (by decide) ⟨rfl, rfl⟩) sX5_copyRow rfl lX5_93 dX5_turn_42 (by decide) rfl (Nat.le_of_ble_eq_true rfl) ?_
        refine G_iconst (K := mX5_turn) (v := -1) dX5_turn_45 (by decide) ?_
        refine G_istore (K := mX5_turn) dX5_turn_46 (by decide) ?_
        refine G_iconst (K := mX5_turn) (v := -1) dX5_turn_48 (by decide) ?_
        refine G_istore (K := mX5_turn) dX5_turn_49 (by decide) ?_
        refine G_iconst (K := mX5_turn) (v := 0) dX5_turn_51 (by decide) ?_
        refine G_istore (K := mX5_turn) dX5_turn_52 (by decide) ?_
        have loop54 : ∀ i, i ≤ nOf σ → ∀ (s t : Int32) (M3 : Mem), toH (M3 1) = toH (M 1) → toH (M3 3) = toH (M 1) → (∀ c, c ≠ 1 → c ≠ 3 → c ≠ 7 → c ≠ 9 → c ≠ 10 → M3 c = M c) → turnOK (turnF σ k q) q i s t → G mX5_turn shR 8 Q 54 [some (.ref 0), some (.int (nI q)), some (.int (nI k)), some (.int (refR σ (nI q) (nI k))), some (.int s), some (.int t), some (.int (nI i))] [] M3 := by
          refine upto (nOf σ) (fun i hi ih => ?_)
          intro s t M3 h31 h33 h3c hst
          have hn3 : M3 1 2 = nI (nOf σ) := by rw [← toH_n (M3 1), h31]; exact hR.n hI
          have hR3 : RR M3 σ := hR.scr4 h31 h3c
          refine G_iload (K := mX5_turn) dX5_turn_54 rfl ?_
          refine G_aload_n (K := mX5_turn) (i := 0) dX5_turn_56 rfl rfl ?_
          refine G_getr (K := mX5_turn) fX5_9 dX5_turn_57 rfl rfl ?_
          refine G_iconst (K := mX5_turn) (v := 2) dX5_turn_60 (by decide) ?_
          refine G_ld (K := mX5_turn) 2 dX5_turn_61 rfl rfl (by omega) (by decide) ?_
          refine G_icmp_ge (K := mX5_turn) (tgt := 123) dX5_turn_62 (by decide) (fun c62 => ?_) (fun c62 => ?_)
          · skip
            rw [hn3, le_nn (by have := hI.n8; omega) (by have := hI.n8; omega)] at c62
            have hin : i = nOf σ := by omega
            refine G_iload (K := mX5_turn) dX5_turn_123 rfl ?_
            have hs : s = (turnN (turnF σ k q) q (nOf σ)).1 := by
              rw [hin] at hst
              rcases hst.2 with h | h
              · have h0 := h 0 (by omega)
                have h1 := h 1 (by omega)
                omega
              · exact h
            exact G_iret (st := []) (K := mX5_turn) dX5_turn_125 rfl (hQ _ _ (by rw [show opTurn σ (nI q) (nI k) = ((turnN (turnF σ (cut (nI k)) (cut (nI q))) (cut (nI q)) (nOf σ)).1, σ) from (if_pos c8).trans (if_neg hn1), cut_nI hk2, cut_nI (k := q) (by omega), ← hs]; exact ⟨rfl, hR3⟩))
          · skip
            rw [hn3, le_nn (by have := hI.n8; omega) (by have := hI.n8; omega)] at c62
            have hn8 := hI.n8
            refine G_iload (K := mX5_turn) dX5_turn_65 rfl ?_
            refine G_iload_n (K := mX5_turn) (i := 1) dX5_turn_67 rfl rfl ?_
            refine G_icmp_eq (K := mX5_turn) (tgt := 117) dX5_turn_68 (by decide) (fun c68 => ?_) (fun c68 => ?_)
            · skip
              have hiq : i = q := (nI_eqI (by omega) (by omega)).mp c68
              refine G_iincN (K := mX5_turn) dX5_turn_117 (by decide) rfl ?_
              refine G_goto (K := mX5_turn) (tgt := 54) dX5_turn_120 (by decide) ?_
              exact ih (i + 1) (by omega) (by omega) _ _ M3 h31 h33 h3c (turn_sk hst hiq)
            · skip
              have hiq : ¬ i = q := fun z => c68 (by rw [z])
              refine G_aload_n (K := mX5_turn) (i := 0) dX5_turn_71 rfl rfl ?_
              refine G_getr (K := mX5_turn) fX5_9 dX5_turn_72 rfl rfl ?_
              refine G_iload_n (K := mX5_turn) (i := 1) dX5_turn_75 rfl rfl ?_
              refine G_iconst (K := mX5_turn) (v := 4) dX5_turn_76 (by decide) ?_
              refine G_sv (K := mX5_turn) (c_X5_at (i := q) (f := 4) (by omega) (by omega) ⟨rfl, rfl⟩) sX5_at rfl lX5_101 dX5_turn_77 (by decide) rfl (Nat.le_of_ble_eq_true rfl) ?_
              refine G_iload (K := mX5_turn) dX5_turn_80 rfl ?_
              refine G_sto (K := mX5_turn) (14 + 9 * q + 4) dX5_turn_82 rfl rfl (by omega) (by decide) ?_
              refine G_aload_n (K := mX5_turn) (i := 0) dX5_turn_83 rfl rfl ?_
              refine G_iload_n (K := mX5_turn) (i := 2) dX5_turn_84 rfl rfl ?_
              have hn8 := hI.n8
              have eT : toH ((ups M3 1 (14 + 9 * q + 4) (nI i)) 1) = ups (toH (M 1)) (1 + 4) q (nI i) := by rw [toH_ups (by omega) (by omega), h31]
              have hnW : (ups M3 1 (14 + 9 * q + 4) (nI i)) 1 2 = nI (nOf σ) := by rw [ups_ne (by omega), ← toH_n (M3 1), h31]; exact hR.n hI
              have hJW : HJ (toH ((ups M3 1 (14 + 9 * q + 4) (nI i)) 1)) (nOf σ) := by rw [eT]; exact (hR.hj hI).up (by omega) (by omega) (by omega) (by omega) (by omega) (by omega)
              have hoW : 0 ≤ (toH ((ups M3 1 (14 + 9 * q + 4) (nI i)) 1) 0 1).toInt := by rw [eT, ups_cell (by omega)]; exact hR.ho hI
              refine G_call0 (K := mX5_turn) (as := [.int (nI k)]) (r := 0) (Q' := fun u Mz => u = none ∧ toH (Mz 1) = toH ((ups M3 1 (14 + 9 * q + 4) (nI i)) 3) ∧ (∀ r, r < nOf σ → Mz 9 r = hoursH (nOf σ) k (toH ((ups M3 1 (14 + 9 * q + 4) (nI i)) 1)) 2 r) ∧ ∀ c, c ≠ 1 → c ≠ 7 → c ≠ 9 → Mz c = (ups M3 1 (14 + 9 * q + 4) (nI i)) c) (c_X5_live (M := (ups M3 1 (14 + 9 * q + 4) (nI i))) (n := nOf σ) (k := k) hnW hI.n8 (by omega) hJW hoW (fun Mz h1 h2 h3 => ⟨rfl, h1, h2, h3⟩)) vX5_live rfl lX5_194 ⟨_, _, _, rfl, rfl, rfl⟩ (by decide) (Nat.le_of_ble_eq_true rfl) dX5_turn_85 rfl ?_
              rintro z M4 ⟨rfl, h41, h42, h43⟩
              rw [ups_cell (by decide), h33] at h41
              have f9 : ∀ r, r < nOf σ → M4 9 r = wH σ k 4 q (nI i) 2 r := fun r hr => by rw [h42 r hr, eT]; exact hR.wH (by omega) hr
              have h44 : toH (M4 3) = toH (M 1) := by rw [h43 3 (by decide) (by decide) (by decide), ups_cell (by decide)]; exact h33
              have h4c : ∀ c, c ≠ 1 → c ≠ 3 → c ≠ 7 → c ≠ 9 → c ≠ 10 → M4 c = M c := fun c a b d e f => by rw [h43 c a d e, ups_cell a]; exact h3c c a b d e f
              have hn4 : M4 1 2 = nI (nOf σ) := by rw [← toH_n (M4 1), h41]; exact hR.n hI
              have hR4 : RR M4 σ := hR.scr4 h41 h4c
              have h4l : mnT (M4 9) (nOf σ) = turnF σ k q i := by
                rw [mnT_least (fun x hx => by rw [h42 x hx]; exact (hJW.hours hn8 hoW k x hx).1) hn8]
                exact leastN_congr (by omega) f9
              have h40 : -1 < turnF σ k q i := by
                rw [← h4l, mnT_least (fun x hx => by rw [h42 x hx]; exact (hJW.hours hn8 hoW k x hx).1) hn8]
                exact leastN_m1 (fun x hx => by rw [h42 x hx]; exact (hJW.hours hn8 hoW k x hx).1) hn8
              refine G_aload_n (K := mX5_turn) (i := 0) dX5_turn_88 rfl rfl ?_
              refine G_cv (K := mX5_turn) (c_X5_leastThen (n := nOf σ) hn4 hn8 ⟨rfl, rfl⟩) vX5_leastThen rfl lX5_215 dX5_turn_89 ⟨_, _, _, rfl, rfl, rfl⟩ (by decide) rfl (Nat.le_of_ble_eq_true rfl) ?_
              rw [h4l]
              refine G_iload (K := mX5_turn) dX5_turn_92 rfl ?_
              refine G_icmp_le (K := mX5_turn) (tgt := 102) dX5_turn_94 (by decide) (fun c94 => ?_) (fun c94 => ?_)
              · skip
                refine G_iload (K := mX5_turn) dX5_turn_102 rfl ?_
                refine G_istore (K := mX5_turn) dX5_turn_104 (by decide) ?_
                refine G_iload (K := mX5_turn) dX5_turn_106 rfl ?_
                refine G_aload_n (K := mX5_turn) (i := 0) dX5_turn_108 rfl rfl ?_
                refine G_cv (K := mX5_turn) (c_X5_leastThen (n := nOf σ) hn4 hn8 ⟨rfl, rfl⟩) vX5_leastThen rfl lX5_215 dX5_turn_109 ⟨_, _, _, rfl, rfl, rfl⟩ (by decide) rfl (Nat.le_of_ble_eq_true rfl) ?_
                rw [h4l]
                refine G_max (K := mX5_turn) qX5_153 dX5_turn_112 (by decide) (Nat.le_of_ble_eq_true rfl) ?_
                refine G_istore (K := mX5_turn) dX5_turn_115 (by decide) ?_
                refine G_iincN (K := mX5_turn) dX5_turn_117 (by decide) rfl ?_
                refine G_goto (K := mX5_turn) (tgt := 54) dX5_turn_120 (by decide) ?_
                exact ih (i + 1) (by omega) (by omega) _ _ M4 h41 h44 h4c (turn_le hst hiq h40 c94)
              · skip
                refine G_iload (K := mX5_turn) dX5_turn_97 rfl ?_
                refine G_goto (K := mX5_turn) (tgt := 104) dX5_turn_99 (by decide) ?_
                refine G_istore (K := mX5_turn) dX5_turn_104 (by decide) ?_
                refine G_iload (K := mX5_turn) dX5_turn_106 rfl ?_
                refine G_aload_n (K := mX5_turn) (i := 0) dX5_turn_108 rfl rfl ?_
                refine G_cv (K := mX5_turn) (c_X5_leastThen (n := nOf σ) hn4 hn8 ⟨rfl, rfl⟩) vX5_leastThen rfl lX5_215 dX5_turn_109 ⟨_, _, _, rfl, rfl, rfl⟩ (by decide) rfl (Nat.le_of_ble_eq_true rfl) ?_
                rw [h4l]
                refine G_max (K := mX5_turn) qX5_153 dX5_turn_112 (by decide) (Nat.le_of_ble_eq_true rfl) ?_
                refine G_istore (K := mX5_turn) dX5_turn_115 (by decide) ?_
                refine G_iincN (K := mX5_turn) dX5_turn_117 (by decide) rfl ?_
                refine G_goto (K := mX5_turn) (tgt := 54) dX5_turn_120 (by decide) ?_
                exact ih (i + 1) (by omega) (by omega) _ _ M4 h41 h44 h4c (turn_gt hst hiq c94)
        exact loop54 0 (by omega) _ _ _ (by rw [cpyM_c (by decide)]) toH_cpy (fun c a b d e f => cpyM_c b) ⟨rfl, Or.inl (fun j hj => absurd hj (by omega))⟩
      · skip
        exact absurd c8 c25
    · skip
      have hn1 : nOf σ = 1 := (nI_eqI (by omega) (by omega)).mp (show nI (nOf σ) = nI 1 from c18)
      refine G_ldc (K := mX5_turn) dX5_turn_21 kX5_163 ?_
      refine G_istore_n (K := mX5_turn) (i := 3) dX5_turn_23 rfl (by decide) ?_
      refine G_iload_n (K := mX5_turn) (i := 3) dX5_turn_24 rfl rfl ?_
      refine G_if_eq (K := mX5_turn) (tgt := 34) dX5_turn_25 (by decide) (fun c25 => ?_) (fun c25 => ?_)
      · skip
        exact absurd c25 (by decide)
      · skip
        refine G_aload_n (K := mX5_turn) (i := 0) dX5_turn_28 rfl rfl ?_
        refine G_iload_n (K := mX5_turn) (i := 3) dX5_turn_29 rfl rfl ?_
        refine G_call0 (K := mX5_turn) (Q' := PostR (tl σ 4)) (rf_finding hR (k := 4) (by omega) (fun _ _ h => h)) vX5_finding rfl lX5_109 ⟨_, _, _, rfl, rfl, rfl⟩ (by decide) (Nat.le_of_ble_eq_true rfl) dX5_turn_30 rfl ?_
        rintro v M1 ⟨rfl, hR1⟩
        exact G_iret (st := []) (K := mX5_turn) dX5_turn_33 rfl (hQ _ _ (by rw [show opTurn σ (nI q) (nI k) = tl σ 4 from (if_pos c8).trans (if_pos hn1)]; exact ⟨rfl, hR1⟩))
