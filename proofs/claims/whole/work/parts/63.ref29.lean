theorem lsum {f n L : Int32} : (f.toInt64 + n.toInt64 ≤ L.toInt64) ↔ f.toInt + n.toInt ≤ L.toInt := by
  have h1 := Int32.toInt_lt f
  have h2 := Int32.toInt_lt n
  have h3 := Int32.le_toInt f
  have h4 := Int32.le_toInt n
  rw [Int64.le_iff_toInt_le, Int64.toInt_add, Int32.toInt_toInt64, Int32.toInt_toInt64, Int32.toInt_toInt64, Int.bmod_eq_of_le (by omega) (by omega)]
theorem hasS_0 {L f n : Int32} (hL : rg L 0 40) (h : f < 0 ∨ n < 0 ∨ ¬ f.toInt + n.toInt ≤ L.toInt) : hasS L f n = 0 := by
  unfold rg at hL
  unfold hasS
  by_cases h1 : f < 0
  · exact if_pos h1
  rw [if_neg h1]
  by_cases h2 : n < 0
  · exact if_pos h2
  rw [if_neg h2]
  refine if_pos ?_
  rw [i32_lt] at h1 h2 ⊢
  have e0 : (0 : Int32).toInt = 0 := rfl
  have h3 : ¬ f.toInt + n.toInt ≤ L.toInt := by
    rcases h with h | h | h
    · rw [i32_lt] at h; exact absurd h h1
    · rw [i32_lt] at h; exact absurd h h2
    · exact h
  have h4 := Int32.toInt_lt n
  rw [sub_I (by omega) (by omega)]
  omega
theorem hasS_y {L f n : Int32} (hL : rg L 0 40) (h1 : ¬ f < 0) (h2 : ¬ n < 0) (h : f.toInt + n.toInt ≤ L.toInt) : ¬ hasS L f n = 0 := by
  unfold rg at hL
  unfold hasS
  rw [if_neg h1, if_neg h2]
  rw [i32_lt] at h1 h2
  have e0 : (0 : Int32).toInt = 0 := rfl
  have h4 := Int32.toInt_lt n
  rw [if_neg (by rw [i32_lt, sub_I (by omega) (by omega)]; omega)]
  decide
theorem cpG_1 {M : Mem} {j1 j2 a c b i : Nat} (h1 : c ≤ i) (h2 : i < c + b) : cpyG M j1 j2 a c b j2 i = M j1 (a + (i - c)) := if_pos ⟨rfl, h1, h2⟩
theorem cpG_2 {M : Mem} {j1 j2 a c b z i : Nat} (h : ¬ (z = j2 ∧ c ≤ i ∧ i < c + b)) : cpyG M j1 j2 a c b z i = M z i := if_neg h
theorem RR.cp {M M5 σ : Mem} {q p a c b : Nat} (hR : RR M σ) (hq : q < 4) (hp : p < 4) (ha : a + b ≤ 40) (hc : c + b ≤ 40) (h18 : ∀ j, j < b → M5 18 (40 * p + c + j) = M 18 (40 * q + a + j)) (h18o : ∀ x, (x < 40 * p + c ∨ 40 * p + c + b ≤ x) → M5 18 x = M 18 x) (h5c : ∀ z, z ≠ 18 → z ≠ 19 → M5 z = M z) : RR M5 (cpyG σ (46 + q) (46 + p) a c b) := by
  refine hR.sh (fun z a b d e => h5c z d e) (fun z hz => by funext i; exact cpG_2 (by omega)) (fun s hs => ⟨by rw [h5c 16 (by decide) (by decide), cpG_2 (by omega)]; exact hR.s0 hs, by rw [h5c 17 (by decide) (by decide), cpG_2 (by omega)]; exact hR.s1 hs, fun i hi => ?_⟩)
  by_cases h : s = p ∧ c ≤ i ∧ i < c + b
  · obtain ⟨rfl, h1, h2⟩ := h
    have e := h18 (i - c) (by omega)
    rw [show 40 * s + c + (i - c) = 40 * s + i by omega, show 40 * q + a + (i - c) = 40 * q + (a + (i - c)) by omega] at e
    rw [e, show cpyG σ (46 + q) (46 + s) a c b (46 + s) i = σ (46 + q) (a + (i - c)) from if_pos ⟨rfl, h1, h2⟩]
    exact hR.sn hq (by omega)
  · rw [h18o _ (by omega), cpG_2 (by omega)]
    exact hR.sn hs hi
set_option maxRecDepth 20000 in
theorem rf_copy {M σ : Mem} {s f t o n : Int32} (hR : RR M σ) (hI : Inv σ) {Q : Option Value → Mem → Prop} (hQ : ∀ u' M', PostR (opCopy σ s f t o n) u' M' → Q u' M') : CT mX5_copy shR 8 [.ref 0, .int s, .int f, .int t, .int o, .int n] M Q := by
  refine CT.mk [some (.ref 0), some (.int s), some (.int f), some (.int t), some (.int o), some (.int n), none] (by decide) (Nat.le_of_ble_eq_true rfl) rfl rfl ?_
  refine G_iload_n (K := mX5_copy) (i := 1) dX5_copy_0 rfl rfl ?_
  refine G_sv (K := mX5_copy) (c_X5_isSheet (x := s) ⟨rfl, rfl⟩) sX5_isSheet rfl lX5_341 dX5_copy_1 (by decide) rfl (Nat.le_of_ble_eq_true rfl) ?_
  refine G_if_eq (K := mX5_copy) (tgt := 14) dX5_copy_4 (by decide) (fun c4 => ?_) (fun c4 => ?_)
  · skip
    refine G_aload_n (K := mX5_copy) (i := 0) dX5_copy_14 rfl rfl ?_
    refine G_ldc (K := mX5_copy) dX5_copy_15 kX5_92 ?_
    refine G_call0 (K := mX5_copy) (Q' := PostR (tl σ 0)) (rf_finding hR (k := 0) (by omega) (fun _ _ h => h)) vX5_finding rfl lX5_109 ⟨_, _, _, rfl, rfl, rfl⟩ (by decide) (Nat.le_of_ble_eq_true rfl) dX5_copy_17 rfl ?_
    rintro v M1 ⟨rfl, hR1⟩
    exact G_iret (st := []) (K := mX5_copy) dX5_copy_20 rfl (hQ _ _ (by rw [show opCopy σ s f t o n = _ from (by unfold opCopy; exact if_neg (within_o (m := 3) (by decide) c4))]; exact ⟨rfl, hR1⟩))
  · skip
    obtain ⟨q, hq, rfl⟩ := within_i (m := 3) (by decide) c4
    have hB := roomB_nI (n := 4) (by decide) hq
    have hL := hI.len hq
    refine G_iload_n (K := mX5_copy) (i := 3) dX5_copy_7 rfl rfl ?_
    refine G_sv (K := mX5_copy) (c_X5_isSheet (x := t) ⟨rfl, rfl⟩) sX5_isSheet rfl lX5_341 dX5_copy_8 (by decide) rfl (Nat.le_of_ble_eq_true rfl) ?_
    refine G_if_ne (K := mX5_copy) (tgt := 21) dX5_copy_11 (by decide) (fun c11 => ?_) (fun c11 => ?_)
    · skip
      obtain ⟨p, hp, rfl⟩ := within_i (m := 3) (by decide) c11
      have hB2 := roomB_nI (n := 4) (by decide) hp
      have hL2 := hI.len hp
      refine G_aload_n (K := mX5_copy) (i := 0) dX5_copy_21 rfl rfl ?_
      refine G_getr (K := mX5_copy) fX5_80 dX5_copy_22 rfl rfl ?_
      refine G_iload_n (K := mX5_copy) (i := 1) dX5_copy_25 rfl rfl ?_
      refine G_ld (K := mX5_copy) q dX5_copy_26 rfl rfl (by omega) (by decide) ?_
      rw [hR.s0 hq]
      refine G_if_eq (K := mX5_copy) (tgt := 39) dX5_copy_27 (by decide) (fun c27 => ?_) (fun c27 => ?_)
      · skip
        refine G_aload_n (K := mX5_copy) (i := 0) dX5_copy_39 rfl rfl ?_
        refine G_ldcw (K := mX5_copy) dX5_copy_40 kX5_336 ?_
        refine G_call0 (K := mX5_copy) (Q' := PostR (tl σ 5)) (rf_finding hR (k := 5) (by omega) (fun _ _ h => h)) vX5_finding rfl lX5_109 ⟨_, _, _, rfl, rfl, rfl⟩ (by decide) (Nat.le_of_ble_eq_true rfl) dX5_copy_43 rfl ?_
        rintro v M1 ⟨rfl, hR1⟩
        exact G_iret (st := []) (K := mX5_copy) dX5_copy_46 rfl (hQ _ _ (by rw [show opCopy σ (nI q) f (nI p) o n = _ from (by unfold opCopy; exact (if_pos hB).trans ((if_pos hB2).trans (if_pos (by rw [cut_nI (by omega)]; exact c27))))]; exact ⟨rfl, hR1⟩))
      · skip
        have h44q : ¬ σ 44 (cut (nI q)) = 0 := by rw [cut_nI (by omega)]; exact c27
        refine G_aload_n (K := mX5_copy) (i := 0) dX5_copy_30 rfl rfl ?_
        refine G_getr (K := mX5_copy) fX5_80 dX5_copy_31 rfl rfl ?_
        refine G_iload_n (K := mX5_copy) (i := 3) dX5_copy_34 rfl rfl ?_
        refine G_ld (K := mX5_copy) p dX5_copy_35 rfl rfl (by omega) (by decide) ?_
        rw [hR.s0 hp]
        refine G_if_ne (K := mX5_copy) (tgt := 47) dX5_copy_36 (by decide) (fun c36 => ?_) (fun c36 => ?_)
        · skip
          have h44p : ¬ σ 44 (cut (nI p)) = 0 := by rw [cut_nI (by omega)]; exact c36
          refine G_aload_n (K := mX5_copy) (i := 0) dX5_copy_47 rfl rfl ?_
          refine G_getr (K := mX5_copy) fX5_80 dX5_copy_48 rfl rfl ?_
          refine G_iload_n (K := mX5_copy) (i := 1) dX5_copy_51 rfl rfl ?_
          refine G_ld (K := mX5_copy) q dX5_copy_52 rfl rfl (by omega) (by decide) ?_
          refine G_aload_n (K := mX5_copy) (i := 0) dX5_copy_53 rfl rfl ?_
          refine G_getr (K := mX5_copy) fX5_80 dX5_copy_54 rfl rfl ?_
          refine G_iload_n (K := mX5_copy) (i := 3) dX5_copy_57 rfl rfl ?_
          refine G_ld (K := mX5_copy) p dX5_copy_58 rfl rfl (by omega) (by decide) ?_
          rw [hR.s0 hq, hR.s0 hp]
          refine G_icmp_eq (K := mX5_copy) (tgt := 70) dX5_copy_59 (by decide) (fun c59 => ?_) (fun c59 => ?_)
          · skip
            have h44 : σ 44 (cut (nI q)) = σ 44 (cut (nI p)) := by rw [cut_nI (by omega), cut_nI (by omega)]; exact c59
            refine G_iload_n (K := mX5_copy) (i := 2) dX5_copy_70 rfl rfl ?_
            refine G_if_lt (K := mX5_copy) (tgt := 119) dX5_copy_71 (by decide) (fun c71 => ?_) (fun c71 => ?_)
            · skip
              have hh : hasS (σ 45 (cut (nI q))) f n = 0 ∨ hasS (σ 45 (cut (nI p))) o n = 0 := by
                rw [cut_nI (by omega), cut_nI (by omega)]
                exact Or.inl (hasS_0 hL (Or.inl c71))
              refine G_aload_n (K := mX5_copy) (i := 0) dX5_copy_119 rfl rfl ?_
              refine G_ldc (K := mX5_copy) dX5_copy_120 kX5_92 ?_
              refine G_call0 (K := mX5_copy) (Q' := PostR (tl σ 0)) (rf_finding hR (k := 0) (by omega) (fun _ _ h => h)) vX5_finding rfl lX5_109 ⟨_, _, _, rfl, rfl, rfl⟩ (by decide) (Nat.le_of_ble_eq_true rfl) dX5_copy_122 rfl ?_
              rintro v M1 ⟨rfl, hR1⟩
              exact G_iret (st := []) (K := mX5_copy) dX5_copy_125 rfl (hQ _ _ (by rw [show opCopy σ (nI q) f (nI p) o n = _ from (by unfold opCopy; exact (if_pos hB).trans ((if_pos hB2).trans ((if_neg h44q).trans ((if_neg h44p).trans ((if_pos h44).trans (hh.elim (fun z => if_pos z) (fun z => by by_cases z2 : hasS (σ 45 (cut (nI q))) f n = 0; exact if_pos z2; exact (if_neg z2).trans (if_pos z))))))))]; exact ⟨rfl, hR1⟩))
            · skip
              refine G_iload (K := mX5_copy) dX5_copy_74 rfl ?_
              refine G_if_lt (K := mX5_copy) (tgt := 119) dX5_copy_76 (by decide) (fun c76 => ?_) (fun c76 => ?_)
              · skip
                have hh : hasS (σ 45 (cut (nI q))) f n = 0 ∨ hasS (σ 45 (cut (nI p))) o n = 0 := by
                  rw [cut_nI (by omega), cut_nI (by omega)]
                  exact Or.inr (hasS_0 hL2 (Or.inl c76))
                refine G_aload_n (K := mX5_copy) (i := 0) dX5_copy_119 rfl rfl ?_
                refine G_ldc (K := mX5_copy) dX5_copy_120 kX5_92 ?_
                refine G_call0 (K := mX5_copy) (Q' := PostR (tl σ 0)) (rf_finding hR (k := 0) (by omega) (fun _ _ h => h)) vX5_finding rfl lX5_109 ⟨_, _, _, rfl, rfl, rfl⟩ (by decide) (Nat.le_of_ble_eq_true rfl) dX5_copy_122 rfl ?_
                rintro v M1 ⟨rfl, hR1⟩
                exact G_iret (st := []) (K := mX5_copy) dX5_copy_125 rfl (hQ _ _ (by rw [show opCopy σ (nI q) f (nI p) o n = _ from (by unfold opCopy; exact (if_pos hB).trans ((if_pos hB2).trans ((if_neg h44q).trans ((if_neg h44p).trans ((if_pos h44).trans (hh.elim (fun z => if_pos z) (fun z => by by_cases z2 : hasS (σ 45 (cut (nI q))) f n = 0; exact if_pos z2; exact (if_neg z2).trans (if_pos z))))))))]; exact ⟨rfl, hR1⟩))
              · skip
                refine G_iload (K := mX5_copy) dX5_copy_79 rfl ?_
                refine G_if_lt (K := mX5_copy) (tgt := 119) dX5_copy_81 (by decide) (fun c81 => ?_) (fun c81 => ?_)
                · skip
                  have hh : hasS (σ 45 (cut (nI q))) f n = 0 ∨ hasS (σ 45 (cut (nI p))) o n = 0 := by
                    rw [cut_nI (by omega), cut_nI (by omega)]
                    exact Or.inl (hasS_0 hL (Or.inr (Or.inl c81)))
                  refine G_aload_n (K := mX5_copy) (i := 0) dX5_copy_119 rfl rfl ?_
                  refine G_ldc (K := mX5_copy) dX5_copy_120 kX5_92 ?_
                  refine G_call0 (K := mX5_copy) (Q' := PostR (tl σ 0)) (rf_finding hR (k := 0) (by omega) (fun _ _ h => h)) vX5_finding rfl lX5_109 ⟨_, _, _, rfl, rfl, rfl⟩ (by decide) (Nat.le_of_ble_eq_true rfl) dX5_copy_122 rfl ?_
                  rintro v M1 ⟨rfl, hR1⟩
                  exact G_iret (st := []) (K := mX5_copy) dX5_copy_125 rfl (hQ _ _ (by rw [show opCopy σ (nI q) f (nI p) o n = _ from (by unfold opCopy; exact (if_pos hB).trans ((if_pos hB2).trans ((if_neg h44q).trans ((if_neg h44p).trans ((if_pos h44).trans (hh.elim (fun z => if_pos z) (fun z => by by_cases z2 : hasS (σ 45 (cut (nI q))) f n = 0; exact if_pos z2; exact (if_neg z2).trans (if_pos z))))))))]; exact ⟨rfl, hR1⟩))
                · skip
                  refine G_iload_n (K := mX5_copy) (i := 2) dX5_copy_84 rfl rfl ?_
                  refine G_i2l (K := mX5_copy) dX5_copy_85 ?_
                  refine G_iload (K := mX5_copy) dX5_copy_86 rfl ?_
                  refine G_i2l (K := mX5_copy) dX5_copy_88 ?_
                  refine G_ladd (K := mX5_copy) dX5_copy_89 ?_
                  refine G_aload_n (K := mX5_copy) (i := 0) dX5_copy_90 rfl rfl ?_
                  refine G_getr (K := mX5_copy) fX5_83 dX5_copy_91 rfl rfl ?_
                  refine G_iload_n (K := mX5_copy) (i := 1) dX5_copy_94 rfl rfl ?_
                  refine G_ld (K := mX5_copy) q dX5_copy_95 rfl rfl (by omega) (by decide) ?_
                  rw [hR.s1 hq]
                  refine G_i2l (K := mX5_copy) dX5_copy_96 ?_
                  refine G_lcmp (K := mX5_copy) dX5_copy_97 ?_
                  refine G_if_gt (K := mX5_copy) (tgt := 119) dX5_copy_98 (by decide) (fun c98 => ?_) (fun c98 => ?_)
                  · skip
                    have hh : hasS (σ 45 (cut (nI q))) f n = 0 ∨ hasS (σ 45 (cut (nI p))) o n = 0 := by
                      rw [cut_nI (by omega), cut_nI (by omega)]
                      exact Or.inl (hasS_0 hL (Or.inr (Or.inr (fun z => Int32.not_le.mpr c98 ((lg_cmp_le _ _).mpr (lsum.mpr z))))))
                    refine G_aload_n (K := mX5_copy) (i := 0) dX5_copy_119 rfl rfl ?_
                    refine G_ldc (K := mX5_copy) dX5_copy_120 kX5_92 ?_
                    refine G_call0 (K := mX5_copy) (Q' := PostR (tl σ 0)) (rf_finding hR (k := 0) (by omega) (fun _ _ h => h)) vX5_finding rfl lX5_109 ⟨_, _, _, rfl, rfl, rfl⟩ (by decide) (Nat.le_of_ble_eq_true rfl) dX5_copy_122 rfl ?_
                    rintro v M1 ⟨rfl, hR1⟩
                    exact G_iret (st := []) (K := mX5_copy) dX5_copy_125 rfl (hQ _ _ (by rw [show opCopy σ (nI q) f (nI p) o n = _ from (by unfold opCopy; exact (if_pos hB).trans ((if_pos hB2).trans ((if_neg h44q).trans ((if_neg h44p).trans ((if_pos h44).trans (hh.elim (fun z => if_pos z) (fun z => by by_cases z2 : hasS (σ 45 (cut (nI q))) f n = 0; exact if_pos z2; exact (if_neg z2).trans (if_pos z))))))))]; exact ⟨rfl, hR1⟩))
                  · skip
                    have hs1 : f.toInt + n.toInt ≤ (σ 45 q).toInt := lsum.mp ((lg_cmp_le _ _).mp (Int32.not_lt.mp c98))
                    refine G_iload (K := mX5_copy) dX5_copy_101 rfl ?_
                    refine G_i2l (K := mX5_copy) dX5_copy_103 ?_
                    refine G_iload (K := mX5_copy) dX5_copy_104 rfl ?_
                    refine G_i2l (K := mX5_copy) dX5_copy_106 ?_
                    refine G_ladd (K := mX5_copy) dX5_copy_107 ?_
                    refine G_aload_n (K := mX5_copy) (i := 0) dX5_copy_108 rfl rfl ?_
                    refine G_getr (K := mX5_copy) fX5_83 dX5_copy_109 rfl rfl ?_
                    refine G_iload_n (K := mX5_copy) (i := 3) dX5_copy_112 rfl rfl ?_
                    refine G_ld (K := mX5_copy) p dX5_copy_113 rfl rfl (by omega) (by decide) ?_
                    rw [hR.s1 hp]
                    refine G_i2l (K := mX5_copy) dX5_copy_114 ?_
                    refine G_lcmp (K := mX5_copy) dX5_copy_115 ?_
                    refine G_if_le (K := mX5_copy) (tgt := 126) dX5_copy_116 (by decide) (fun c116 => ?_) (fun c116 => ?_)
                    · skip
                      have hs2 : o.toInt + n.toInt ≤ (σ 45 p).toInt := lsum.mp ((lg_cmp_le _ _).mp c116)
                      have k1 := hasS_y hL c71 c81 hs1
                      have k2 := hasS_y hL2 c76 c81 hs2
                      have k1' : ¬ hasS (σ 45 (cut (nI q))) f n = 0 := by rw [cut_nI (by omega)]; exact k1
                      have k2' : ¬ hasS (σ 45 (cut (nI p))) o n = 0 := by rw [cut_nI (by omega)]; exact k2
                      obtain ⟨a, b, rfl, rfl, hab, -, ha, hb⟩ := hasS_1 (m := 40) hL k1
                      obtain ⟨c, b2, rfl, eb2, hcb, -, hc, hb2⟩ := hasS_1 (m := 40) hL2 k2
                      obtain rfl : b = b2 := (nI_eqI hb hb2).mp eb2
                      refine G_iconst (K := mX5_copy) (v := 0) dX5_copy_126 (by decide) ?_
                      refine G_istore (K := mX5_copy) dX5_copy_127 (by decide) ?_
                      have loop129 : ∀ i, i ≤ b → ∀ (M3 : Mem), (∀ j, j < i → M3 19 j = M 18 (40 * q + a + j)) → (∀ z, z ≠ 19 → M3 z = M z) → G mX5_copy shR 8 Q 129 [some (.ref 0), some (.int (nI q)), some (.int (nI a)), some (.int (nI p)), some (.int (nI c)), some (.int (nI b)), some (.int (nI i))] [] M3 := by
                        refine upto b (fun i hi ih => ?_)
                        intro M3 h19 h3c
                        refine G_iload (K := mX5_copy) dX5_copy_129 rfl ?_
                        refine G_iload (K := mX5_copy) dX5_copy_131 rfl ?_
                        refine G_icmp_ge (K := mX5_copy) (tgt := 163) dX5_copy_133 (by decide) (fun c133 => ?_) (fun c133 => ?_)
                        · skip
                          rw [le_nn (by omega) (by omega)] at c133
                          have hib : i = b := by omega
                          subst hib
                          refine G_iconst (K := mX5_copy) (v := 0) dX5_copy_163 (by decide) ?_
                          refine G_istore (K := mX5_copy) dX5_copy_164 (by decide) ?_
                          have loop166 : ∀ y, y ≤ i → ∀ (M5 : Mem), (∀ j, j < y → M5 18 (40 * p + c + j) = M 18 (40 * q + a + j)) → (∀ x, (x < 40 * p + c ∨ 40 * p + c + y ≤ x) → M5 18 x = M 18 x) → (∀ z, z ≠ 18 → M5 z = M3 z) → G mX5_copy shR 8 Q 166 [some (.ref 0), some (.int (nI q)), some (.int (nI a)), some (.int (nI p)), some (.int (nI c)), some (.int (nI i)), some (.int (nI y))] [] M5 := by
                            refine upto i (fun y hy yh => ?_)
                            intro M5 h18 h18o h5c
                            refine G_iload (K := mX5_copy) dX5_copy_166 rfl ?_
                            refine G_iload (K := mX5_copy) dX5_copy_168 rfl ?_
                            refine G_icmp_ge (K := mX5_copy) (tgt := 201) dX5_copy_170 (by decide) (fun c170 => ?_) (fun c170 => ?_)
                            · skip
                              rw [le_nn (by omega) (by omega)] at c170
                              have hyb : y = i := by omega
                              subst hyb
                              refine G_iload (K := mX5_copy) dX5_copy_201 rfl ?_
                              exact G_iret (st := []) (K := mX5_copy) dX5_copy_203 rfl (hQ _ _ (by
                                rw [show opCopy σ (nI q) (nI a) (nI p) (nI c) (nI y) = (nI y, cpyG σ (46 + cut (nI q)) (46 + cut (nI p)) (cut (nI a)) (cut (nI c)) (cut (nI y))) from (if_pos hB).trans ((if_pos hB2).trans ((if_neg h44q).trans ((if_neg h44p).trans ((if_pos h44).trans ((if_neg k1').trans (if_neg k2')))))), cut_nI (k := q) (by omega), cut_nI (k := p) (by omega), cut_nI (k := a) (by omega), cut_nI (k := c) (by omega), cut_nI (k := y) (by omega)]
                                exact ⟨rfl, hR.cp hq hp hab hcb h18 h18o (fun z a b => by rw [h5c z a]; exact h3c z b)⟩))
                            · skip
                              rw [le_nn (by omega) (by omega)] at c170
                              refine G_aload_n (K := mX5_copy) (i := 0) dX5_copy_173 rfl rfl ?_
                              refine G_getr (K := mX5_copy) fX5_86 dX5_copy_174 rfl rfl ?_
                              refine G_bipush (K := mX5_copy) (v := 40) dX5_copy_177 (by decide) ?_
                              refine G_iload_n (K := mX5_copy) (i := 3) dX5_copy_179 rfl rfl ?_
                              refine G_imul (K := mX5_copy) dX5_copy_180 ?_
                              refine G_iload (K := mX5_copy) dX5_copy_181 rfl ?_
                              refine G_iadd (K := mX5_copy) dX5_copy_183 ?_
                              rw [nI_40 (by omega) (by omega)]
                              refine G_iload (K := mX5_copy) dX5_copy_184 rfl ?_
                              refine G_iadd (K := mX5_copy) dX5_copy_186 ?_
                              rw [nI_add]
                              refine G_aload_n (K := mX5_copy) (i := 0) dX5_copy_187 rfl rfl ?_
                              refine G_getr (K := mX5_copy) fX5_89 dX5_copy_188 rfl rfl ?_
                              refine G_iload (K := mX5_copy) dX5_copy_191 rfl ?_
                              refine G_ld (K := mX5_copy) y dX5_copy_193 rfl rfl (by omega) (by decide) ?_
                              rw [h5c 19 (by decide), h19 y (by omega)]
                              refine G_sto (K := mX5_copy) (40 * p + c + y) dX5_copy_194 rfl rfl (by omega) (by decide) ?_
                              refine G_iincN (K := mX5_copy) dX5_copy_195 (by decide) rfl ?_
                              refine G_goto (K := mX5_copy) (tgt := 166) dX5_copy_198 (by decide) ?_
                              refine yh (y + 1) (by omega) (by omega) _ (fun j hj => ?_) (fun x hx => by rw [ups_ne (by omega)]; exact h18o x (by omega)) (fun z hz => by rw [ups_cell hz]; exact h5c z hz)
                              by_cases h : j = y
                              · subst h; rw [ups_same]
                              · rw [ups_ne (by omega)]; exact h18 j (by omega)
                          exact loop166 0 (by omega) M3 (fun j hj => absurd hj (by omega)) (fun x _ => by rw [h3c 18 (by decide)]) (fun _ _ => rfl)
                        · skip
                          rw [le_nn (by omega) (by omega)] at c133
                          refine G_aload_n (K := mX5_copy) (i := 0) dX5_copy_136 rfl rfl ?_
                          refine G_getr (K := mX5_copy) fX5_89 dX5_copy_137 rfl rfl ?_
                          refine G_iload (K := mX5_copy) dX5_copy_140 rfl ?_
                          refine G_aload_n (K := mX5_copy) (i := 0) dX5_copy_142 rfl rfl ?_
                          refine G_getr (K := mX5_copy) fX5_86 dX5_copy_143 rfl rfl ?_
                          refine G_bipush (K := mX5_copy) (v := 40) dX5_copy_146 (by decide) ?_
                          refine G_iload_n (K := mX5_copy) (i := 1) dX5_copy_148 rfl rfl ?_
                          refine G_imul (K := mX5_copy) dX5_copy_149 ?_
                          refine G_iload_n (K := mX5_copy) (i := 2) dX5_copy_150 rfl rfl ?_
                          refine G_iadd (K := mX5_copy) dX5_copy_151 ?_
                          rw [nI_40 (by omega) (by omega)]
                          refine G_iload (K := mX5_copy) dX5_copy_152 rfl ?_
                          refine G_iadd (K := mX5_copy) dX5_copy_154 ?_
                          rw [nI_add]
                          refine G_ld (K := mX5_copy) (40 * q + a + i) dX5_copy_155 rfl rfl (by omega) (by decide) ?_
                          rw [h3c 18 (by decide)]
                          refine G_sto (K := mX5_copy) i dX5_copy_156 rfl rfl (by omega) (by decide) ?_
                          refine G_iincN (K := mX5_copy) dX5_copy_157 (by decide) rfl ?_
                          refine G_goto (K := mX5_copy) (tgt := 129) dX5_copy_160 (by decide) ?_
                          refine ih (i + 1) (by omega) (by omega) _ (fun j hj => ?_) (fun z hz => by rw [ups_cell hz]; exact h3c z hz)
                          by_cases h : j = i
                          · subst h; rw [ups_same]
                          · rw [ups_ne (fun z => h z.2)]; exact h19 j (by omega)
                      exact loop129 0 (by omega) M (fun j hj => absurd hj (by omega)) (fun _ _ => rfl)
                    · skip
                      have hh : hasS (σ 45 (cut (nI q))) f n = 0 ∨ hasS (σ 45 (cut (nI p))) o n = 0 := by
                        rw [cut_nI (by omega), cut_nI (by omega)]
                        exact Or.inr (hasS_0 hL2 (Or.inr (Or.inr (fun z => c116 ((lg_cmp_le _ _).mpr (lsum.mpr z))))))
                      refine G_aload_n (K := mX5_copy) (i := 0) dX5_copy_119 rfl rfl ?_
                      refine G_ldc (K := mX5_copy) dX5_copy_120 kX5_92 ?_
                      refine G_call0 (K := mX5_copy) (Q' := PostR (tl σ 0)) (rf_finding hR (k := 0) (by omega) (fun _ _ h => h)) vX5_finding rfl lX5_109 ⟨_, _, _, rfl, rfl, rfl⟩ (by decide) (Nat.le_of_ble_eq_true rfl) dX5_copy_122 rfl ?_
                      rintro v M1 ⟨rfl, hR1⟩
                      exact G_iret (st := []) (K := mX5_copy) dX5_copy_125 rfl (hQ _ _ (by rw [show opCopy σ (nI q) f (nI p) o n = _ from (by unfold opCopy; exact (if_pos hB).trans ((if_pos hB2).trans ((if_neg h44q).trans ((if_neg h44p).trans ((if_pos h44).trans (hh.elim (fun z => if_pos z) (fun z => by by_cases z2 : hasS (σ 45 (cut (nI q))) f n = 0; exact if_pos z2; exact (if_neg z2).trans (if_pos z))))))))]; exact ⟨rfl, hR1⟩))
          · skip
            refine G_aload_n (K := mX5_copy) (i := 0) dX5_copy_62 rfl rfl ?_
            refine G_ldcw (K := mX5_copy) dX5_copy_63 kX5_340 ?_
            refine G_call0 (K := mX5_copy) (Q' := PostR (tl σ 2)) (rf_finding hR (k := 2) (by omega) (fun _ _ h => h)) vX5_finding rfl lX5_109 ⟨_, _, _, rfl, rfl, rfl⟩ (by decide) (Nat.le_of_ble_eq_true rfl) dX5_copy_66 rfl ?_
            rintro v M1 ⟨rfl, hR1⟩
            exact G_iret (st := []) (K := mX5_copy) dX5_copy_69 rfl (hQ _ _ (by rw [show opCopy σ (nI q) f (nI p) o n = _ from (by unfold opCopy; exact (if_pos hB).trans ((if_pos hB2).trans ((if_neg h44q).trans ((if_neg h44p).trans (if_neg (by rw [cut_nI (by omega), cut_nI (by omega)]; exact c59))))))]; exact ⟨rfl, hR1⟩))
        · skip
          refine G_aload_n (K := mX5_copy) (i := 0) dX5_copy_39 rfl rfl ?_
          refine G_ldcw (K := mX5_copy) dX5_copy_40 kX5_336 ?_
          refine G_call0 (K := mX5_copy) (Q' := PostR (tl σ 5)) (rf_finding hR (k := 5) (by omega) (fun _ _ h => h)) vX5_finding rfl lX5_109 ⟨_, _, _, rfl, rfl, rfl⟩ (by decide) (Nat.le_of_ble_eq_true rfl) dX5_copy_43 rfl ?_
          rintro v M1 ⟨rfl, hR1⟩
          exact G_iret (st := []) (K := mX5_copy) dX5_copy_46 rfl (hQ _ _ (by rw [show opCopy σ (nI q) f (nI p) o n = _ from (by unfold opCopy; exact (if_pos hB).trans ((if_pos hB2).trans ((if_neg h44q).trans (if_pos (by rw [cut_nI (by omega)]; exact c36)))))]; exact ⟨rfl, hR1⟩))
    · skip
      refine G_aload_n (K := mX5_copy) (i := 0) dX5_copy_14 rfl rfl ?_
      refine G_ldc (K := mX5_copy) dX5_copy_15 kX5_92 ?_
      refine G_call0 (K := mX5_copy) (Q' := PostR (tl σ 0)) (rf_finding hR (k := 0) (by omega) (fun _ _ h => h)) vX5_finding rfl lX5_109 ⟨_, _, _, rfl, rfl, rfl⟩ (by decide) (Nat.le_of_ble_eq_true rfl) dX5_copy_17 rfl ?_
      rintro v M1 ⟨rfl, hR1⟩
      exact G_iret (st := []) (K := mX5_copy) dX5_copy_20 rfl (hQ _ _ (by rw [show opCopy σ (nI q) f t o n = _ from (by unfold opCopy; exact (if_pos hB).trans (if_neg (within_o (m := 3) (by decide) c11)))]; exact ⟨rfl, hR1⟩))
