def TPr (T : Nat → Int32) (L : Nat) (M : Mem) : Prop := (∀ k, k < 120 → M 12 k = T k) ∧ M 0 19 = nI L
def TR (T : Nat → Int32) (L e : Nat) (M : Mem) : Prop := M 0 20 = nI (tB T L e) ∧ (¬ tS T L e = 4 → M 0 21 = nI (tE T L e)) ∧ M 0 22 = (if tS T L e = 4 then 3 else tS T L e) ∧ M 0 23 = tV T L e
theorem srt_1 {x : Int32} : srt x = 1 ↔ 97 ≤ x ∧ x ≤ 122 := by
  unfold srt
  by_cases h0 : x < 0
  · rw [if_pos h0]
    refine ⟨fun h => absurd h (by decide), fun h => ?_⟩
    have h1 := h.1
    rw [i32_le] at h1
    rw [i32_lt] at h0
    have e97 : (97 : Int32).toInt = 97 := rfl
    have e0 : (0 : Int32).toInt = 0 := rfl
    omega
  · rw [if_neg h0]
    by_cases h1 : 97 ≤ x ∧ x ≤ 122
    · rw [if_pos h1]; exact ⟨fun _ => h1, fun _ => rfl⟩
    · rw [if_neg h1]
      refine ⟨fun h => ?_, fun h => absurd h h1⟩
      by_cases h2 : 48 ≤ x ∧ x ≤ 57
      · rw [if_pos h2] at h; exact absurd h (by decide)
      · rw [if_neg h2] at h
        by_cases h3 : x = 59
        · rw [if_pos h3] at h; exact absurd h (by decide)
        · rw [if_neg h3] at h; exact absurd h (by decide)
theorem srt_2 {x : Int32} : srt x = 2 ↔ 48 ≤ x ∧ x ≤ 57 := by
  unfold srt
  have e97 : (97 : Int32).toInt = 97 := rfl
  have e57 : (57 : Int32).toInt = 57 := rfl
  have e48 : (48 : Int32).toInt = 48 := rfl
  have e0 : (0 : Int32).toInt = 0 := rfl
  by_cases h0 : x < 0
  · rw [if_pos h0]
    refine ⟨fun h => absurd h (by decide), fun h => ?_⟩
    have h1 := h.1
    rw [i32_le] at h1
    rw [i32_lt] at h0
    omega
  · rw [if_neg h0]
    by_cases h1 : 97 ≤ x ∧ x ≤ 122
    · rw [if_pos h1]
      refine ⟨fun h => absurd h (by decide), fun h => ?_⟩
      have h2 := h.2
      have h3 := h1.1
      rw [i32_le] at h2 h3
      omega
    · rw [if_neg h1]
      by_cases h2 : 48 ≤ x ∧ x ≤ 57
      · rw [if_pos h2]; exact ⟨fun _ => h2, fun _ => rfl⟩
      · rw [if_neg h2]
        refine ⟨fun h => ?_, fun h => absurd h h2⟩
        by_cases h3 : x = 59
        · rw [if_pos h3] at h; exact absurd h (by decide)
        · rw [if_neg h3] at h; exact absurd h (by decide)
theorem srt_34 {x : Int32} (h0 : ¬ x < 0) (h1 : ¬ srt x = 1) (h2 : ¬ srt x = 2) : (x = 59 ∧ srt x = 3) ∨ (¬ x = 59 ∧ srt x = 4) := by
  have g1 : ¬ (97 ≤ x ∧ x ≤ 122) := fun z => h1 (srt_1.mpr z)
  have g2 : ¬ (48 ≤ x ∧ x ≤ 57) := fun z => h2 (srt_2.mpr z)
  unfold srt
  rw [if_neg h0, if_neg g1, if_neg g2]
  by_cases h : x = 59
  · exact Or.inl ⟨h, if_pos h⟩
  · exact Or.inr ⟨h, if_neg h⟩
theorem skP_in {s x : Int32} (hx : ¬ x < 0) (h : srt x = s) : skP s x = true := by
  unfold skP
  rw [decide_eq_true (Int32.not_lt.mp hx), decide_eq_true h]
  rfl
theorem skP_no {s x : Int32} (h : ¬ srt x = s) : skP s x = false := by
  unfold skP
  rw [decide_eq_false h, Bool.and_false]
set_option maxRecDepth 20000 in
theorem rf_byteAt {T : Nat → Int32} {L k : Nat} {M : Mem} (hT : TPr T L M) (hL : L ≤ 120) (hk : k < 2147483648) {Q : Option Value → Mem → Prop} (hQ : Q (some (.int (byt T L k))) M) : CT mX5_byteAt shR 0 [.ref 0, .int (nI k)] M Q := by
  refine CT.mk [some (.ref 0), some (.int (nI k))] (by decide) (Nat.le_of_ble_eq_true rfl) rfl rfl ?_
  refine G_iload_n (K := mX5_byteAt) (i := 1) dX5_byteAt_0 rfl rfl ?_
  refine G_aload_n (K := mX5_byteAt) (i := 0) dX5_byteAt_1 rfl rfl ?_
  refine G_geti (K := mX5_byteAt) fX5_260 dX5_byteAt_2 rfl rfl ?_
  refine G_icmp_ge (K := mX5_byteAt) (tgt := 17) dX5_byteAt_5 (by decide) (fun c5 => ?_) (fun c5 => ?_)
  · skip
    rw [hT.2, le_nn (by omega) (by omega)] at c5
    refine G_iconst (K := mX5_byteAt) (v := -1) dX5_byteAt_17 (by decide) ?_
    exact G_irm (K := mX5_byteAt) dX5_byteAt_18 rfl (byt_out c5).symm rfl hQ
  · skip
    rw [hT.2, le_nn (by omega) (by omega)] at c5
    refine G_aload_n (K := mX5_byteAt) (i := 0) dX5_byteAt_8 rfl rfl ?_
    refine G_getr (K := mX5_byteAt) fX5_43 dX5_byteAt_9 rfl rfl ?_
    refine G_iload_n (K := mX5_byteAt) (i := 1) dX5_byteAt_12 rfl rfl ?_
    refine G_ld (K := mX5_byteAt) k dX5_byteAt_13 rfl rfl (by omega) (by decide) ?_
    refine G_goto (K := mX5_byteAt) (tgt := 18) dX5_byteAt_14 (by decide) ?_
    exact G_irm (K := mX5_byteAt) dX5_byteAt_18 rfl ((hT.1 k (by omega)).trans (byt_in (by omega)).symm) rfl hQ

set_option maxRecDepth 20000 in
theorem rf_next {T : Nat → Int32} {L e : Nat} {M : Mem} (hH : TH T L) (hT : TPr T L M) (he : M 0 21 = nI e) (hel : e ≤ L) {Q : Option Value → Mem → Prop} (hQ : ∀ M2 : Mem, TR T L e M2 → (∀ c, c ≠ 0 → M2 c = M c) → (∀ y, y ≠ 20 → y ≠ 21 → y ≠ 22 → y ≠ 23 → M2 0 y = M 0 y) → Q none M2) : CT mX5_next shR 1 [.ref 0] M Q := by
  refine CT.mk [some (.ref 0), none] (by decide) (Nat.le_of_ble_eq_true rfl) rfl rfl ?_
  have hL := hH.1
  refine G_aload_n (K := mX5_next) (i := 0) dX5_next_0 rfl rfl ?_
  refine G_aload_n (K := mX5_next) (i := 0) dX5_next_1 rfl rfl ?_
  refine G_geti (K := mX5_next) fX5_263 dX5_next_2 rfl rfl ?_
  refine G_puti (K := mX5_next) fX5_266 w5_20 dX5_next_5 rfl rfl ?_
  have loop8 : ∀ b, b ≤ L → e ≤ b → ∀ M3 : Mem, M3 0 20 = nI b → (∀ c, c ≠ 0 → M3 c = M c) → (∀ y, y ≠ 20 → y ≠ 21 → y ≠ 22 → y ≠ 23 → M3 0 y = M 0 y) → (∀ k, e ≤ k → k < b → spP (byt T L k) = true) → G mX5_next shR 1 Q 8 [some (.ref 0), none] [] M3 := by
    refine upto L (fun b hb ih => ?_)
    intro heb M3 h320 h3c h3o hk
    have hT3 : TPr T L M3 := ⟨fun k hk => by rw [h3c 12 (by decide)]; exact hT.1 k hk, by rw [h3o 19 (by decide) (by decide) (by decide) (by decide)]; exact hT.2⟩
    refine G_aload_n (K := mX5_next) (i := 0) dX5_next_8 rfl rfl ?_
    refine G_aload_n (K := mX5_next) (i := 0) dX5_next_9 rfl rfl ?_
    refine G_geti (K := mX5_next) fX5_266 dX5_next_10 rfl rfl ?_
    rw [h320]
    refine G_cv (K := mX5_next) (rf_byteAt (T := T) (L := L) (k := b) (M := M3) hT3 hH.1 (by omega) ⟨rfl, rfl⟩) vX5_byteAt rfl lX5_269 dX5_next_13 ⟨_, _, _, rfl, rfl, rfl⟩ (by decide) rfl (Nat.le_of_ble_eq_true rfl) ?_
    refine G_bipush (K := mX5_next) (v := 32) dX5_next_16 (by decide) ?_
    refine G_icmp_ne (K := mX5_next) (tgt := 34) dX5_next_18 (by decide) (fun c18 => ?_) (fun c18 => ?_)
    · skip
      have hsp : spP (byt T L b) = false := decide_eq_false c18
      refine G_aload_n (K := mX5_next) (i := 0) dX5_next_34 rfl rfl ?_
      refine G_aload_n (K := mX5_next) (i := 0) dX5_next_35 rfl rfl ?_
      refine G_geti (K := mX5_next) fX5_266 dX5_next_36 rfl rfl ?_
      rw [h320]
      refine G_cv (K := mX5_next) (rf_byteAt (T := T) (L := L) (k := b) (M := M3) hT3 hH.1 (by omega) ⟨rfl, rfl⟩) vX5_byteAt rfl lX5_269 dX5_next_39 ⟨_, _, _, rfl, rfl, rfl⟩ (by decide) rfl (Nat.le_of_ble_eq_true rfl) ?_
      refine G_istore_n (K := mX5_next) (i := 1) dX5_next_42 rfl (by decide) ?_
      refine G_aload_n (K := mX5_next) (i := 0) dX5_next_43 rfl rfl ?_
      refine G_aload_n (K := mX5_next) (i := 0) dX5_next_44 rfl rfl ?_
      refine G_geti (K := mX5_next) fX5_266 dX5_next_45 rfl rfl ?_
      refine G_puti (K := mX5_next) fX5_263 w5_21 dX5_next_48 rfl rfl ?_
      refine G_aload_n (K := mX5_next) (i := 0) dX5_next_51 rfl rfl ?_
      refine G_iconst (K := mX5_next) (v := 0) dX5_next_52 (by decide) ?_
      refine G_puti (K := mX5_next) fX5_272 w5_23 dX5_next_53 rfl rfl ?_
      refine G_iload_n (K := mX5_next) (i := 1) dX5_next_56 rfl rfl ?_
      refine G_if_ge (K := mX5_next) (tgt := 68) dX5_next_57 (by decide) (fun c57 => ?_) (fun c57 => ?_)
      · skip
        have hpos : ¬ byt T L b < 0 := Int32.not_lt.mpr c57
        have hbL : b < L := by
          rcases Nat.lt_or_ge b L with q | q
          · exact q
          · rw [byt_out q] at hpos; exact absurd (by decide) hpos
        refine G_iload_n (K := mX5_next) (i := 1) dX5_next_68 rfl rfl ?_
        refine G_bipush (K := mX5_next) (v := 97) dX5_next_69 (by decide) ?_
        refine G_bipush (K := mX5_next) (v := 122) dX5_next_71 (by decide) ?_
        refine G_sv (K := mX5_next) (c_X5_within (v := (byt T L b)) (a := 97) (b := 122) ⟨rfl, rfl⟩) sX5_within rfl lX5_97 dX5_next_73 (by decide) rfl (Nat.le_of_ble_eq_true rfl) ?_
        refine G_if_eq (K := mX5_next) (tgt := 115) dX5_next_76 (by decide) (fun c76 => ?_) (fun c76 => ?_)
        · skip
          have hs1 : ¬ srt (byt T L b) = 1 := fun z => of_decide_eq_false (bI_0 c76) (srt_1.mp z)
          refine G_iload_n (K := mX5_next) (i := 1) dX5_next_115 rfl rfl ?_
          refine G_bipush (K := mX5_next) (v := 48) dX5_next_116 (by decide) ?_
          refine G_bipush (K := mX5_next) (v := 57) dX5_next_118 (by decide) ?_
          refine G_sv (K := mX5_next) (c_X5_within (v := (byt T L b)) (a := 48) (b := 57) ⟨rfl, rfl⟩) sX5_within rfl lX5_97 dX5_next_120 (by decide) rfl (Nat.le_of_ble_eq_true rfl) ?_
          refine G_if_eq (K := mX5_next) (tgt := 191) dX5_next_123 (by decide) (fun c123 => ?_) (fun c123 => ?_)
          · skip
            have hs2 : ¬ srt (byt T L b) = 2 := fun z => of_decide_eq_false (bI_0 c123) (srt_2.mp z)
            refine G_aload_n (K := mX5_next) (i := 0) dX5_next_191 rfl rfl ?_
            refine G_iconst (K := mX5_next) (v := 3) dX5_next_192 (by decide) ?_
            refine G_puti (K := mX5_next) fX5_275 w5_22 dX5_next_193 rfl rfl ?_
            refine G_aload_n (K := mX5_next) (i := 0) dX5_next_196 rfl rfl ?_
            refine G_dup (K := mX5_next) dX5_next_197 rfl ?_
            refine G_geti (K := mX5_next) fX5_263 dX5_next_198 rfl rfl ?_
            refine G_iconst (K := mX5_next) (v := 1) dX5_next_201 (by decide) ?_
            refine G_iadd (K := mX5_next) dX5_next_202 ?_
            refine G_puti (K := mX5_next) fX5_263 w5_21 dX5_next_203 rfl rfl ?_
            have hbt : tB T L e = b := runE_eq 121 e b heb (by omega) hk hsp
            have hS : tS T L e = srt (byt T L b) := by unfold tS; rw [hbt]
            have hV : tV T L e = 0 := by
              unfold tV
              rw [hS, if_neg hs2]
            have h22 : (3 : Int32) = (if tS T L e = 4 then 3 else tS T L e) := by
              rw [hS]
              rcases srt_34 hpos hs1 hs2 with ⟨-, h⟩ | ⟨-, h⟩
              · rw [h]; rfl
              · rw [if_pos h]
            have h21 : ¬ tS T L e = 4 → nI b + 1 = nI (tE T L e) := fun h4 => by
              rw [hS] at h4
              rcases srt_34 hpos hs1 hs2 with ⟨-, h⟩ | ⟨-, h⟩
              · unfold tE
                rw [hS, if_pos h, hbt, nI_1]
              · exact absurd h h4
            exact G_vrm (K := mX5_next) dX5_next_206 rfl rfl (hQ _ ⟨by rw [ups_ne (by omega), ups_ne (by omega), ups_ne (by omega), ups_ne (by omega), hbt]; exact h320, fun h4 => by rw [ups_same, ups_ne (by omega), ups_ne (by omega), ups_same, h320]; exact h21 h4, by rw [ups_ne (by omega), ups_same]; exact h22, by rw [ups_ne (by omega), ups_ne (by omega), ups_same, hV]⟩ (fun c hc => by rw [ups_cell hc, ups_cell hc, ups_cell hc, ups_cell hc]; exact h3c c hc) (fun y a b c d => by rw [ups_ne (by omega), ups_ne (by omega), ups_ne (by omega), ups_ne (by omega)]; exact h3o y a b c d))
          · skip
            have hs2 : srt (byt T L b) = 2 := srt_2.mpr (of_decide_eq_true (bI_1 c123))
            refine G_aload_n (K := mX5_next) (i := 0) dX5_next_126 rfl rfl ?_
            refine G_iconst (K := mX5_next) (v := 2) dX5_next_127 (by decide) ?_
            refine G_puti (K := mX5_next) fX5_275 w5_22 dX5_next_128 rfl rfl ?_
            have loop131 : ∀ x, x ≤ L → b ≤ x → ∀ (M3 : Mem) (v : Int32), M3 0 20 = nI b → M3 0 21 = nI x → M3 0 22 = 2 → M3 0 23 = v → (∀ c, c ≠ 0 → M3 c = M c) → (∀ y, y ≠ 20 → y ≠ 21 → y ≠ 22 → y ≠ 23 → M3 0 y = M 0 y) → (∀ k, b ≤ k → k < x → skP 2 (byt T L k) = true) → valE T L (121 - (x - b)) x v = valE T L 121 b 0 → G mX5_next shR 1 Q 131 [some (.ref 0), some (.int (byt T L b))] [] M3 := by
              refine upto L (fun x hx xh => ?_)
              intro hbx M3 v h320 h321 h322 h323 h3c h3o hsk hv2
              have hT3 : TPr T L M3 := ⟨fun k hk => by rw [h3c 12 (by decide)]; exact hT.1 k hk, by rw [h3o 19 (by decide) (by decide) (by decide) (by decide)]; exact hT.2⟩
              refine G_aload_n (K := mX5_next) (i := 0) dX5_next_131 rfl rfl ?_
              refine G_aload_n (K := mX5_next) (i := 0) dX5_next_132 rfl rfl ?_
              refine G_geti (K := mX5_next) fX5_263 dX5_next_133 rfl rfl ?_
              rw [h321]
              refine G_cv (K := mX5_next) (rf_byteAt (T := T) (L := L) (k := x) (M := M3) hT3 hH.1 (by omega) ⟨rfl, rfl⟩) vX5_byteAt rfl lX5_269 dX5_next_136 ⟨_, _, _, rfl, rfl, rfl⟩ (by decide) rfl (Nat.le_of_ble_eq_true rfl) ?_
              refine G_bipush (K := mX5_next) (v := 48) dX5_next_139 (by decide) ?_
              refine G_bipush (K := mX5_next) (v := 57) dX5_next_141 (by decide) ?_
              refine G_sv (K := mX5_next) (c_X5_within (v := (byt T L x)) (a := 48) (b := 57) ⟨rfl, rfl⟩) sX5_within rfl lX5_97 dX5_next_143 (by decide) rfl (Nat.le_of_ble_eq_true rfl) ?_
              refine G_if_eq (K := mX5_next) (tgt := 206) dX5_next_146 (by decide) (fun c146 => ?_) (fun c146 => ?_)
              · skip
                have hxs : ¬ srt (byt T L x) = 2 := fun z => of_decide_eq_false (bI_0 c146) (srt_2.mp z)
                have hbt : tB T L e = b := runE_eq 121 e b heb (by omega) hk hsp
                have hS : tS T L e = srt (byt T L b) := by unfold tS; rw [hbt]
                have hE : tE T L e = x := by
                  unfold tE
                  rw [hS, hs2, if_neg (by decide), hbt]
                  exact runE_eq 121 b x hbx (by omega) hsk (skP_no hxs)
                have hV : tV T L e = v := by
                  unfold tV
                  rw [hS, if_pos hs2, hbt, ← hv2, show 121 - (x - b) = (120 - (x - b)) + 1 by omega]
                  exact if_neg hxs
                exact G_vrm (K := mX5_next) dX5_next_206 rfl rfl (hQ _ ⟨by rw [hbt]; exact h320, fun _ => by rw [hE]; exact h321, by rw [hS, hs2]; exact h322, by rw [hV]; exact h323⟩ h3c h3o)
              · skip
                have hxs : srt (byt T L x) = 2 := srt_2.mpr (of_decide_eq_true (bI_1 c146))
                have hxL : x < L := by
                  rcases Nat.lt_or_ge x L with q | q
                  · exact q
                  · rw [byt_out q] at hxs; exact absurd hxs (by decide)
                refine G_aload_n (K := mX5_next) (i := 0) dX5_next_149 rfl rfl ?_
                refine G_sipush (K := mX5_next) (v := 10000) dX5_next_150 (by decide) ?_
                refine G_bipush (K := mX5_next) (v := 10) dX5_next_153 (by decide) ?_
                refine G_aload_n (K := mX5_next) (i := 0) dX5_next_155 rfl rfl ?_
                refine G_geti (K := mX5_next) fX5_272 dX5_next_156 rfl rfl ?_
                rw [h323]
                refine G_imul (K := mX5_next) dX5_next_159 ?_
                refine G_aload_n (K := mX5_next) (i := 0) dX5_next_160 rfl rfl ?_
                refine G_aload_n (K := mX5_next) (i := 0) dX5_next_161 rfl rfl ?_
                refine G_geti (K := mX5_next) fX5_263 dX5_next_162 rfl rfl ?_
                rw [h321]
                refine G_cv (K := mX5_next) (rf_byteAt (T := T) (L := L) (k := x) (M := M3) hT3 hH.1 (by omega) ⟨rfl, rfl⟩) vX5_byteAt rfl lX5_269 dX5_next_165 ⟨_, _, _, rfl, rfl, rfl⟩ (by decide) rfl (Nat.le_of_ble_eq_true rfl) ?_
                refine G_iadd (K := mX5_next) dX5_next_168 ?_
                refine G_bipush (K := mX5_next) (v := 48) dX5_next_169 (by decide) ?_
                refine G_isub (K := mX5_next) dX5_next_171 ?_
                refine G_min (K := mX5_next) qX5_123 dX5_next_172 (by decide) (Nat.le_of_ble_eq_true rfl) ?_
                refine G_puti (K := mX5_next) fX5_272 w5_23 dX5_next_175 rfl rfl ?_
                refine G_aload_n (K := mX5_next) (i := 0) dX5_next_178 rfl rfl ?_
                refine G_dup (K := mX5_next) dX5_next_179 rfl ?_
                refine G_geti (K := mX5_next) fX5_263 dX5_next_180 rfl rfl ?_
                refine G_iconst (K := mX5_next) (v := 1) dX5_next_183 (by decide) ?_
                refine G_iadd (K := mX5_next) dX5_next_184 ?_
                refine G_puti (K := mX5_next) fX5_263 w5_21 dX5_next_185 rfl rfl ?_
                refine G_goto (K := mX5_next) (tgt := 131) dX5_next_188 (by decide) ?_
                have e1 : 121 - (x - b) = (121 - (x + 1 - b)) + 1 := by omega
                rw [e1] at hv2
                exact xh (x + 1) (by omega) (by omega) (by omega) _ (minI 10000 (10 * v + byt T L x - 48)) (by rw [ups_ne (by omega), ups_ne (by omega)]; exact h320) (by rw [ups_same, ups_ne (by omega), h321, nI_1]) (by rw [ups_ne (by omega), ups_ne (by omega)]; exact h322) (by rw [ups_ne (by omega), ups_same]; rfl) (fun c hc => by rw [ups_cell hc, ups_cell hc]; exact h3c c hc) (fun y a b c d => by rw [ups_ne (by omega), ups_ne (by omega)]; exact h3o y a b c d) (fun k h1 h2 => by
                    by_cases h : k = x
                    · subst h; exact skP_in (by rw [byt_in hxL]; exact Int32.not_lt.mpr (hH.2 _ hxL)) hxs
                    · exact hsk k h1 (by omega)) (by
                    rw [← hv2]
                    exact (if_pos hxs).symm)
            exact loop131 b hb (by omega) _ 0 (by rw [ups_ne (by omega), ups_ne (by omega), ups_ne (by omega)]; exact h320) (by rw [ups_ne (by omega), ups_ne (by omega), ups_same]; exact h320) (by rw [ups_same]) (by rw [ups_ne (by omega), ups_same]) (fun c hc => by rw [ups_cell hc, ups_cell hc, ups_cell hc]; exact h3c c hc) (fun y a b c d => by rw [ups_ne (by omega), ups_ne (by omega), ups_ne (by omega)]; exact h3o y a b c d) (fun k h1 h2 => absurd h1 (by omega)) (by rw [Nat.sub_self])
        · skip
          have hs1 : srt (byt T L b) = 1 := srt_1.mpr (of_decide_eq_true (bI_1 c76))
          refine G_aload_n (K := mX5_next) (i := 0) dX5_next_79 rfl rfl ?_
          refine G_iconst (K := mX5_next) (v := 1) dX5_next_80 (by decide) ?_
          refine G_puti (K := mX5_next) fX5_275 w5_22 dX5_next_81 rfl rfl ?_
          have loop84 : ∀ x, x ≤ L → b ≤ x → ∀ M3 : Mem, M3 0 20 = nI b → M3 0 21 = nI x → M3 0 22 = 1 → M3 0 23 = 0 → (∀ c, c ≠ 0 → M3 c = M c) → (∀ y, y ≠ 20 → y ≠ 21 → y ≠ 22 → y ≠ 23 → M3 0 y = M 0 y) → (∀ k, b ≤ k → k < x → skP 1 (byt T L k) = true) → G mX5_next shR 1 Q 84 [some (.ref 0), some (.int (byt T L b))] [] M3 := by
            refine upto L (fun x hx xh => ?_)
            intro hbx M3 h320 h321 h322 h323 h3c h3o hsk
            have hT3 : TPr T L M3 := ⟨fun k hk => by rw [h3c 12 (by decide)]; exact hT.1 k hk, by rw [h3o 19 (by decide) (by decide) (by decide) (by decide)]; exact hT.2⟩
            refine G_aload_n (K := mX5_next) (i := 0) dX5_next_84 rfl rfl ?_
            refine G_aload_n (K := mX5_next) (i := 0) dX5_next_85 rfl rfl ?_
            refine G_geti (K := mX5_next) fX5_263 dX5_next_86 rfl rfl ?_
            rw [h321]
            refine G_cv (K := mX5_next) (rf_byteAt (T := T) (L := L) (k := x) (M := M3) hT3 hH.1 (by omega) ⟨rfl, rfl⟩) vX5_byteAt rfl lX5_269 dX5_next_89 ⟨_, _, _, rfl, rfl, rfl⟩ (by decide) rfl (Nat.le_of_ble_eq_true rfl) ?_
            refine G_bipush (K := mX5_next) (v := 97) dX5_next_92 (by decide) ?_
            refine G_bipush (K := mX5_next) (v := 122) dX5_next_94 (by decide) ?_
            refine G_sv (K := mX5_next) (c_X5_within (v := (byt T L x)) (a := 97) (b := 122) ⟨rfl, rfl⟩) sX5_within rfl lX5_97 dX5_next_96 (by decide) rfl (Nat.le_of_ble_eq_true rfl) ?_
            refine G_if_eq (K := mX5_next) (tgt := 206) dX5_next_99 (by decide) (fun c99 => ?_) (fun c99 => ?_)
            · skip
              have hxs : ¬ srt (byt T L x) = 1 := fun z => of_decide_eq_false (bI_0 c99) (srt_1.mp z)
              have hbt : tB T L e = b := runE_eq 121 e b heb (by omega) hk hsp
              have hS : tS T L e = srt (byt T L b) := by unfold tS; rw [hbt]
              have hE : tE T L e = x := by
                unfold tE
                rw [hS, hs1, if_neg (by decide), hbt]
                exact runE_eq 121 b x hbx (by omega) hsk (skP_no hxs)
              have hV : tV T L e = 0 := by
                unfold tV
                rw [hS, hs1]
                rfl
              exact G_vrm (K := mX5_next) dX5_next_206 rfl rfl (hQ _ ⟨by rw [hbt]; exact h320, fun _ => by rw [hE]; exact h321, by rw [hS, hs1]; exact h322, by rw [hV]; exact h323⟩ h3c h3o)
            · skip
              have hxs : srt (byt T L x) = 1 := srt_1.mpr (of_decide_eq_true (bI_1 c99))
              have hxL : x < L := by
                rcases Nat.lt_or_ge x L with q | q
                · exact q
                · rw [byt_out q] at hxs; exact absurd hxs (by decide)
              refine G_aload_n (K := mX5_next) (i := 0) dX5_next_102 rfl rfl ?_
              refine G_dup (K := mX5_next) dX5_next_103 rfl ?_
              refine G_geti (K := mX5_next) fX5_263 dX5_next_104 rfl rfl ?_
              refine G_iconst (K := mX5_next) (v := 1) dX5_next_107 (by decide) ?_
              refine G_iadd (K := mX5_next) dX5_next_108 ?_
              refine G_puti (K := mX5_next) fX5_263 w5_21 dX5_next_109 rfl rfl ?_
              refine G_goto (K := mX5_next) (tgt := 84) dX5_next_112 (by decide) ?_
              exact xh (x + 1) (by omega) (by omega) (by omega) _ (by rw [ups_ne (by omega)]; exact h320) (by rw [ups_same, h321, nI_1]) (by rw [ups_ne (by omega)]; exact h322) (by rw [ups_ne (by omega)]; exact h323) (fun c hc => by rw [ups_cell hc]; exact h3c c hc) (fun y a b c d => by rw [ups_ne (by omega)]; exact h3o y a b c d) (fun k h1 h2 => by
                  by_cases h : k = x
                  · subst h; exact skP_in (by rw [byt_in hxL]; exact Int32.not_lt.mpr (hH.2 _ hxL)) hxs
                  · exact hsk k h1 (by omega))
          exact loop84 b hb (by omega) _ (by rw [ups_ne (by omega), ups_ne (by omega), ups_ne (by omega)]; exact h320) (by rw [ups_ne (by omega), ups_ne (by omega), ups_same]; exact h320) (by rw [ups_same]) (by rw [ups_ne (by omega), ups_same]) (fun c hc => by rw [ups_cell hc, ups_cell hc, ups_cell hc]; exact h3c c hc) (fun y a b c d => by rw [ups_ne (by omega), ups_ne (by omega), ups_ne (by omega)]; exact h3o y a b c d) (fun k h1 h2 => absurd h1 (by omega))
      · skip
        have hneg := Int32.not_le.mp c57
        refine G_aload_n (K := mX5_next) (i := 0) dX5_next_60 rfl rfl ?_
        refine G_iconst (K := mX5_next) (v := 0) dX5_next_61 (by decide) ?_
        refine G_puti (K := mX5_next) fX5_275 w5_22 dX5_next_62 rfl rfl ?_
        refine G_goto (K := mX5_next) (tgt := 206) dX5_next_65 (by decide) ?_
        have hbt : tB T L e = b := runE_eq 121 e b heb (by omega) hk hsp
        have hS : tS T L e = srt (byt T L b) := by unfold tS; rw [hbt]
        have hs0 : srt (byt T L b) = 0 := if_pos hneg
        have hE : tE T L e = b := by
          unfold tE
          rw [hS, hs0, if_neg (by decide), hbt]
          refine runE_eq 121 b b (by omega) (by omega) (fun k h1 h2 => absurd h1 (by omega)) ?_
          unfold skP
          rw [decide_eq_false (Int32.not_le.mpr hneg), Bool.false_and]
        have hV : tV T L e = 0 := by
          unfold tV
          rw [hS, hs0]
          rfl
        exact G_vrm (K := mX5_next) dX5_next_206 rfl rfl (hQ _ ⟨by rw [ups_ne (by omega), ups_ne (by omega), ups_ne (by omega), hbt]; exact h320, fun _ => by rw [ups_ne (by omega), ups_ne (by omega), ups_same, hE]; exact h320, by rw [ups_same, hS, hs0]; rfl, by rw [ups_ne (by omega), ups_same, hV]⟩ (fun c hc => by rw [ups_cell hc, ups_cell hc, ups_cell hc]; exact h3c c hc) (fun y a b c d => by rw [ups_ne (by omega), ups_ne (by omega), ups_ne (by omega)]; exact h3o y a b c d))
    · skip
      have hsp : spP (byt T L b) = true := decide_eq_true c18
      have hbL : b < L := by
        rcases Nat.lt_or_ge b L with q | q
        · exact q
        · rw [byt_out q] at c18; exact absurd c18 (by decide)
      refine G_aload_n (K := mX5_next) (i := 0) dX5_next_21 rfl rfl ?_
      refine G_dup (K := mX5_next) dX5_next_22 rfl ?_
      refine G_geti (K := mX5_next) fX5_266 dX5_next_23 rfl rfl ?_
      refine G_iconst (K := mX5_next) (v := 1) dX5_next_26 (by decide) ?_
      refine G_iadd (K := mX5_next) dX5_next_27 ?_
      refine G_puti (K := mX5_next) fX5_266 w5_20 dX5_next_28 rfl rfl ?_
      refine G_goto (K := mX5_next) (tgt := 8) dX5_next_31 (by decide) ?_
      exact ih (b + 1) (by omega) (by omega) (by omega) _ (by rw [ups_same, h320, nI_1]) (fun c hc => by rw [ups_cell hc]; exact h3c c hc) (fun y a b c d => by rw [ups_ne (by omega)]; exact h3o y a b c d) (fun k h1 h2 => by
          by_cases h : k = b
          · subst h; exact hsp
          · exact hk k h1 (by omega))
  exact loop8 e hel (by omega) _ (by rw [ups_same]; exact he) (fun c hc => ups_cell hc) (fun y a _ _ _ => by rw [ups_ne (by omega)]) (fun k h1 h2 => absurd h1 (by omega))

