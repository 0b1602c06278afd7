theorem RR.back8 {M M2 σ : Mem} (hR : RR M σ) (h3 : toH (M2 3) = toH (M 1)) (h2 : ∀ c, c ≠ 1 → c ≠ 3 → c ≠ 7 → c ≠ 8 → M2 c = M c) : RR (cpyM M2 3 1 86) σ :=
  hR.scr (toH_cpy.trans h3) (fun c hc => by rw [cpyM_c (by unfold solid at hc; omega)]; exact h2 c (by unfold solid at hc; omega) (by unfold solid at hc; omega) (by unfold solid at hc; omega) (by unfold solid at hc; omega)) (by rw [cpyM_c (by decide), h2 0 (by decide) (by decide) (by decide) (by decide)]) (by rw [cpyM_c (by decide), h2 0 (by decide) (by decide) (by decide) (by decide)])
theorem HJ.ofHR {M h : Mem} {n : Nat} (H : HR M h n) (J : HJ h n) : HJ M n := fun i hi => by
  rw [H.f 2 (by omega) (by omega) hi, H.f 3 (by omega) (by omega) hi, H.f 4 (by omega) (by omega) hi, H.f 7 (by omega) (by omega) hi, H.f 8 (by omega) (by omega) hi, H.f 9 (by omega) (by omega) hi]
  exact J i hi
theorem hoursH_hour {h : Mem} {n : Nat} : ∀ k : Nat, hoursH n k h 0 2 = h 0 2 + nI k
  | 0 => by show h 0 2 = h 0 2 + nI 0; rw [show nI 0 = 0 from rfl]; grind
  | k + 1 => by
    show hoursH n k h 0 2 + 1 = _
    rw [hoursH_hour k, ← nI_1]
    grind
def likeQ (A B : Mem) (n i : Nat) : Bool := decide (remI (nI (i + 1)) 2 = 0) && decide (gaveF (B 9) n = gaveF (A 9) n)
def likeG (A B : Mem) (r : Nat) : Bool := decide (A 8 r = B 8 r)
theorem likeP_eq {A : Mem} {n i : Nat} (H : HJ A n) (hn : n ≤ 8) (ho : 0 ≤ (A 0 1).toInt) : (likeQ A (hoursH n (i + 1) A) n i && allB (likeG A (hoursH n (i + 1) A)) n) = likeP A n (i + 1) := by
  rw [Bool.eq_iff_iff]
  unfold likeQ likeG likeP likeB
  rw [Bool.and_eq_true_iff, Bool.and_eq_true_iff, Bool.and_eq_true_iff, decide_eq_true_iff, decide_eq_true_iff, decide_eq_true_iff, allB_iff, allB_iff, gave_9 (H.hours hn ho (i + 1)) H hn, hoursH_hour, show A 0 2 + nI (i + 1) - A 0 2 = nI (i + 1) by grind]
  refine ⟨fun h => ⟨h.1.1, fun r hr => decide_eq_true ⟨(of_decide_eq_true (h.2 r hr)).symm, h.1.2 r hr⟩⟩, fun h => ⟨⟨h.1, fun r hr => (of_decide_eq_true (h.2 r hr)).2⟩, fun r hr => decide_eq_true (of_decide_eq_true (h.2 r hr)).1.symm⟩⟩
theorem and_s {q : Bool} {p : Nat → Bool} {r : Nat} : (q && allB p (r + 1)) = ((q && allB p r) && p r) := by
  show (q && (allB p r && p r)) = _
  rw [Bool.and_assoc]
theorem wall_hours2 {σ : Mem} (hI : Inv σ) (k : Nat) {i : Nat} (hi : i < nOf σ) : 0 < hoursH (nOf σ) k (hoursH (nOf σ) 24 σ) 4 i := by
  have h := (((hI.1.j.hours hI.n8 hI.1.2.2.1.1 24).hours hI.n8 (by rw [hoursH_out]; exact hI.1.2.2.1.1) k) i hi).2.2.1
  unfold rg at h
  rw [i32_lt]
  show (0 : Int) < _
  omega
set_option maxRecDepth 20000 in
theorem rf_circle {M σ : Mem}  (hR : RR M σ) (hI : Inv σ) {Q : Option Value → Mem → Prop} (hQ : ∀ u' M', PostR (opCircle σ) u' M' → Q u' M') : CT mX5_circle shR 8 [.ref 0] M Q := by
  refine CT.mk [some (.ref 0), none, none, none, none, none, none, none] (by decide) (Nat.le_of_ble_eq_true rfl) rfl rfl ?_
  refine G_aload_n (K := mX5_circle) (i := 0) dX5_circle_0 rfl rfl ?_
  refine G_cv (K := mX5_circle) (c_X5_isLate ⟨rfl, rfl⟩) vX5_isLate rfl lX5_182 dX5_circle_1 ⟨_, _, _, rfl, rfl, rfl⟩ (by decide) rfl (Nat.le_of_ble_eq_true rfl) ?_
  rw [hR.hour, late_B hI]
  refine G_if_eq (K := mX5_circle) (tgt := 14) dX5_circle_4 (by decide) (fun c4 => ?_) (fun c4 => ?_)
  · skip
    refine G_aload_n (K := mX5_circle) (i := 0) dX5_circle_14 rfl rfl ?_
    refine G_getr (K := mX5_circle) fX5_9 dX5_circle_15 rfl rfl ?_
    refine G_aload_n (K := mX5_circle) (i := 0) dX5_circle_18 rfl rfl ?_
    refine G_getr (K := mX5_circle) fX5_16 dX5_circle_19 rfl rfl ?_
    refine G_sn (K := mX5_circle) (c_X5_copyRow (a := 1) (b := 3) rfl rfl (by decide) ⟨rfl, rfl⟩) sX5_copyRow rfl lX5_93 dX5_circle_22 (by decide) rfl (Nat.le_of_ble_eq_true rfl) ?_
    refine G_aload_n (K := mX5_circle) (i := 0) dX5_circle_25 rfl rfl ?_
    refine G_bipush (K := mX5_circle) (v := 24) dX5_circle_26 (by decide) ?_
    refine G_call0 (K := mX5_circle) (as := [.int (nI 24)]) (r := 0) (Q' := fun v Mz => v = some (.int (hoursSum (nOf σ) 24 (toH (cpyM M 1 3 86 1)))) ∧ toH (Mz 1) = hoursH (nOf σ) 24 (toH (cpyM M 1 3 86 1)) ∧ ∀ c, c ≠ 1 → c ≠ 7 → Mz c = cpyM M 1 3 86 c) (c_X5_hoursGo (n := nOf σ) (k := 24) (by rw [cpyM_c (by decide)]; exact hR.n hI) hI.n8 (by omega) (by rw [cpyM_c (by decide)]; exact hR.wall hI) (fun Mz h1 h2 => ⟨rfl, h1, h2⟩)) vX5_hoursGo rfl lX5_164 ⟨_, _, _, rfl, rfl, rfl⟩ (by decide) (Nat.le_of_ble_eq_true rfl) dX5_circle_28 rfl ?_
    rintro v M2 ⟨rfl, h21, h22⟩
    rw [cpyM_c (by decide)] at h21
    rw [cpyM_c (by decide)]
    have hA2 : HR (toH (M2 1)) (aH σ 24) (nOf σ) := by rw [h21]; exact hoursH_congr hR.1 24
    have hn2 : M2 1 2 = nI (nOf σ) := by rw [← toH_n (M2 1), h21, hoursH_0]; exact hR.n hI
    have h23 : toH (M2 3) = toH (M 1) := by rw [h22 3 (by decide) (by decide)]; exact toH_cpy
    have h2c : ∀ c, c ≠ 1 → c ≠ 3 → c ≠ 7 → M2 c = M c := fun c a b d => by rw [h22 c a d, cpyM_c b]
    have hRb : RR (cpyM M2 3 1 86) σ := hR.back h23 (fun c a b d _ _ => h2c c a b d)
    refine G_istore_n (K := mX5_circle) (i := 1) dX5_circle_31 rfl (by decide) ?_
    refine G_aload_n (K := mX5_circle) (i := 0) dX5_circle_32 rfl rfl ?_
    refine G_cv (K := mX5_circle) (c_X5_gave (M := M2) (n := nOf σ) hn2 hI.n8 ⟨rfl, rfl⟩) vX5_gave rfl lX5_191 dX5_circle_33 ⟨_, _, _, rfl, rfl, rfl⟩ (by decide) rfl (Nat.le_of_ble_eq_true rfl) ?_
    have eg : gaveF (toH (M2 1) 9) (nOf σ) = gaveF ((hoursH (nOf σ) 24 σ) 9) (nOf σ) := gaveF_congr _ (fun r hr => hA2.f 9 (by omega) (by omega) hr)
    rw [eg]
    refine G_istore_n (K := mX5_circle) (i := 2) dX5_circle_36 rfl (by decide) ?_
    refine G_aload_n (K := mX5_circle) (i := 0) dX5_circle_37 rfl rfl ?_
    refine G_getr (K := mX5_circle) fX5_31 dX5_circle_38 rfl rfl ?_
    refine G_astore_n (K := mX5_circle) (i := 3) dX5_circle_41 rfl (by decide) ?_
    refine G_iconst (K := mX5_circle) (v := 0) dX5_circle_42 (by decide) ?_
    refine G_istore (K := mX5_circle) dX5_circle_43 (by decide) ?_
    have loop45 : ∀ i, i ≤ nOf σ → ∀ M3 : Mem, (∀ z, z ≠ 8 → M3 z = M2 z) → (∀ r, r < i → M3 8 r = (hoursH (nOf σ) 24 σ) 8 r) → G mX5_circle shR 8 Q 45 [some (.ref 0), some (.int (hoursSum (nOf σ) 24 (toH (M 1)))), some (.int (gaveF ((hoursH (nOf σ) 24 σ) 9) (nOf σ))), some (.ref 8), some (.int (nI i)), none, none, none] [] M3 := by
      refine upto (nOf σ) (fun i hi ih => ?_)
      intro M3 h3z h38
      have hn3 : M3 1 2 = nI (nOf σ) := by rw [h3z 1 (by decide)]; exact hn2
      refine G_iload (K := mX5_circle) dX5_circle_45 rfl ?_
      refine G_aload_n (K := mX5_circle) (i := 0) dX5_circle_47 rfl rfl ?_
      refine G_getr (K := mX5_circle) fX5_9 dX5_circle_48 rfl rfl ?_
      refine G_iconst (K := mX5_circle) (v := 2) dX5_circle_51 (by decide) ?_
      refine G_ld (K := mX5_circle) 2 dX5_circle_52 rfl rfl (by omega) (by decide) ?_
      refine G_icmp_ge (K := mX5_circle) (tgt := 74) dX5_circle_53 (by decide) (fun c53 => ?_) (fun c53 => ?_)
      · skip
        rw [hn3, le_nn (by have := hI.n8; omega) (by have := hI.n8; omega)] at c53
        have hin : i = nOf σ := by omega
        refine G_iconst (K := mX5_circle) (v := -1) dX5_circle_74 (by decide) ?_
        refine G_istore (K := mX5_circle) dX5_circle_75 (by decide) ?_
        refine G_iconst (K := mX5_circle) (v := 1) dX5_circle_77 (by decide) ?_
        refine G_istore (K := mX5_circle) dX5_circle_78 (by decide) ?_
        have loop80 : ∀ i : Nat, i ≤ 12 → ∀ (S is : Int32) (M3 : Mem) (x6 x7 : Option Value), rg S 0 (24 * (24 + i)) → HR (toH (M3 1)) (hoursH (nOf σ) i (hoursH (nOf σ) 24 σ)) (nOf σ) → toH (M3 3) = toH (M 1) → (∀ z, z ≠ 1 → z ≠ 3 → z ≠ 7 → z ≠ 8 → M3 z = M z) → (∀ r, r < nOf σ → M3 8 r = (hoursH (nOf σ) 24 σ) 8 r) → ((is = -1 ∧ ∀ j, j < i → likeP (hoursH (nOf σ) 24 σ) (nOf σ) (j + 1) = false) ∨ (∃ j, i = j + 1 ∧ is = nI (j + 1) ∧ likeP (hoursH (nOf σ) 24 σ) (nOf σ) (j + 1) = true ∧ ∀ q, q < j → likeP (hoursH (nOf σ) 24 σ) (nOf σ) (q + 1) = false)) → G mX5_circle shR 8 Q 80 [some (.ref 0), some (.int S), some (.int (gaveF ((hoursH (nOf σ) 24 σ) 9) (nOf σ))), some (.ref 8), some (.int is), some (.int (nI (i + 1))), x6, x7] [] M3 := by
          refine upto 12 (fun i hi ih => ?_)
          intro S is M3 x6 x7 hS hA3 h33 h3c h38 hrs
          have hn3 : M3 1 2 = nI (nOf σ) := (hA3.1 0 (by omega)).trans ((hoursH_0 _ _ _).trans ((hoursH_0 _ _ _).trans hI.nI))
          refine G_iload (K := mX5_circle) dX5_circle_80 rfl ?_
          refine G_bipush (K := mX5_circle) (v := 12) dX5_circle_82 (by decide) ?_
          refine G_icmp_gt (K := mX5_circle) (tgt := 189) dX5_circle_84 (by decide) (fun c84 => ?_) (fun c84 => ?_)
          · skip
            rw [show (12 : Int32) = nI 12 from rfl, lt_nn (by omega) (by omega)] at c84
            have hi1 : i = 12 := by omega
            have hRb : RR (cpyM M3 3 1 86) σ := hR.back8 h33 h3c
            refine G_aload_n (K := mX5_circle) (i := 0) dX5_circle_189 rfl rfl ?_
            refine G_iload_n (K := mX5_circle) (i := 1) dX5_circle_190 rfl rfl ?_
            refine G_if_ge (K := mX5_circle) (tgt := 198) dX5_circle_191 (by decide) (fun c191 => ?_) (fun c191 => ?_)
            · skip
              refine G_iload (K := mX5_circle) dX5_circle_198 rfl ?_
              refine G_cv (K := mX5_circle) (c_X5_putBack (M := M3) (v := _) ⟨rfl, rfl⟩) vX5_putBack rfl lX5_179 dX5_circle_200 ⟨_, _, _, rfl, rfl, rfl⟩ (by decide) rfl (Nat.le_of_ble_eq_true rfl) ?_
              refine G_if_ge (K := mX5_circle) (tgt := 215) dX5_circle_203 (by decide) (fun c203 => ?_) (fun c203 => ?_)
              · skip
                obtain ⟨j, rfl, his, hpj, hnj⟩ := hrs.resolve_left (fun z => by rw [z.1] at c203; exact absurd c203 (by decide))
                refine G_iload (K := mX5_circle) dX5_circle_215 rfl ?_
                exact G_iret (st := []) (K := mX5_circle) dX5_circle_217 rfl (hQ _ _ (by rw [show opCircle σ = orNone σ (findF (fun j => likeP (hoursH (nOf σ) 24 σ) (nOf σ) (j + 1)) 0 12) (fun j => nI (j + 1)) from if_neg (by rw [bI_0 c4]; decide), findF_0 (j := j) (by omega) hnj hpj, his]; exact ⟨rfl, hRb⟩))
              · skip
                have hno : ∀ j, j < 12 → likeP (hoursH (nOf σ) 24 σ) (nOf σ) (j + 1) = false := by
                  rcases hrs with ⟨-, h⟩ | ⟨j, h, h2, -⟩
                  · exact fun j hj => h j (by omega)
                  · rw [h2] at c203; exact absurd (by rw [i32_le, nI_toI (by omega)]; show (0 : Int) ≤ _; omega) c203
                refine G_aload_n (K := mX5_circle) (i := 0) dX5_circle_206 rfl rfl ?_
                refine G_ldc (K := mX5_circle) dX5_circle_207 kX5_186 ?_
                refine G_call0 (K := mX5_circle) (Q' := PostR (tl σ 3)) (rf_finding hRb (k := 3) (by omega) (fun _ _ h => h)) vX5_finding rfl lX5_109 ⟨_, _, _, rfl, rfl, rfl⟩ (by decide) (Nat.le_of_ble_eq_true rfl) dX5_circle_209 rfl ?_
                rintro v M1 ⟨rfl, hR1⟩
                refine G_goto (K := mX5_circle) (tgt := 217) dX5_circle_212 (by decide) ?_
                exact G_iret (st := []) (K := mX5_circle) dX5_circle_217 rfl (hQ _ _ (by rw [show opCircle σ = orNone σ (findF (fun j => likeP (hoursH (nOf σ) 24 σ) (nOf σ) (j + 1)) 0 12) (fun j => nI (j + 1)) from if_neg (by rw [bI_0 c4]; decide), findF_n0 hno]; exact ⟨rfl, hR1⟩))
            · skip
              exact absurd (by rw [i32_le]; exact hS.1) c191
          · skip
            rw [show (12 : Int32) = nI 12 from rfl, lt_nn (by omega) (by omega)] at c84
            refine G_iload (K := mX5_circle) dX5_circle_87 rfl ?_
            refine G_if_ge (K := mX5_circle) (tgt := 189) dX5_circle_89 (by decide) (fun c89 => ?_) (fun c89 => ?_)
            · skip
              have hRb : RR (cpyM M3 3 1 86) σ := hR.back8 h33 h3c
              refine G_aload_n (K := mX5_circle) (i := 0) dX5_circle_189 rfl rfl ?_
              refine G_iload_n (K := mX5_circle) (i := 1) dX5_circle_190 rfl rfl ?_
              refine G_if_ge (K := mX5_circle) (tgt := 198) dX5_circle_191 (by decide) (fun c191 => ?_) (fun c191 => ?_)
              · skip
                refine G_iload (K := mX5_circle) dX5_circle_198 rfl ?_
                refine G_cv (K := mX5_circle) (c_X5_putBack (M := M3) (v := _) ⟨rfl, rfl⟩) vX5_putBack rfl lX5_179 dX5_circle_200 ⟨_, _, _, rfl, rfl, rfl⟩ (by decide) rfl (Nat.le_of_ble_eq_true rfl) ?_
                refine G_if_ge (K := mX5_circle) (tgt := 215) dX5_circle_203 (by decide) (fun c203 => ?_) (fun c203 => ?_)
                · skip
                  obtain ⟨j, rfl, his, hpj, hnj⟩ := hrs.resolve_left (fun z => by rw [z.1] at c203; exact absurd c203 (by decide))
                  refine G_iload (K := mX5_circle) dX5_circle_215 rfl ?_
                  exact G_iret (st := []) (K := mX5_circle) dX5_circle_217 rfl (hQ _ _ (by rw [show opCircle σ = orNone σ (findF (fun j => likeP (hoursH (nOf σ) 24 σ) (nOf σ) (j + 1)) 0 12) (fun j => nI (j + 1)) from if_neg (by rw [bI_0 c4]; decide), findF_0 (j := j) (by omega) hnj hpj, his]; exact ⟨rfl, hRb⟩))
                · skip
                  exact absurd c89 c203
              · skip
                exact absurd (by rw [i32_le]; exact hS.1) c191
            · skip
              refine G_iload_n (K := mX5_circle) (i := 1) dX5_circle_92 rfl rfl ?_
              refine G_aload_n (K := mX5_circle) (i := 0) dX5_circle_93 rfl rfl ?_
              refine G_iconst (K := mX5_circle) (v := 1) dX5_circle_94 (by decide) ?_
              refine G_call0 (K := mX5_circle) (as := [.int (nI 1)]) (r := 0) (Q' := fun v Mz => v = some (.int (hoursSum (nOf σ) 1 (toH (M3 1)))) ∧ toH (Mz 1) = hoursH (nOf σ) 1 (toH (M3 1)) ∧ ∀ c, c ≠ 1 → c ≠ 7 → Mz c = M3 c) (c_X5_hoursGo (n := nOf σ) (k := 1) hn3 hI.n8 (by omega) (fun x hx => by rw [hA3.f 4 (by omega) (by omega) hx]; exact wall_hours2 hI i hx) (fun Mz h1 h2 => ⟨rfl, h1, h2⟩)) vX5_hoursGo rfl lX5_164 ⟨_, _, _, rfl, rfl, rfl⟩ (by decide) (Nat.le_of_ble_eq_true rfl) dX5_circle_95 rfl ?_
              rintro v M4 ⟨rfl, h41, h42⟩
              have hA4 : HR (toH (M4 1)) (hoursH (nOf σ) (i + 1) (hoursH (nOf σ) 24 σ)) (nOf σ) := by rw [h41]; exact hoursH_congr hA3 1
              have hn4 : M4 1 2 = nI (nOf σ) := (hA4.1 0 (by omega)).trans ((hoursH_0 _ _ _).trans ((hoursH_0 _ _ _).trans hI.nI))
              have h43 : toH (M4 3) = toH (M 1) := by rw [h42 3 (by decide) (by decide)]; exact h33
              have h4c : ∀ z, z ≠ 1 → z ≠ 3 → z ≠ 7 → z ≠ 8 → M4 z = M z := fun z a b d e => by rw [h42 z a d]; exact h3c z a b d e
              refine G_iadd (K := mX5_circle) dX5_circle_98 ?_
              refine G_istore_n (K := mX5_circle) (i := 1) dX5_circle_99 rfl (by decide) ?_
              refine G_iload (K := mX5_circle) dX5_circle_100 rfl ?_
              refine G_iconst (K := mX5_circle) (v := 2) dX5_circle_102 (by decide) ?_
              refine G_irem (K := mX5_circle) dX5_circle_103 (by decide) ?_
              refine G_if_ne (K := mX5_circle) (tgt := 119) dX5_circle_104 (by decide) (fun c104 => ?_) (fun c104 => ?_)
              · skip
                have hq0 : likeQ (hoursH (nOf σ) 24 σ) (hoursH (nOf σ) (i + 1) (hoursH (nOf σ) 24 σ)) (nOf σ) i = false := by unfold likeQ; rw [decide_eq_false (show ¬ remI (nI (i + 1)) 2 = 0 from c104)]; rfl
                refine G_iconst (K := mX5_circle) (v := 0) dX5_circle_119 (by decide) ?_
                refine G_istore (K := mX5_circle) dX5_circle_120 (by decide) ?_
                refine G_iconst (K := mX5_circle) (v := 0) dX5_circle_122 (by decide) ?_
                refine G_istore (K := mX5_circle) dX5_circle_123 (by decide) ?_
                have loop125 : ∀ r, r ≤ nOf σ → ∀ b : Int32, b = bI (likeQ (hoursH (nOf σ) 24 σ) (hoursH (nOf σ) (i + 1) (hoursH (nOf σ) 24 σ)) (nOf σ) i && allB (likeG (hoursH (nOf σ) 24 σ) (hoursH (nOf σ) (i + 1) (hoursH (nOf σ) 24 σ))) r) → G mX5_circle shR 8 Q 125 [some (.ref 0), some (.int (S + hoursSum (nOf σ) 1 (toH (M3 1)))), some (.int (gaveF ((hoursH (nOf σ) 24 σ) 9) (nOf σ))), some (.ref 8), some (.int is), some (.int (nI (i + 1))), some (.int b), some (.int (nI r))] [] M4 := by
                  refine upto (nOf σ) (fun r hr rh => ?_)
                  intro b hb
                  refine G_iload (K := mX5_circle) dX5_circle_125 rfl ?_
                  refine G_aload_n (K := mX5_circle) (i := 0) dX5_circle_127 rfl rfl ?_
                  refine G_getr (K := mX5_circle) fX5_9 dX5_circle_128 rfl rfl ?_
                  refine G_iconst (K := mX5_circle) (v := 2) dX5_circle_131 (by decide) ?_
                  refine G_ld (K := mX5_circle) 2 dX5_circle_132 rfl rfl (by omega) (by decide) ?_
                  refine G_icmp_ge (K := mX5_circle) (tgt := 169) dX5_circle_133 (by decide) (fun c133 => ?_) (fun c133 => ?_)
                  · skip
                    rw [hn4, le_nn (by have := hI.n8; omega) (by have := hI.n8; omega)] at c133
                    have hin : r = nOf σ := by omega
                    subst hin
                    rw [likeP_eq (hI.1.j.hours hI.n8 hI.1.2.2.1.1 24) hI.n8 (by rw [hoursH_out]; exact hI.1.2.2.1.1)] at hb
                    refine G_iload (K := mX5_circle) dX5_circle_169 rfl ?_
                    refine G_if_eq (K := mX5_circle) (tgt := 179) dX5_circle_171 (by decide) (fun c171 => ?_) (fun c171 => ?_)
                    · skip
                      have hp : likeP (hoursH (nOf σ) 24 σ) (nOf σ) (i + 1) = false := bI_0 (hb.symm.trans c171)
                      refine G_iload (K := mX5_circle) dX5_circle_179 rfl ?_
                      refine G_istore (K := mX5_circle) dX5_circle_181 (by decide) ?_
                      refine G_iincN (K := mX5_circle) dX5_circle_183 (by decide) rfl ?_
                      refine G_goto (K := mX5_circle) (tgt := 80) dX5_circle_186 (by decide) ?_
                      have his : is = -1 := by
                        rcases hrs with ⟨h, -⟩ | ⟨j, h, h2, -⟩
                        · exact h
                        · rw [h2] at c89; exact absurd (by rw [i32_le, nI_toI (by omega)]; show (0 : Int) ≤ _; omega) c89
                      have hno : ∀ j, j < i → likeP (hoursH (nOf σ) 24 σ) (nOf σ) (j + 1) = false := by
                        rcases hrs with ⟨-, h⟩ | ⟨j, h, h2, -⟩
                        · exact h
                        · rw [h2] at his; exact absurd (show nI (j + 1) < 0 by rw [his]; decide) (nI_pos (by omega))
                      refine ih (i + 1) (by omega) (by omega) _ _ M4 _ _ ?_ hA4 h43 h4c (fun x hx => by rw [h42 8 (by decide) (by decide)]; exact h38 x hx) ?_
                      · have h := hoursSum_rg (HJ.ofHR hA3 ((hI.1.j.hours hI.n8 hI.1.2.2.1.1 24).hours hI.n8 (by rw [hoursH_out]; exact hI.1.2.2.1.1) i)) hI.n8 (by rw [hA3.1 1 (by omega), hoursH_out, hoursH_out]; exact hI.1.2.2.1.1) 1 (by omega)
                        unfold rg at h hS ⊢
                        rw [add_I (by omega) (by omega)]
                        omega
                      · exact Or.inl ⟨his, fun j hj => by
                          by_cases h : j = i
                          · subst h; exact hp
                          · exact hno j (by omega)⟩
                    · skip
                      have hp : likeP (hoursH (nOf σ) 24 σ) (nOf σ) (i + 1) = true := bI_1 (fun z => c171 (hb.trans z))
                      refine G_iload (K := mX5_circle) dX5_circle_174 rfl ?_
                      refine G_goto (K := mX5_circle) (tgt := 181) dX5_circle_176 (by decide) ?_
                      refine G_istore (K := mX5_circle) dX5_circle_181 (by decide) ?_
                      refine G_iincN (K := mX5_circle) dX5_circle_183 (by decide) rfl ?_
                      refine G_goto (K := mX5_circle) (tgt := 80) dX5_circle_186 (by decide) ?_
                      have his : is = -1 := by
                        rcases hrs with ⟨h, -⟩ | ⟨j, h, h2, -⟩
                        · exact h
                        · rw [h2] at c89; exact absurd (by rw [i32_le, nI_toI (by omega)]; show (0 : Int) ≤ _; omega) c89
                      have hno : ∀ j, j < i → likeP (hoursH (nOf σ) 24 σ) (nOf σ) (j + 1) = false := by
                        rcases hrs with ⟨-, h⟩ | ⟨j, h, h2, -⟩
                        · exact h
                        · rw [h2] at his; exact absurd (show nI (j + 1) < 0 by rw [his]; decide) (nI_pos (by omega))
                      refine ih (i + 1) (by omega) (by omega) _ _ M4 _ _ ?_ hA4 h43 h4c (fun x hx => by rw [h42 8 (by decide) (by decide)]; exact h38 x hx) ?_
                      · have h := hoursSum_rg (HJ.ofHR hA3 ((hI.1.j.hours hI.n8 hI.1.2.2.1.1 24).hours hI.n8 (by rw [hoursH_out]; exact hI.1.2.2.1.1) i)) hI.n8 (by rw [hA3.1 1 (by omega), hoursH_out, hoursH_out]; exact hI.1.2.2.1.1) 1 (by omega)
                        unfold rg at h hS ⊢
                        rw [add_I (by omega) (by omega)]
                        omega
                      · exact Or.inr ⟨i, rfl, rfl, hp, hno⟩
                  · skip
                    rw [hn4, le_nn (by have := hI.n8; omega) (by have := hI.n8; omega)] at c133
                    have hn8 := hI.n8
                    refine G_iload (K := mX5_circle) dX5_circle_136 rfl ?_
                    refine G_if_eq (K := mX5_circle) (tgt := 160) dX5_circle_138 (by decide) (fun c138 => ?_) (fun c138 => ?_)
                    · skip
                      have hX : (likeQ (hoursH (nOf σ) 24 σ) (hoursH (nOf σ) (i + 1) (hoursH (nOf σ) 24 σ)) (nOf σ) i && allB (likeG (hoursH (nOf σ) 24 σ) (hoursH (nOf σ) (i + 1) (hoursH (nOf σ) 24 σ))) r) = false := bI_0 (hb.symm.trans c138)
                      refine G_iconst (K := mX5_circle) (v := 0) dX5_circle_160 (by decide) ?_
                      refine G_istore (K := mX5_circle) dX5_circle_161 (by decide) ?_
                      refine G_iincN (K := mX5_circle) dX5_circle_163 (by decide) rfl ?_
                      refine G_goto (K := mX5_circle) (tgt := 125) dX5_circle_166 (by decide) ?_
                      exact rh (r + 1) (by omega) (by omega) _ (by rw [and_s, hX]; rfl)
                    · skip
                      have hX : (likeQ (hoursH (nOf σ) 24 σ) (hoursH (nOf σ) (i + 1) (hoursH (nOf σ) 24 σ)) (nOf σ) i && allB (likeG (hoursH (nOf σ) 24 σ) (hoursH (nOf σ) (i + 1) (hoursH (nOf σ) 24 σ))) r) = true := bI_1 (fun z => c138 (hb.trans z))
                      refine G_aload_n (K := mX5_circle) (i := 3) dX5_circle_141 rfl rfl ?_
                      refine G_iload (K := mX5_circle) dX5_circle_142 rfl ?_
                      refine G_ld (K := mX5_circle) r dX5_circle_144 rfl rfl (by omega) (by decide) ?_
                      refine G_aload_n (K := mX5_circle) (i := 0) dX5_circle_145 rfl rfl ?_
                      refine G_iload (K := mX5_circle) dX5_circle_146 rfl ?_
                      refine G_bipush (K := mX5_circle) (v := 7) dX5_circle_148 (by decide) ?_
                      refine G_cv (K := mX5_circle) (c_X5_roomIs (M := M4) (i := r) (f := 7) (by have := hI.n8; omega) (by omega) ⟨rfl, rfl⟩) vX5_roomIs rfl lX5_120 dX5_circle_150 ⟨_, _, _, rfl, rfl, rfl⟩ (by decide) rfl (Nat.le_of_ble_eq_true rfl) ?_
                      rw [show M4 8 r = (hoursH (nOf σ) 24 σ) 8 r from by rw [h42 8 (by decide) (by decide)]; exact h38 r (by omega), show toH (M4 1) (1 + 7) r = (hoursH (nOf σ) (i + 1) (hoursH (nOf σ) 24 σ)) 8 r from hA4.f 8 (by omega) (by omega) (by omega)]
                      refine G_icmp_ne (K := mX5_circle) (tgt := 160) dX5_circle_153 (by decide) (fun c153 => ?_) (fun c153 => ?_)
                      · skip
                        have hY : (likeG (hoursH (nOf σ) 24 σ) (hoursH (nOf σ) (i + 1) (hoursH (nOf σ) 24 σ))) r = false := decide_eq_false c153
                        refine G_iconst (K := mX5_circle) (v := 0) dX5_circle_160 (by decide) ?_
                        refine G_istore (K := mX5_circle) dX5_circle_161 (by decide) ?_
                        refine G_iincN (K := mX5_circle) dX5_circle_163 (by decide) rfl ?_
                        refine G_goto (K := mX5_circle) (tgt := 125) dX5_circle_166 (by decide) ?_
                        exact rh (r + 1) (by omega) (by omega) _ (by rw [and_s, hX, hY]; rfl)
                      · skip
                        have hY : (likeG (hoursH (nOf σ) 24 σ) (hoursH (nOf σ) (i + 1) (hoursH (nOf σ) 24 σ))) r = true := decide_eq_true c153
                        refine G_iconst (K := mX5_circle) (v := 1) dX5_circle_156 (by decide) ?_
                        refine G_goto (K := mX5_circle) (tgt := 161) dX5_circle_157 (by decide) ?_
                        refine G_istore (K := mX5_circle) dX5_circle_161 (by decide) ?_
                        refine G_iincN (K := mX5_circle) dX5_circle_163 (by decide) rfl ?_
                        refine G_goto (K := mX5_circle) (tgt := 125) dX5_circle_166 (by decide) ?_
                        exact rh (r + 1) (by omega) (by omega) _ (by rw [and_s, hX, hY]; rfl)
                exact loop125 0 (by omega) _ (by rw [hq0]; rfl)
              · skip
                refine G_aload_n (K := mX5_circle) (i := 0) dX5_circle_107 rfl rfl ?_
                refine G_cv (K := mX5_circle) (c_X5_gave (M := M4) (n := nOf σ) hn4 hI.n8 ⟨rfl, rfl⟩) vX5_gave rfl lX5_191 dX5_circle_108 ⟨_, _, _, rfl, rfl, rfl⟩ (by decide) rfl (Nat.le_of_ble_eq_true rfl) ?_
                have eg4 : gaveF (toH (M4 1) 9) (nOf σ) = gaveF ((hoursH (nOf σ) (i + 1) (hoursH (nOf σ) 24 σ)) 9) (nOf σ) := gaveF_congr _ (fun r hr => hA4.f 9 (by omega) (by omega) hr)
                rw [eg4]
                refine G_iload_n (K := mX5_circle) (i := 2) dX5_circle_111 rfl rfl ?_
                refine G_icmp_ne (K := mX5_circle) (tgt := 119) dX5_circle_112 (by decide) (fun c112 => ?_) (fun c112 => ?_)
                · skip
                  have hq0 : likeQ (hoursH (nOf σ) 24 σ) (hoursH (nOf σ) (i + 1) (hoursH (nOf σ) 24 σ)) (nOf σ) i = false := by unfold likeQ; rw [decide_eq_false c112, Bool.and_false]
                  refine G_iconst (K := mX5_circle) (v := 0) dX5_circle_119 (by decide) ?_
                  refine G_istore (K := mX5_circle) dX5_circle_120 (by decide) ?_
                  refine G_iconst (K := mX5_circle) (v := 0) dX5_circle_122 (by decide) ?_
                  refine G_istore (K := mX5_circle) dX5_circle_123 (by decide) ?_
                  have loop125 : ∀ r, r ≤ nOf σ → ∀ b : Int32, b = bI (likeQ (hoursH (nOf σ) 24 σ) (hoursH (nOf σ) (i + 1) (hoursH (nOf σ) 24 σ)) (nOf σ) i && allB (likeG (hoursH (nOf σ) 24 σ) (hoursH (nOf σ) (i + 1) (hoursH (nOf σ) 24 σ))) r) → G mX5_circle shR 8 Q 125 [some (.ref 0), some (.int (S + hoursSum (nOf σ) 1 (toH (M3 1)))), some (.int (gaveF ((hoursH (nOf σ) 24 σ) 9) (nOf σ))), some (.ref 8), some (.int is), some (.int (nI (i + 1))), some (.int b), some (.int (nI r))] [] M4 := by
                    refine upto (nOf σ) (fun r hr rh => ?_)
                    intro b hb
                    refine G_iload (K := mX5_circle) dX5_circle_125 rfl ?_
                    refine G_aload_n (K := mX5_circle) (i := 0) dX5_circle_127 rfl rfl ?_
                    refine G_getr (K := mX5_circle) fX5_9 dX5_circle_128 rfl rfl ?_
                    refine G_iconst (K := mX5_circle) (v := 2) dX5_circle_131 (by decide) ?_
                    refine G_ld (K := mX5_circle) 2 dX5_circle_132 rfl rfl (by omega) (by decide) ?_
                    refine G_icmp_ge (K := mX5_circle) (tgt := 169) dX5_circle_133 (by decide) (fun c133 => ?_) (fun c133 => ?_)
                    · skip
                      rw [hn4, le_nn (by have := hI.n8; omega) (by have := hI.n8; omega)] at c133
                      have hin : r = nOf σ := by omega
                      subst hin
                      rw [likeP_eq (hI.1.j.hours hI.n8 hI.1.2.2.1.1 24) hI.n8 (by rw [hoursH_out]; exact hI.1.2.2.1.1)] at hb
                      refine G_iload (K := mX5_circle) dX5_circle_169 rfl ?_
                      refine G_if_eq (K := mX5_circle) (tgt := 179) dX5_circle_171 (by decide) (fun c171 => ?_) (fun c171 => ?_)
                      · skip
                        have hp : likeP (hoursH (nOf σ) 24 σ) (nOf σ) (i + 1) = false := bI_0 (hb.symm.trans c171)
                        refine G_iload (K := mX5_circle) dX5_circle_179 rfl ?_
                        refine G_istore (K := mX5_circle) dX5_circle_181 (by decide) ?_
                        refine G_iincN (K := mX5_circle) dX5_circle_183 (by decide) rfl ?_
                        refine G_goto (K := mX5_circle) (tgt := 80) dX5_circle_186 (by decide) ?_
                        have his : is = -1 := by
                          rcases hrs with ⟨h, -⟩ | ⟨j, h, h2, -⟩
                          · exact h
                          · rw [h2] at c89; exact absurd (by rw [i32_le, nI_toI (by omega)]; show (0 : Int) ≤ _; omega) c89
                        have hno : ∀ j, j < i → likeP (hoursH (nOf σ) 24 σ) (nOf σ) (j + 1) = false := by
                          rcases hrs with ⟨-, h⟩ | ⟨j, h, h2, -⟩
                          · exact h
                          · rw [h2] at his; exact absurd (show nI (j + 1) < 0 by rw [his]; decide) (nI_pos (by omega))
                        refine ih (i + 1) (by omega) (by omega) _ _ M4 _ _ ?_ hA4 h43 h4c (fun x hx => by rw [h42 8 (by decide) (by decide)]; exact h38 x hx) ?_
                        · have h := hoursSum_rg (HJ.ofHR hA3 ((hI.1.j.hours hI.n8 hI.1.2.2.1.1 24).hours hI.n8 (by rw [hoursH_out]; exact hI.1.2.2.1.1) i)) hI.n8 (by rw [hA3.1 1 (by omega), hoursH_out, hoursH_out]; exact hI.1.2.2.1.1) 1 (by omega)
                          unfold rg at h hS ⊢
                          rw [add_I (by omega) (by omega)]
                          omega
                        · exact Or.inl ⟨his, fun j hj => by
                            by_cases h : j = i
                            · subst h; exact hp
                            · exact hno j (by omega)⟩
                      · skip
                        have hp : likeP (hoursH (nOf σ) 24 σ) (nOf σ) (i + 1) = true := bI_1 (fun z => c171 (hb.trans z))
                        refine G_iload (K := mX5_circle) dX5_circle_174 rfl ?_
                        refine G_goto (K := mX5_circle) (tgt := 181) dX5_circle_176 (by decide) ?_
                        refine G_istore (K := mX5_circle) dX5_circle_181 (by decide) ?_
                        refine G_iincN (K := mX5_circle) dX5_circle_183 (by decide) rfl ?_
                        refine G_goto (K := mX5_circle) (tgt := 80) dX5_circle_186 (by decide) ?_
                        have his : is = -1 := by
                          rcases hrs with ⟨h, -⟩ | ⟨j, h, h2, -⟩
                          · exact h
                          · rw [h2] at c89; exact absurd (by rw [i32_le, nI_toI (by omega)]; show (0 : Int) ≤ _; omega) c89
                        have hno : ∀ j, j < i → likeP (hoursH (nOf σ) 24 σ) (nOf σ) (j + 1) = false := by
                          rcases hrs with ⟨-, h⟩ | ⟨j, h, h2, -⟩
                          · exact h
                          · rw [h2] at his; exact absurd (show nI (j + 1) < 0 by rw [his]; decide) (nI_pos (by omega))
                        refine ih (i + 1) (by omega) (by omega) _ _ M4 _ _ ?_ hA4 h43 h4c (fun x hx => by rw [h42 8 (by decide) (by decide)]; exact h38 x hx) ?_
                        · have h := hoursSum_rg (HJ.ofHR hA3 ((hI.1.j.hours hI.n8 hI.1.2.2.1.1 24).hours hI.n8 (by rw [hoursH_out]; exact hI.1.2.2.1.1) i)) hI.n8 (by rw [hA3.1 1 (by omega), hoursH_out, hoursH_out]; exact hI.1.2.2.1.1) 1 (by omega)
                          unfold rg at h hS ⊢
                          rw [add_I (by omega) (by omega)]
                          omega
                        · exact Or.inr ⟨i, rfl, rfl, hp, hno⟩
                    · skip
                      rw [hn4, le_nn (by have := hI.n8; omega) (by have := hI.n8; omega)] at c133
                      have hn8 := hI.n8
                      refine G_iload (K := mX5_circle) dX5_circle_136 rfl ?_
                      refine G_if_eq (K := mX5_circle) (tgt := 160) dX5_circle_138 (by decide) (fun c138 => ?_) (fun c138 => ?_)
                      · skip
                        have hX : (likeQ (hoursH (nOf σ) 24 σ) (hoursH (nOf σ) (i + 1) (hoursH (nOf σ) 24 σ)) (nOf σ) i && allB (likeG (hoursH (nOf σ) 24 σ) (hoursH (nOf σ) (i + 1) (hoursH (nOf σ) 24 σ))) r) = false := bI_0 (hb.symm.trans c138)
                        refine G_iconst (K := mX5_circle) (v := 0) dX5_circle_160 (by decide) ?_
                        refine G_istore (K := mX5_circle) dX5_circle_161 (by decide) ?_
                        refine G_iincN (K := mX5_circle) dX5_circle_163 (by decide) rfl ?_
                        refine G_goto (K := mX5_circle) (tgt := 125) dX5_circle_166 (by decide) ?_
                        exact rh (r + 1) (by omega) (by omega) _ (by rw [and_s, hX]; rfl)
                      · skip
                        have hX : (likeQ (hoursH (nOf σ) 24 σ) (hoursH (nOf σ) (i + 1) (hoursH (nOf σ) 24 σ)) (nOf σ) i && allB (likeG (hoursH (nOf σ) 24 σ) (hoursH (nOf σ) (i + 1) (hoursH (nOf σ) 24 σ))) r) = true := bI_1 (fun z => c138 (hb.trans z))
                        refine G_aload_n (K := mX5_circle) (i := 3) dX5_circle_141 rfl rfl ?_
                        refine G_iload (K := mX5_circle) dX5_circle_142 rfl ?_
                        refine G_ld (K := mX5_circle) r dX5_circle_144 rfl rfl (by omega) (by decide) ?_
                        refine G_aload_n (K := mX5_circle) (i := 0) dX5_circle_145 rfl rfl ?_
                        refine G_iload (K := mX5_circle) dX5_circle_146 rfl ?_
                        refine G_bipush (K := mX5_circle) (v := 7) dX5_circle_148 (by decide) ?_
                        refine G_cv (K := mX5_circle) (c_X5_roomIs (M := M4) (i := r) (f := 7) (by have := hI.n8; omega) (by omega) ⟨rfl, rfl⟩) vX5_roomIs rfl lX5_120 dX5_circle_150 ⟨_, _, _, rfl, rfl, rfl⟩ (by decide) rfl (Nat.le_of_ble_eq_true rfl) ?_
                        rw [show M4 8 r = (hoursH (nOf σ) 24 σ) 8 r from by rw [h42 8 (by decide) (by decide)]; exact h38 r (by omega), show toH (M4 1) (1 + 7) r = (hoursH (nOf σ) (i + 1) (hoursH (nOf σ) 24 σ)) 8 r from hA4.f 8 (by omega) (by omega) (by omega)]
                        refine G_icmp_ne (K := mX5_circle) (tgt := 160) dX5_circle_153 (by decide) (fun c153 => ?_) (fun c153 => ?_)
                        · skip
                          have hY : (likeG (hoursH (nOf σ) 24 σ) (hoursH (nOf σ) (i + 1) (hoursH (nOf σ) 24 σ))) r = false := decide_eq_false c153
                          refine G_iconst (K := mX5_circle) (v := 0) dX5_circle_160 (by decide) ?_
                          refine G_istore (K := mX5_circle) dX5_circle_161 (by decide) ?_
                          refine G_iincN (K := mX5_circle) dX5_circle_163 (by decide) rfl ?_
                          refine G_goto (K := mX5_circle) (tgt := 125) dX5_circle_166 (by decide) ?_
                          exact rh (r + 1) (by omega) (by omega) _ (by rw [and_s, hX, hY]; rfl)
                        · skip
                          have hY : (likeG (hoursH (nOf σ) 24 σ) (hoursH (nOf σ) (i + 1) (hoursH (nOf σ) 24 σ))) r = true := decide_eq_true c153
                          refine G_iconst (K := mX5_circle) (v := 1) dX5_circle_156 (by decide) ?_
                          refine G_goto (K := mX5_circle) (tgt := 161) dX5_circle_157 (by decide) ?_
                          refine G_istore (K := mX5_circle) dX5_circle_161 (by decide) ?_
                          refine G_iincN (K := mX5_circle) dX5_circle_163 (by decide) rfl ?_
                          refine G_goto (K := mX5_circle) (tgt := 125) dX5_circle_166 (by decide) ?_
                          exact rh (r + 1) (by omega) (by omega) _ (by rw [and_s, hX, hY]; rfl)
                  exact loop125 0 (by omega) _ (by rw [hq0]; rfl)
                · skip
                  have hq0 : likeQ (hoursH (nOf σ) 24 σ) (hoursH (nOf σ) (i + 1) (hoursH (nOf σ) 24 σ)) (nOf σ) i = true := by unfold likeQ; rw [decide_eq_true c112, decide_eq_true (show remI (nI (i + 1)) 2 = 0 from c104)]; rfl
                  refine G_iconst (K := mX5_circle) (v := 1) dX5_circle_115 (by decide) ?_
                  refine G_goto (K := mX5_circle) (tgt := 120) dX5_circle_116 (by decide) ?_
                  refine G_istore (K := mX5_circle) dX5_circle_120 (by decide) ?_
                  refine G_iconst (K := mX5_circle) (v := 0) dX5_circle_122 (by decide) ?_
                  refine G_istore (K := mX5_circle) dX5_circle_123 (by decide) ?_
                  have loop125 : ∀ r, r ≤ nOf σ → ∀ b : Int32, b = bI (likeQ (hoursH (nOf σ) 24 σ) (hoursH (nOf σ) (i + 1) (hoursH (nOf σ) 24 σ)) (nOf σ) i && allB (likeG (hoursH (nOf σ) 24 σ) (hoursH (nOf σ) (i + 1) (hoursH (nOf σ) 24 σ))) r) → G mX5_circle shR 8 Q 125 [some (.ref 0), some (.int (S + hoursSum (nOf σ) 1 (toH (M3 1)))), some (.int (gaveF ((hoursH (nOf σ) 24 σ) 9) (nOf σ))), some (.ref 8), some (.int is), some (.int (nI (i + 1))), some (.int b), some (.int (nI r))] [] M4 := by
                    refine upto (nOf σ) (fun r hr rh => ?_)
                    intro b hb
                    refine G_iload (K := mX5_circle) dX5_circle_125 rfl ?_
                    refine G_aload_n (K := mX5_circle) (i := 0) dX5_circle_127 rfl rfl ?_
                    refine G_getr (K := mX5_circle) fX5_9 dX5_circle_128 rfl rfl ?_
                    refine G_iconst (K := mX5_circle) (v := 2) dX5_circle_131 (by decide) ?_
                    refine G_ld (K := mX5_circle) 2 dX5_circle_132 rfl rfl (by omega) (by decide) ?_
                    refine G_icmp_ge (K := mX5_circle) (tgt := 169) dX5_circle_133 (by decide) (fun c133 => ?_) (fun c133 => ?_)
                    · skip
                      rw [hn4, le_nn (by have := hI.n8; omega) (by have := hI.n8; omega)] at c133
                      have hin : r = nOf σ := by omega
                      subst hin
                      rw [likeP_eq (hI.1.j.hours hI.n8 hI.1.2.2.1.1 24) hI.n8 (by rw [hoursH_out]; exact hI.1.2.2.1.1)] at hb
                      refine G_iload (K := mX5_circle) dX5_circle_169 rfl ?_
                      refine G_if_eq (K := mX5_circle) (tgt := 179) dX5_circle_171 (by decide) (fun c171 => ?_) (fun c171 => ?_)
                      · skip
                        have hp : likeP (hoursH (nOf σ) 24 σ) (nOf σ) (i + 1) = false := bI_0 (hb.symm.trans c171)
                        refine G_iload (K := mX5_circle) dX5_circle_179 rfl ?_
                        refine G_istore (K := mX5_circle) dX5_circle_181 (by decide) ?_
                        refine G_iincN (K := mX5_circle) dX5_circle_183 (by decide) rfl ?_
                        refine G_goto (K := mX5_circle) (tgt := 80) dX5_circle_186 (by decide) ?_
                        have his : is = -1 := by
                          rcases hrs with ⟨h, -⟩ | ⟨j, h, h2, -⟩
                          · exact h
                          · rw [h2] at c89; exact absurd (by rw [i32_le, nI_toI (by omega)]; show (0 : Int) ≤ _; omega) c89
                        have hno : ∀ j, j < i → likeP (hoursH (nOf σ) 24 σ) (nOf σ) (j + 1) = false := by
                          rcases hrs with ⟨-, h⟩ | ⟨j, h, h2, -⟩
                          · exact h
                          · rw [h2] at his; exact absurd (show nI (j + 1) < 0 by rw [his]; decide) (nI_pos (by omega))
                        refine ih (i + 1) (by omega) (by omega) _ _ M4 _ _ ?_ hA4 h43 h4c (fun x hx => by rw [h42 8 (by decide) (by decide)]; exact h38 x hx) ?_
                        · have h := hoursSum_rg (HJ.ofHR hA3 ((hI.1.j.hours hI.n8 hI.1.2.2.1.1 24).hours hI.n8 (by rw [hoursH_out]; exact hI.1.2.2.1.1) i)) hI.n8 (by rw [hA3.1 1 (by omega), hoursH_out, hoursH_out]; exact hI.1.2.2.1.1) 1 (by omega)
                          unfold rg at h hS ⊢
                          rw [add_I (by omega) (by omega)]
                          omega
                        · exact Or.inl ⟨his, fun j hj => by
                            by_cases h : j = i
                            · subst h; exact hp
                            · exact hno j (by omega)⟩
                      · skip
                        have hp : likeP (hoursH (nOf σ) 24 σ) (nOf σ) (i + 1) = true := bI_1 (fun z => c171 (hb.trans z))
                        refine G_iload (K := mX5_circle) dX5_circle_174 rfl ?_
                        refine G_goto (K := mX5_circle) (tgt := 181) dX5_circle_176 (by decide) ?_
                        refine G_istore (K := mX5_circle) dX5_circle_181 (by decide) ?_
                        refine G_iincN (K := mX5_circle) dX5_circle_183 (by decide) rfl ?_
                        refine G_goto (K := mX5_circle) (tgt := 80) dX5_circle_186 (by decide) ?_
                        have his : is = -1 := by
                          rcases hrs with ⟨h, -⟩ | ⟨j, h, h2, -⟩
                          · exact h
                          · rw [h2] at c89; exact absurd (by rw [i32_le, nI_toI (by omega)]; show (0 : Int) ≤ _; omega) c89
                        have hno : ∀ j, j < i → likeP (hoursH (nOf σ) 24 σ) (nOf σ) (j + 1) = false := by
                          rcases hrs with ⟨-, h⟩ | ⟨j, h, h2, -⟩
                          · exact h
                          · rw [h2] at his; exact absurd (show nI (j + 1) < 0 by rw [his]; decide) (nI_pos (by omega))
                        refine ih (i + 1) (by omega) (by omega) _ _ M4 _ _ ?_ hA4 h43 h4c (fun x hx => by rw [h42 8 (by decide) (by decide)]; exact h38 x hx) ?_
                        · have h := hoursSum_rg (HJ.ofHR hA3 ((hI.1.j.hours hI.n8 hI.1.2.2.1.1 24).hours hI.n8 (by rw [hoursH_out]; exact hI.1.2.2.1.1) i)) hI.n8 (by rw [hA3.1 1 (by omega), hoursH_out, hoursH_out]; exact hI.1.2.2.1.1) 1 (by omega)
                          unfold rg at h hS ⊢
                          rw [add_I (by omega) (by omega)]
                          omega
                        · exact Or.inr ⟨i, rfl, rfl, hp, hno⟩
                    · skip
                      rw [hn4, le_nn (by have := hI.n8; omega) (by have := hI.n8; omega)] at c133
                      have hn8 := hI.n8
                      refine G_iload (K := mX5_circle) dX5_circle_136 rfl ?_
                      refine G_if_eq (K := mX5_circle) (tgt := 160) dX5_circle_138 (by decide) (fun c138 => ?_) (fun c138 => ?_)
                      · skip
                        have hX : (likeQ (hoursH (nOf σ) 24 σ) (hoursH (nOf σ) (i + 1) (hoursH (nOf σ) 24 σ)) (nOf σ) i && allB (likeG (hoursH (nOf σ) 24 σ) (hoursH (nOf σ) (i + 1) (hoursH (nOf σ) 24 σ))) r) = false := bI_0 (hb.symm.trans c138)
                        refine G_iconst (K := mX5_circle) (v := 0) dX5_circle_160 (by decide) ?_
                        refine G_istore (K := mX5_circle) dX5_circle_161 (by decide) ?_
                        refine G_iincN (K := mX5_circle) dX5_circle_163 (by decide) rfl ?_
                        refine G_goto (K := mX5_circle) (tgt := 125) dX5_circle_166 (by decide) ?_
                        exact rh (r + 1) (by omega) (by omega) _ (by rw [and_s, hX]; rfl)
                      · skip
                        have hX : (likeQ (hoursH (nOf σ) 24 σ) (hoursH (nOf σ) (i + 1) (hoursH (nOf σ) 24 σ)) (nOf σ) i && allB (likeG (hoursH (nOf σ) 24 σ) (hoursH (nOf σ) (i + 1) (hoursH (nOf σ) 24 σ))) r) = true := bI_1 (fun z => c138 (hb.trans z))
                        refine G_aload_n (K := mX5_circle) (i := 3) dX5_circle_141 rfl rfl ?_
                        refine G_iload (K := mX5_circle) dX5_circle_142 rfl ?_
                        refine G_ld (K := mX5_circle) r dX5_circle_144 rfl rfl (by omega) (by decide) ?_
                        refine G_aload_n (K := mX5_circle) (i := 0) dX5_circle_145 rfl rfl ?_
                        refine G_iload (K := mX5_circle) dX5_circle_146 rfl ?_
                        refine G_bipush (K := mX5_circle) (v := 7) dX5_circle_148 (by decide) ?_
                        refine G_cv (K := mX5_circle) (c_X5_roomIs (M := M4) (i := r) (f := 7) (by have := hI.n8; omega) (by omega) ⟨rfl, rfl⟩) vX5_roomIs rfl lX5_120 dX5_circle_150 ⟨_, _, _, rfl, rfl, rfl⟩ (by decide) rfl (Nat.le_of_ble_eq_true rfl) ?_
                        rw [show M4 8 r = (hoursH (nOf σ) 24 σ) 8 r from by rw [h42 8 (by decide) (by decide)]; exact h38 r (by omega), show toH (M4 1) (1 + 7) r = (hoursH (nOf σ) (i + 1) (hoursH (nOf σ) 24 σ)) 8 r from hA4.f 8 (by omega) (by omega) (by omega)]
                        refine G_icmp_ne (K := mX5_circle) (tgt := 160) dX5_circle_153 (by decide) (fun c153 => ?_) (fun c153 => ?_)
                        · skip
                          have hY : (likeG (hoursH (nOf σ) 24 σ) (hoursH (nOf σ) (i + 1) (hoursH (nOf σ) 24 σ))) r = false := decide_eq_false c153
                          refine G_iconst (K := mX5_circle) (v := 0) dX5_circle_160 (by decide) ?_
                          refine G_istore (K := mX5_circle) dX5_circle_161 (by decide) ?_
                          refine G_iincN (K := mX5_circle) dX5_circle_163 (by decide) rfl ?_
                          refine G_goto (K := mX5_circle) (tgt := 125) dX5_circle_166 (by decide) ?_
                          exact rh (r + 1) (by omega) (by omega) _ (by rw [and_s, hX, hY]; rfl)
                        · skip
                          have hY : (likeG (hoursH (nOf σ) 24 σ) (hoursH (nOf σ) (i + 1) (hoursH (nOf σ) 24 σ))) r = true := decide_eq_true c153
                          refine G_iconst (K := mX5_circle) (v := 1) dX5_circle_156 (by decide) ?_
                          refine G_goto (K := mX5_circle) (tgt := 161) dX5_circle_157 (by decide) ?_
                          refine G_istore (K := mX5_circle) dX5_circle_161 (by decide) ?_
                          refine G_iincN (K := mX5_circle) dX5_circle_163 (by decide) rfl ?_
                          refine G_goto (K := mX5_circle) (tgt := 125) dX5_circle_166 (by decide) ?_
                          exact rh (r + 1) (by omega) (by omega) _ (by rw [and_s, hX, hY]; rfl)
                  exact loop125 0 (by omega) _ (by rw [hq0]; rfl)
        refine loop80 0 (by omega) _ _ M3 _ _ ?_ (by rw [h3z 1 (by decide)]; exact hA2) (by rw [h3z 3 (by decide)]; exact h23) (fun z a b d e => by rw [h3z z e]; exact h2c z a b d) (fun r hr => h38 r (by omega)) (Or.inl ⟨rfl, fun j hj => absurd hj (by omega)⟩)
        have h := hoursSum_rg (hR.hj hI) hI.n8 (hR.ho hI) 24 (by omega)
        unfold rg at h ⊢
        omega
      · skip
        rw [hn3, le_nn (by have := hI.n8; omega) (by have := hI.n8; omega)] at c53
        have hn8 := hI.n8
        refine G_aload_n (K := mX5_circle) (i := 3) dX5_circle_56 rfl rfl ?_
        refine G_iload (K := mX5_circle) dX5_circle_57 rfl ?_
        refine G_aload_n (K := mX5_circle) (i := 0) dX5_circle_59 rfl rfl ?_
        refine G_iload (K := mX5_circle) dX5_circle_60 rfl ?_
        refine G_bipush (K := mX5_circle) (v := 7) dX5_circle_62 (by decide) ?_
        refine G_cv (K := mX5_circle) (c_X5_roomIs (M := M3) (i := i) (f := 7) (by have := hI.n8; omega) (by omega) ⟨rfl, rfl⟩) vX5_roomIs rfl lX5_120 dX5_circle_64 ⟨_, _, _, rfl, rfl, rfl⟩ (by decide) rfl (Nat.le_of_ble_eq_true rfl) ?_
        refine G_sto (K := mX5_circle) i dX5_circle_67 rfl rfl (by omega) (by decide) ?_
        refine G_iincN (K := mX5_circle) dX5_circle_68 (by decide) rfl ?_
        refine G_goto (K := mX5_circle) (tgt := 45) dX5_circle_71 (by decide) ?_
        refine ih (i + 1) (by omega) (by omega) _ (fun z hz => (ups_cell hz).trans (h3z z hz)) (fun r hr => ?_)
        by_cases hri : r = i
        · subst hri; rw [ups_same, h3z 1 (by decide)]; exact hA2.f 8 (by omega) (by omega) (by omega)
        · rw [ups_ne (fun z => hri z.2)]; exact h38 r (by omega)
    exact loop45 0 (by omega) M2 (fun _ _ => rfl) (fun r hr => absurd hr (by omega))
  · skip
    refine G_aload_n (K := mX5_circle) (i := 0) dX5_circle_7 rfl rfl ?_
    refine G_ldc (K := mX5_circle) dX5_circle_8 kX5_163 ?_
    refine G_call0 (K := mX5_circle) (Q' := PostR (tl σ 4)) (rf_finding hR (k := 4) (by omega) (fun _ _ h => h)) vX5_finding rfl lX5_109 ⟨_, _, _, rfl, rfl, rfl⟩ (by decide) (Nat.le_of_ble_eq_true rfl) dX5_circle_10 rfl ?_
    rintro v M1 ⟨rfl, hR1⟩
    exact G_iret (st := []) (K := mX5_circle) dX5_circle_13 rfl (hQ _ _ (by rw [show opCircle σ = _ from (by unfold opCircle; exact if_pos (bI_1 c4))]; exact ⟨rfl, hR1⟩))
