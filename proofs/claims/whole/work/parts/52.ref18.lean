def gaveF (f : Nat → Int32) : Nat → Int32
  | 0 => 0
  | k + 1 => 4 * gaveF f k + f k
theorem gaveF_congr {f g : Nat → Int32} : ∀ n, (∀ i, i < n → f i = g i) → gaveF f n = gaveF g n
  | 0, _ => rfl
  | n + 1, h => by
    show 4 * gaveF f n + f n = 4 * gaveF g n + g n
    rw [gaveF_congr n (fun i hi => h i (by omega)), h n (by omega)]
theorem pow4 {n : Nat} (hn : n ≤ 8) : (4 : Int) ^ n ≤ 65536 := by
  have h : n = 0 ∨ n = 1 ∨ n = 2 ∨ n = 3 ∨ n = 4 ∨ n = 5 ∨ n = 6 ∨ n = 7 ∨ n = 8 := by omega
  rcases h with rfl | rfl | rfl | rfl | rfl | rfl | rfl | rfl | rfl <;> decide
theorem gaveF_I {f : Nat → Int32} : ∀ n : Nat, n ≤ 8 → (∀ i, i < n → rg (f i) 0 3) → 0 ≤ (gaveF f n).toInt ∧ (gaveF f n).toInt < 4 ^ n ∧ ∀ m, n = m + 1 → (gaveF f n).toInt = 4 * (gaveF f m).toInt + (f m).toInt
  | 0, _, _ => ⟨show (0 : Int) ≤ (0 : Int32).toInt by decide, show (0 : Int32).toInt < (4 : Int) ^ 0 by decide, fun m h => by omega⟩
  | n + 1, hn, hf => by
    obtain ⟨h1, h2, -⟩ := gaveF_I n (by omega) (fun i hi => hf i (by omega))
    have h3 := hf n (by omega)
    unfold rg at h3
    have hp : (4 : Int) ^ (n + 1) = 4 * 4 ^ n := by rw [Int.pow_succ, Int.mul_comm]
    have hb := pow4 (n := n) (by omega)
    have e4 : (4 : Int32).toInt = 4 := rfl
    have em : ((4 : Int32) * gaveF f n).toInt = 4 * (gaveF f n).toInt := by rw [mul_I (by rw [e4]; omega) (by rw [e4]; omega), e4]
    have es : (gaveF f (n + 1)).toInt = 4 * (gaveF f n).toInt + (f n).toInt := by
      show ((4 : Int32) * gaveF f n + f n).toInt = _
      rw [add_I (by rw [em]; omega) (by rw [em]; omega), em]
    refine ⟨by rw [es]; omega, by rw [es, hp]; omega, fun m hm => ?_⟩
    have : n = m := by omega
    subst this
    exact es
theorem gaveF_inj {f g : Nat → Int32} : ∀ n : Nat, n ≤ 8 → (∀ i, i < n → rg (f i) 0 3) → (∀ i, i < n → rg (g i) 0 3) → gaveF f n = gaveF g n → ∀ i, i < n → f i = g i
  | 0, _, _, _, _, i, hi => absurd hi (by omega)
  | n + 1, hn, hf, hg, he, i, hi => by
    have e1 := (gaveF_I (n + 1) hn hf).2.2 n rfl
    have e2 := (gaveF_I (n + 1) hn hg).2.2 n rfl
    have h1 := hf n (by omega)
    have h2 := hg n (by omega)
    unfold rg at h1 h2
    rw [he] at e1
    have h3 : (f n).toInt = (g n).toInt := by omega
    have h4 : gaveF f n = gaveF g n := i32_ext (by omega)
    by_cases hin : i = n
    · subst hin; exact i32_ext h3
    · exact gaveF_inj n (by omega) (fun j hj => hf j (by omega)) (fun j hj => hg j (by omega)) h4 i (by omega)
theorem allB_iff {p : Nat → Bool} : ∀ n, allB p n = true ↔ ∀ i, i < n → p i = true
  | 0 => ⟨fun _ i hi => absurd hi (by omega), fun _ => rfl⟩
  | n + 1 => by
    show (allB p n && p n) = true ↔ _
    rw [Bool.and_eq_true_iff, allB_iff n]
    refine ⟨fun h i hi => ?_, fun h => ⟨fun i hi => h i (by omega), h n (by omega)⟩⟩
    by_cases hin : i = n
    · subst hin; exact h.2
    · exact h.1 i (by omega)
theorem gave_rest {h : Mem} {n : Nat} (H : HJ h n) (hn : n ≤ 8) (ho : 0 ≤ (h 0 1).toInt) : gaveF (hoursH n 1 h 9) n = gaveF (h 9) n ↔ restB h n = true := by
  have e : ∀ r, r < n → hoursH n 1 h 9 r = stokeH h r := fun r hr => by
    show hourH h n 9 r = _
    simp [hourH, hr]
  have H1 := H.hours hn ho 1
  unfold restB
  rw [allB_iff]
  refine ⟨fun he r hr => decide_eq_true ?_, fun he => gaveF_congr n (fun r hr => (e r hr).trans (of_decide_eq_true (he r hr)))⟩
  exact (e r hr).symm.trans (gaveF_inj n hn (fun i hi => (H1 i hi).2.2.2.2.2) (fun i hi => (H i hi).2.2.2.2.2) he r hr)
theorem gave_9 {h g : Mem} {n : Nat} (H : HJ h n) (G : HJ g n) (hn : n ≤ 8) : gaveF (h 9) n = gaveF (g 9) n ↔ ∀ i, i < n → h 9 i = g 9 i :=
  ⟨gaveF_inj n hn (fun i hi => (H i hi).2.2.2.2.2) (fun i hi => (G i hi).2.2.2.2.2), gaveF_congr n⟩
set_option maxRecDepth 20000 in
theorem c_X5_gave {M : Mem} {n : Nat} (hn : M 1 2 = nI n) (hn8 : n ≤ 8) {Q : Option Value → Mem → Prop} (hQ : Q (some (.int (gaveF (toH (M 1) 9) n))) M) : CT mX5_gave shR 2 [.ref 0] M Q := by
  refine CT.mk [some (.ref 0), none, none] (by decide) (Nat.le_of_ble_eq_true rfl) rfl rfl ?_
  refine G_iconst (K := mX5_gave) (v := 0) dX5_gave_0 (by decide) ?_
  refine G_istore_n (K := mX5_gave) (i := 1) dX5_gave_1 rfl (by decide) ?_
  refine G_iconst (K := mX5_gave) (v := 0) dX5_gave_2 (by decide) ?_
  refine G_istore_n (K := mX5_gave) (i := 2) dX5_gave_3 rfl (by decide) ?_
  have loop4 : ∀ i, i ≤ n → G mX5_gave shR 2 Q 4 [some (.ref 0), some (.int (gaveF (toH (M 1) 9) i)), some (.int (nI i))] [] M := by
    refine upto n (fun i hi ih => ?_)
    refine G_iload_n (K := mX5_gave) (i := 2) dX5_gave_4 rfl rfl ?_
    refine G_aload_n (K := mX5_gave) (i := 0) dX5_gave_5 rfl rfl ?_
    refine G_getr (K := mX5_gave) fX5_9 dX5_gave_6 rfl rfl ?_
    refine G_iconst (K := mX5_gave) (v := 2) dX5_gave_9 (by decide) ?_
    refine G_ld (K := mX5_gave) 2 dX5_gave_10 rfl rfl (by omega) (by decide) ?_
    refine G_icmp_ge (K := mX5_gave) (tgt := 32) dX5_gave_11 (by decide) (fun c11 => ?_) (fun c11 => ?_)
    · skip
      rw [hn, le_nn (by omega) (by omega)] at c11
      have hin : i = n := by omega
      subst hin
      refine G_iload_n (K := mX5_gave) (i := 1) dX5_gave_32 rfl rfl ?_
      exact G_irm (K := mX5_gave) dX5_gave_33 rfl rfl rfl hQ
    · skip
      rw [hn, le_nn (by omega) (by omega)] at c11
      refine G_iconst (K := mX5_gave) (v := 4) dX5_gave_14 (by decide) ?_
      refine G_iload_n (K := mX5_gave) (i := 1) dX5_gave_15 rfl rfl ?_
      refine G_imul (K := mX5_gave) dX5_gave_16 ?_
      refine G_aload_n (K := mX5_gave) (i := 0) dX5_gave_17 rfl rfl ?_
      refine G_iload_n (K := mX5_gave) (i := 2) dX5_gave_18 rfl rfl ?_
      refine G_bipush (K := mX5_gave) (v := 8) dX5_gave_19 (by decide) ?_
      refine G_cv (K := mX5_gave) (c_X5_roomIs (i := i) (f := 8) (by omega) (by omega) ⟨rfl, rfl⟩) vX5_roomIs rfl lX5_120 dX5_gave_21 ⟨_, _, _, rfl, rfl, rfl⟩ (by decide) rfl (Nat.le_of_ble_eq_true rfl) ?_
      refine G_iadd (K := mX5_gave) dX5_gave_24 ?_
      refine G_istore_n (K := mX5_gave) (i := 1) dX5_gave_25 rfl (by decide) ?_
      refine G_iincN (K := mX5_gave) dX5_gave_26 (by decide) rfl ?_
      refine G_goto (K := mX5_gave) (tgt := 4) dX5_gave_29 (by decide) ?_
      exact ih (i + 1) (by omega) (by omega)
  exact loop4 0 (by omega)

set_option maxRecDepth 20000 in
theorem rf_rest {M σ : Mem}  (hR : RR M σ) (hI : Inv σ) {Q : Option Value → Mem → Prop} (hQ : ∀ u' M', PostR (opRest σ) u' M' → Q u' M') : CT mX5_rest shR 8 [.ref 0] M Q := by
  refine CT.mk [some (.ref 0), none, none, none] (by decide) (Nat.le_of_ble_eq_true rfl) rfl rfl ?_
  refine G_aload_n (K := mX5_rest) (i := 0) dX5_rest_0 rfl rfl ?_
  refine G_cv (K := mX5_rest) (c_X5_isLate ⟨rfl, rfl⟩) vX5_isLate rfl lX5_182 dX5_rest_1 ⟨_, _, _, rfl, rfl, rfl⟩ (by decide) rfl (Nat.le_of_ble_eq_true rfl) ?_
  rw [hR.hour, late_B hI]
  refine G_if_eq (K := mX5_rest) (tgt := 14) dX5_rest_4 (by decide) (fun c4 => ?_) (fun c4 => ?_)
  · skip
    refine G_aload_n (K := mX5_rest) (i := 0) dX5_rest_14 rfl rfl ?_
    refine G_getr (K := mX5_rest) fX5_9 dX5_rest_15 rfl rfl ?_
    refine G_aload_n (K := mX5_rest) (i := 0) dX5_rest_18 rfl rfl ?_
    refine G_getr (K := mX5_rest) fX5_16 dX5_rest_19 rfl rfl ?_
    refine G_sn (K := mX5_rest) (c_X5_copyRow (a := 1) (b := 3) rfl rfl (by decide) ⟨rfl, rfl⟩) sX5_copyRow rfl lX5_93 dX5_rest_22 (by decide) rfl (Nat.le_of_ble_eq_true rfl) ?_
    refine G_iconst (K := mX5_rest) (v := 0) dX5_rest_25 (by decide) ?_
    refine G_istore_n (K := mX5_rest) (i := 1) dX5_rest_26 rfl (by decide) ?_
    refine G_iconst (K := mX5_rest) (v := 0) dX5_rest_27 (by decide) ?_
    refine G_istore_n (K := mX5_rest) (i := 2) dX5_rest_28 rfl (by decide) ?_
    have loop29 : ∀ i, i ≤ 60 → ∀ (rs : Int32) (M3 : Mem) (x3 : Option Value), HR (toH (M3 1)) (hoursH (nOf σ) i σ) (nOf σ) → toH (M3 3) = toH (M 1) → (∀ z, z ≠ 1 → z ≠ 3 → z ≠ 7 → M3 z = M z) → ((rs = 0 ∧ ∀ j, j < i → restB (hoursH (nOf σ) j σ) (nOf σ) = false) ∨ (rs = 1 ∧ ∃ j, i = j + 1 ∧ restB (hoursH (nOf σ) j σ) (nOf σ) = true ∧ ∀ q, q < j → restB (hoursH (nOf σ) q σ) (nOf σ) = false)) → G mX5_rest shR 8 Q 29 [some (.ref 0), some (.int (nI i)), some (.int rs), x3] [] M3 := by
      refine upto 60 (fun i hi ih => ?_)
      intro rs M3 x3 hA3 h33 h3c hrs
      have hn3 : M3 1 2 = nI (nOf σ) := (hA3.1 0 (by omega)).trans ((hoursH_0 _ _ _).trans hI.nI)
      refine G_iload_n (K := mX5_rest) (i := 1) dX5_rest_29 rfl rfl ?_
      refine G_bipush (K := mX5_rest) (v := 60) dX5_rest_30 (by decide) ?_
      refine G_icmp_ge (K := mX5_rest) (tgt := 70) dX5_rest_32 (by decide) (fun c32 => ?_) (fun c32 => ?_)
      · skip
        rw [show (60 : Int32) = nI 60 from rfl, le_nn (by omega) (by omega)] at c32
        have hi1 : i = 60 := by omega
        have hRb : RR (cpyM M3 3 1 86) σ := hR.back h33 (fun c a b d _ _ => h3c c a b d)
        refine G_aload_n (K := mX5_rest) (i := 0) dX5_rest_70 rfl rfl ?_
        refine G_iload_n (K := mX5_rest) (i := 2) dX5_rest_71 rfl rfl ?_
        refine G_if_eq (K := mX5_rest) (tgt := 79) dX5_rest_72 (by decide) (fun c72 => ?_) (fun c72 => ?_)
        · skip
          have hno : ∀ j, j < 60 → restB (hoursH (nOf σ) j σ) (nOf σ) = false := by
            rcases hrs with ⟨-, h⟩ | ⟨h, -⟩
            · exact fun j hj => h j (by omega)
            · rw [h] at c72; exact absurd c72 (by decide)
          refine G_iconst (K := mX5_rest) (v := 0) dX5_rest_79 (by decide) ?_
          refine G_cv (K := mX5_rest) (c_X5_putBack (M := M3) (v := _) ⟨rfl, rfl⟩) vX5_putBack rfl lX5_179 dX5_rest_80 ⟨_, _, _, rfl, rfl, rfl⟩ (by decide) rfl (Nat.le_of_ble_eq_true rfl) ?_
          refine G_if_ne (K := mX5_rest) (tgt := 95) dX5_rest_83 (by decide) (fun c83 => ?_) (fun c83 => ?_)
          · skip
            exact absurd rfl c83
          · skip
            refine G_aload_n (K := mX5_rest) (i := 0) dX5_rest_86 rfl rfl ?_
            refine G_ldc (K := mX5_rest) dX5_rest_87 kX5_186 ?_
            refine G_call0 (K := mX5_rest) (Q' := PostR (tl σ 3)) (rf_finding hRb (k := 3) (by omega) (fun _ _ h => h)) vX5_finding rfl lX5_109 ⟨_, _, _, rfl, rfl, rfl⟩ (by decide) (Nat.le_of_ble_eq_true rfl) dX5_rest_89 rfl ?_
            rintro v M1 ⟨rfl, hR1⟩
            refine G_goto (K := mX5_rest) (tgt := 96) dX5_rest_92 (by decide) ?_
            exact G_iret (st := []) (K := mX5_rest) dX5_rest_96 rfl (hQ _ _ (by rw [show opRest σ = orNone σ (findF (fun j => restB (hoursH (nOf σ) j σ) (nOf σ)) 0 60) (fun j => nI (j + 1)) from if_neg (by rw [bI_0 c4]; decide), findF_n0 hno]; exact ⟨rfl, hR1⟩))
        · skip
          obtain ⟨j, rfl, hpj, hnj⟩ := (hrs.resolve_left (fun z => c72 z.1)).2
          refine G_iload_n (K := mX5_rest) (i := 1) dX5_rest_75 rfl rfl ?_
          refine G_goto (K := mX5_rest) (tgt := 80) dX5_rest_76 (by decide) ?_
          refine G_cv (K := mX5_rest) (c_X5_putBack (M := M3) (v := _) ⟨rfl, rfl⟩) vX5_putBack rfl lX5_179 dX5_rest_80 ⟨_, _, _, rfl, rfl, rfl⟩ (by decide) rfl (Nat.le_of_ble_eq_true rfl) ?_
          refine G_if_ne (K := mX5_rest) (tgt := 95) dX5_rest_83 (by decide) (fun c83 => ?_) (fun c83 => ?_)
          · skip
            refine G_iload_n (K := mX5_rest) (i := 1) dX5_rest_95 rfl rfl ?_
            exact G_iret (st := []) (K := mX5_rest) dX5_rest_96 rfl (hQ _ _ (by rw [show opRest σ = orNone σ (findF (fun j => restB (hoursH (nOf σ) j σ) (nOf σ)) 0 60) (fun j => nI (j + 1)) from if_neg (by rw [bI_0 c4]; decide), findF_0 (j := j) (by omega) hnj hpj]; exact ⟨rfl, hRb⟩))
          · skip
            exact absurd c83 (nI_ne0 (by omega) (by omega))
      · skip
        rw [show (60 : Int32) = nI 60 from rfl, le_nn (by omega) (by omega)] at c32
        refine G_iload_n (K := mX5_rest) (i := 2) dX5_rest_35 rfl rfl ?_
        refine G_if_ne (K := mX5_rest) (tgt := 70) dX5_rest_36 (by decide) (fun c36 => ?_) (fun c36 => ?_)
        · skip
          have hRb : RR (cpyM M3 3 1 86) σ := hR.back h33 (fun c a b d _ _ => h3c c a b d)
          refine G_aload_n (K := mX5_rest) (i := 0) dX5_rest_70 rfl rfl ?_
          refine G_iload_n (K := mX5_rest) (i := 2) dX5_rest_71 rfl rfl ?_
          refine G_if_eq (K := mX5_rest) (tgt := 79) dX5_rest_72 (by decide) (fun c72 => ?_) (fun c72 => ?_)
          · skip
            exact absurd c72 c36
          · skip
            obtain ⟨j, rfl, hpj, hnj⟩ := (hrs.resolve_left (fun z => c72 z.1)).2
            refine G_iload_n (K := mX5_rest) (i := 1) dX5_rest_75 rfl rfl ?_
            refine G_goto (K := mX5_rest) (tgt := 80) dX5_rest_76 (by decide) ?_
            refine G_cv (K := mX5_rest) (c_X5_putBack (M := M3) (v := _) ⟨rfl, rfl⟩) vX5_putBack rfl lX5_179 dX5_rest_80 ⟨_, _, _, rfl, rfl, rfl⟩ (by decide) rfl (Nat.le_of_ble_eq_true rfl) ?_
            refine G_if_ne (K := mX5_rest) (tgt := 95) dX5_rest_83 (by decide) (fun c83 => ?_) (fun c83 => ?_)
            · skip
              refine G_iload_n (K := mX5_rest) (i := 1) dX5_rest_95 rfl rfl ?_
              exact G_iret (st := []) (K := mX5_rest) dX5_rest_96 rfl (hQ _ _ (by rw [show opRest σ = orNone σ (findF (fun j => restB (hoursH (nOf σ) j σ) (nOf σ)) 0 60) (fun j => nI (j + 1)) from if_neg (by rw [bI_0 c4]; decide), findF_0 (j := j) (by omega) hnj hpj]; exact ⟨rfl, hRb⟩))
            · skip
              exact absurd c83 (nI_ne0 (by omega) (by omega))
        · skip
          refine G_aload_n (K := mX5_rest) (i := 0) dX5_rest_39 rfl rfl ?_
          refine G_cv (K := mX5_rest) (c_X5_gave (M := M3) (n := nOf σ) hn3 hI.n8 ⟨rfl, rfl⟩) vX5_gave rfl lX5_191 dX5_rest_40 ⟨_, _, _, rfl, rfl, rfl⟩ (by decide) rfl (Nat.le_of_ble_eq_true rfl) ?_
          have eM3 : gaveF (toH (M3 1) 9) (nOf σ) = gaveF (hoursH (nOf σ) (i) σ 9) (nOf σ) := gaveF_congr _ (fun r hr => (hA3).f 9 (by omega) (by omega) hr)
          rw [eM3]
          refine G_istore_n (K := mX5_rest) (i := 3) dX5_rest_43 rfl (by decide) ?_
          refine G_aload_n (K := mX5_rest) (i := 0) dX5_rest_44 rfl rfl ?_
          refine G_iconst (K := mX5_rest) (v := 1) dX5_rest_45 (by decide) ?_
          refine G_call0 (K := mX5_rest) (as := [.int (nI 1)]) (r := 0) (Q' := fun v Mz => v = some (.int (hoursSum (nOf σ) 1 (toH (M3 1)))) ∧ toH (Mz 1) = hoursH (nOf σ) 1 (toH (M3 1)) ∧ ∀ c, c ≠ 1 → c ≠ 7 → Mz c = M3 c) (c_X5_hoursGo (n := nOf σ) (k := 1) hn3 hI.n8 (by omega) (fun x hx => by rw [hA3.f 4 (by omega) (by omega) hx]; exact wall_hours hI (i) hx) (fun Mz h1 h2 => ⟨rfl, h1, h2⟩)) vX5_hoursGo rfl lX5_164 ⟨_, _, _, rfl, rfl, rfl⟩ (by decide) (Nat.le_of_ble_eq_true rfl) dX5_rest_46 rfl ?_
          rintro v M4 ⟨rfl, h41, h42⟩
          have hA4 : HR (toH (M4 1)) (hoursH (nOf σ) (i + 1) σ) (nOf σ) := by rw [h41]; exact hoursH_congr hA3 1
          have hn4 : M4 1 2 = nI (nOf σ) := (hA4.1 0 (by omega)).trans ((hoursH_0 _ _ _).trans hI.nI)
          have h43 : toH (M4 3) = toH (M 1) := by rw [h42 3 (by decide) (by decide)]; exact h33
          have h4c : ∀ z, z ≠ 1 → z ≠ 3 → z ≠ 7 → M4 z = M z := fun z a b d => by rw [h42 z a d]; exact h3c z a b d
          refine G_pop (K := mX5_rest) dX5_rest_49 rfl ?_
          refine G_iincN (K := mX5_rest) dX5_rest_50 (by decide) rfl ?_
          refine G_aload_n (K := mX5_rest) (i := 0) dX5_rest_53 rfl rfl ?_
          refine G_cv (K := mX5_rest) (c_X5_gave (M := M4) (n := nOf σ) hn4 hI.n8 ⟨rfl, rfl⟩) vX5_gave rfl lX5_191 dX5_rest_54 ⟨_, _, _, rfl, rfl, rfl⟩ (by decide) rfl (Nat.le_of_ble_eq_true rfl) ?_
          have eM4 : gaveF (toH (M4 1) 9) (nOf σ) = gaveF (hoursH (nOf σ) (i + 1) σ 9) (nOf σ) := gaveF_congr _ (fun r hr => (hA4).f 9 (by omega) (by omega) hr)
          rw [eM4]
          refine G_iload_n (K := mX5_rest) (i := 3) dX5_rest_57 rfl rfl ?_
          refine G_icmp_ne (K := mX5_rest) (tgt := 65) dX5_rest_58 (by decide) (fun c58 => ?_) (fun c58 => ?_)
          · skip
            have hp : restB (hoursH (nOf σ) i σ) (nOf σ) = false := eq_false_of_ne_true (fun z => c58 ((gave_rest (hI.1.j.hours hI.n8 hI.1.2.2.1.1 i) hI.n8 (by rw [hoursH_out]; exact hI.1.2.2.1.1)).mpr z))
            refine G_iconst (K := mX5_rest) (v := 0) dX5_rest_65 (by decide) ?_
            refine G_istore_n (K := mX5_rest) (i := 2) dX5_rest_66 rfl (by decide) ?_
            refine G_goto (K := mX5_rest) (tgt := 29) dX5_rest_67 (by decide) ?_
            refine ih (i + 1) (by omega) (by omega) _ M4 _ hA4 h43 h4c ?_
            have hno : ∀ j, j < i → restB (hoursH (nOf σ) j σ) (nOf σ) = false := by
              rcases hrs with ⟨-, h⟩ | ⟨h, -⟩
              · exact h
              · rw [h] at c36; exact absurd c36 (by decide)
            exact Or.inl ⟨rfl, fun j hj => by
              by_cases h : j = i
              · subst h; exact hp
              · exact hno j (by omega)⟩
          · skip
            have hp : restB (hoursH (nOf σ) i σ) (nOf σ) = true := (gave_rest (hI.1.j.hours hI.n8 hI.1.2.2.1.1 i) hI.n8 (by rw [hoursH_out]; exact hI.1.2.2.1.1)).mp c58
            refine G_iconst (K := mX5_rest) (v := 1) dX5_rest_61 (by decide) ?_
            refine G_goto (K := mX5_rest) (tgt := 66) dX5_rest_62 (by decide) ?_
            refine G_istore_n (K := mX5_rest) (i := 2) dX5_rest_66 rfl (by decide) ?_
            refine G_goto (K := mX5_rest) (tgt := 29) dX5_rest_67 (by decide) ?_
            refine ih (i + 1) (by omega) (by omega) _ M4 _ hA4 h43 h4c ?_
            have hno : ∀ j, j < i → restB (hoursH (nOf σ) j σ) (nOf σ) = false := by
              rcases hrs with ⟨-, h⟩ | ⟨h, -⟩
              · exact h
              · rw [h] at c36; exact absurd c36 (by decide)
            exact Or.inr ⟨rfl, i, rfl, hp, hno⟩
    exact loop29 0 (by omega) _ _ _ (by rw [cpyM_c (by decide)]; exact hR.1) toH_cpy (fun z h1 h3 _ => cpyM_c h3) (Or.inl ⟨rfl, fun j hj => absurd hj (by omega)⟩)
  · skip
    refine G_aload_n (K := mX5_rest) (i := 0) dX5_rest_7 rfl rfl ?_
    refine G_ldc (K := mX5_rest) dX5_rest_8 kX5_163 ?_
    refine G_call0 (K := mX5_rest) (Q' := PostR (tl σ 4)) (rf_finding hR (k := 4) (by omega) (fun _ _ h => h)) vX5_finding rfl lX5_109 ⟨_, _, _, rfl, rfl, rfl⟩ (by decide) (Nat.le_of_ble_eq_true rfl) dX5_rest_10 rfl ?_
    rintro v M1 ⟨rfl, hR1⟩
    exact G_iret (st := []) (K := mX5_rest) dX5_rest_13 rfl (hQ _ _ (by rw [show opRest σ = _ from (by unfold opRest; exact if_pos (bI_1 c4))]; exact ⟨rfl, hR1⟩))
