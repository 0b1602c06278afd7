def dr0 : Row := (0, 0, 0)
def rowsAt (R : List Row) (M : Mem) : Prop := ∀ j, j < R.length → M 15 (3 * j) = nI (R.getD j dr0).1 ∧ M 15 (3 * j + 1) = (R.getD j dr0).2.1 ∧ M 15 (3 * j + 2) = (R.getD j dr0).2.2
def OKs (σ : Mem) (L n e : Nat) (R : List Row) (M : Mem) : Prop := RR M σ ∧ M 0 24 = 0 ∧ TR (σ 42) L e M ∧ e ≤ L ∧ M 0 30 = nI n ∧ n ≤ 8 ∧ M 0 28 = nI R.length ∧ rowsAt R M
def BAD (σ : Mem) (b m : Nat) (M : Mem) : Prop := RR M σ ∧ M 0 24 = 1 ∧ M 0 20 = nI b ∧ M 0 28 = nI m
/-- how the reference stands: as r says, items read, at most B rows -/
def XS (σ : Mem) (L it B : Nat) (r : PR) (M : Mem) : Prop := M 0 29 = nI it ∧ ((r.1 = true ∧ r.2.2.2.length ≤ B ∧ OKs σ L r.2.2.1 r.2.1 r.2.2.2 M) ∨ (r.1 = false ∧ ∃ m, m ≤ B ∧ BAD σ (tB (σ 42) L r.2.1) m M))
def mustF (T : Nat → Int32) (L : Nat) (r : PR) (c : Bool) : PR := if r.1 = true then (if c = true then (true, tE T L r.2.1, r.2.2.1, r.2.2.2) else (false, r.2.1, r.2.2.1, r.2.2.2)) else r
def rowF (r : PR) (w : Row) : PR := if r.1 = true then (true, r.2.1, r.2.2.1, r.2.2.2 ++ [w]) else r
def numF (T : Nat → Int32) (L : Nat) (r : PR) (lo hi : Int32) : PR := mustF T L r (decide (tS T L r.2.1 = 2) && decide (lo ≤ tV T L r.2.1 ∧ tV T L r.2.1 ≤ hi))
theorem mustF_bad {T : Nat → Int32} {L : Nat} {r : PR} {c : Bool} (h : r.1 = false) : mustF T L r c = r := if_neg (by rw [h]; decide)
theorem rowF_bad {r : PR} {w : Row} (h : r.1 = false) : rowF r w = r := if_neg (by rw [h]; decide)
theorem XS.ok {σ M : Mem} {L it B : Nat} {r : PR} (h : XS σ L it B r M) (hr : r.1 = true) : r.2.2.2.length ≤ B ∧ OKs σ L r.2.2.1 r.2.1 r.2.2.2 M := by
  rcases h.2 with ⟨-, h⟩ | ⟨h, -⟩
  · exact h
  · rw [hr] at h; exact absurd h (by decide)
theorem XS.bad {σ M : Mem} {L it B : Nat} {r : PR} (h : XS σ L it B r M) (hr : r.1 = false) : ∃ m, m ≤ B ∧ BAD σ (tB (σ 42) L r.2.1) m M := by
  rcases h.2 with ⟨h, -⟩ | ⟨-, h⟩
  · rw [hr] at h; exact absurd h (by decide)
  · exact h
theorem XS.rr {σ M : Mem} {L it B : Nat} {r : PR} (h : XS σ L it B r M) : RR M σ := by
  rcases h.2 with ⟨-, -, h⟩ | ⟨-, m, -, h⟩
  · exact h.1
  · exact h.1
theorem XS.rows {σ M : Mem} {L it B : Nat} {r : PR} (h : XS σ L it B r M) : ∃ m, m ≤ B ∧ M 0 28 = nI m := by
  rcases h.2 with ⟨-, hl, h⟩ | ⟨-, m, hm, h⟩
  · exact ⟨_, hl, h.2.2.2.2.2.2.1⟩
  · exact ⟨m, hm, h.2.2.2⟩
theorem XS.le {σ M : Mem} {L it B B2 : Nat} {r : PR} (h : XS σ L it B r M) (hB : B ≤ B2) : XS σ L it B2 r M := by
  refine ⟨h.1, ?_⟩
  rcases h.2 with ⟨h1, hl, h2⟩ | ⟨h1, m, hm, h2⟩
  · exact Or.inl ⟨h1, by omega, h2⟩
  · exact Or.inr ⟨h1, m, by omega, h2⟩
theorem RR.txt {M M2 σ : Mem} (hR : RR M σ) (h : ∀ c, c ≠ 0 → c ≠ 15 → M2 c = M c) (h3 : M2 0 3 = M 0 3) (h19 : M2 0 19 = M 0 19) : RR M2 σ :=
  hR.scr (by rw [h 1 (by decide) (by decide)]) (fun c hc => h c (by unfold solid at hc; omega) (by unfold solid at hc; omega)) h3 h19
theorem rr_tp {M σ : Mem} {L : Nat} (hR : RR M σ) (hL : σ 43 0 = nI L) : TPr (σ 42) L M := ⟨fun k hk => hR.2.2.2.2.1 k hk, hR.2.2.2.2.2.1.trans hL⟩
theorem TR.s2 {T : Nat → Int32} {L e : Nat} {M : Mem} (h : TR T L e M) {s : Int32} (h3 : ¬ s = 3) (h4 : ¬ s = 4) : M 0 22 = s ↔ tS T L e = s := by
  rw [h.2.2.1]
  by_cases q : tS T L e = 4
  · rw [if_pos q, q]
    exact ⟨fun z => absurd z.symm h3, fun z => absurd z.symm h4⟩
  · rw [if_neg q]
set_option maxRecDepth 20000 in
theorem rf_must {σ : Mem} {L it B : Nat} {r : PR} {M : Mem} {z : Int32} (hL : σ 43 0 = nI L) (hH : TH (σ 42) L) (hX : XS σ L it B r M) (hz4 : ¬ z = 0 → r.1 = true → ¬ tS (σ 42) L r.2.1 = 4) {Q : Option Value → Mem → Prop} (hQ : ∀ M2 : Mem, XS σ L it B (mustF (σ 42) L r (decide (¬ z = 0))) M2 → M2 0 30 = M 0 30 → Q none M2) : CT mX5_must shR 2 [.ref 0, .int z] M Q := by
  refine CT.mk [some (.ref 0), some (.int z)] (by decide) (Nat.le_of_ble_eq_true rfl) rfl rfl ?_
  refine G_aload_n (K := mX5_must) (i := 0) dX5_must_0 rfl rfl ?_
  refine G_aload_n (K := mX5_must) (i := 0) dX5_must_1 rfl rfl ?_
  refine G_geti (K := mX5_must) fX5_285 dX5_must_2 rfl rfl ?_
  refine G_if_ne (K := mX5_must) (tgt := 12) dX5_must_5 (by decide) (fun c5 => ?_) (fun c5 => ?_)
  · skip
    have hr1 : r.1 = false := by
      rcases hX.2 with ⟨-, -, h⟩ | ⟨h, -⟩
      · exact absurd h.2.1 c5
      · exact h
    obtain ⟨m, hm, hbad⟩ := hX.bad hr1
    refine G_iconst (K := mX5_must) (v := 1) dX5_must_12 (by decide) ?_
    refine G_goto (K := mX5_must) (tgt := 17) dX5_must_13 (by decide) ?_
    refine G_put (K := mX5_must) fX5_285 w5_24 dX5_must_17 rfl rfl rfl rfl ?_
    refine G_aload_n (K := mX5_must) (i := 0) dX5_must_20 rfl rfl ?_
    refine G_geti (K := mX5_must) fX5_285 dX5_must_21 rfl rfl ?_
    rw [ups_same]
    refine G_if_ne (K := mX5_must) (tgt := 31) dX5_must_24 (by decide) (fun c24 => ?_) (fun c24 => ?_)
    · skip
      rw [mustF_bad hr1] at hQ
      exact G_vrm (K := mX5_must) dX5_must_31 rfl rfl (hQ _ ⟨by rw [ups_ne (by omega)]; exact hX.1, Or.inr ⟨hr1, m, hm, hbad.1.txt (fun c a b => ups_cell a) (ups_ne (by omega)) (ups_ne (by omega)), by rw [ups_same], by rw [ups_ne (by omega)]; exact hbad.2.2.1, by rw [ups_ne (by omega)]; exact hbad.2.2.2⟩⟩ (ups_ne (by omega)))
    · skip
      exact absurd c24 (by decide)
  · skip
    have hr1 : r.1 = true := by
      rcases hX.2 with ⟨h, -⟩ | ⟨-, m, -, h⟩
      · exact h
      · rw [h.2.1] at c5; exact absurd c5 (by decide)
    obtain ⟨hlen, hok⟩ := hX.ok hr1
    refine G_iload_n (K := mX5_must) (i := 1) dX5_must_8 rfl rfl ?_
    refine G_if_ne (K := mX5_must) (tgt := 16) dX5_must_9 (by decide) (fun c9 => ?_) (fun c9 => ?_)
    · skip
      refine G_iconst (K := mX5_must) (v := 0) dX5_must_16 (by decide) ?_
      refine G_put (K := mX5_must) fX5_285 w5_24 dX5_must_17 rfl rfl rfl rfl ?_
      refine G_aload_n (K := mX5_must) (i := 0) dX5_must_20 rfl rfl ?_
      refine G_geti (K := mX5_must) fX5_285 dX5_must_21 rfl rfl ?_
      rw [ups_same]
      refine G_if_ne (K := mX5_must) (tgt := 31) dX5_must_24 (by decide) (fun c24 => ?_) (fun c24 => ?_)
      · skip
        exact absurd rfl c24
      · skip
        refine G_aload_n (K := mX5_must) (i := 0) dX5_must_27 rfl rfl ?_
        refine G_call0 (K := mX5_must) (as := []) (r := 0) (Q' := fun u Mz => u = none ∧ TR (σ 42) L (tE (σ 42) L r.2.1) Mz ∧ (∀ c, c ≠ 0 → Mz c = ups M 0 24 0 c) ∧ ∀ y, y ≠ 20 → y ≠ 21 → y ≠ 22 → y ≠ 23 → Mz 0 y = ups M 0 24 0 0 y) (rf_next (T := σ 42) (L := L) (e := tE (σ 42) L r.2.1) (M := ups M 0 24 0) hH (by have q1 := rr_tp hok.1 hL; exact ⟨fun k hk => by rw [ups_cell (by omega)]; exact q1.1 k hk, by rw [ups_ne (by omega)]; exact q1.2⟩) (by rw [ups_ne (by omega)]; exact hok.2.2.1.2.1 (hz4 c9 hr1)) (tE_le hok.2.2.2.1) (fun Mz q1 q2 q3 => ⟨rfl, q1, q2, q3⟩)) vX5_next rfl lX5_289 ⟨_, _, _, rfl, rfl, rfl⟩ (by decide) (Nat.le_of_ble_eq_true rfl) dX5_must_28 rfl ?_
        rintro u M2 ⟨rfl, k1, k2, k3⟩
        have hm : mustF (σ 42) L r (decide (¬ z = 0)) = (true, tE (σ 42) L r.2.1, r.2.2.1, r.2.2.2) := (if_pos hr1).trans (if_pos (decide_eq_true c9))
        rw [hm] at hQ
        have k4 : ∀ c, c ≠ 0 → M2 c = M c := fun c hc => (k2 c hc).trans (ups_cell hc)
        have k5 : ∀ y, y ≠ 20 → y ≠ 21 → y ≠ 22 → y ≠ 23 → y ≠ 24 → M2 0 y = M 0 y := fun y a b c d e => (k3 y a b c d).trans (ups_ne (by omega))
        exact G_vrm (K := mX5_must) dX5_must_31 rfl rfl (hQ _ ⟨by rw [k5 29 (by decide) (by decide) (by decide) (by decide) (by decide)]; exact hX.1, Or.inl ⟨rfl, hlen, hok.1.txt (fun c a b => k4 c a) (k5 3 (by decide) (by decide) (by decide) (by decide) (by decide)) (k5 19 (by decide) (by decide) (by decide) (by decide) (by decide)), by rw [k3 24 (by decide) (by decide) (by decide) (by decide), ups_same], k1, tE_le hok.2.2.2.1, by rw [k5 30 (by decide) (by decide) (by decide) (by decide) (by decide)]; exact hok.2.2.2.2.1, hok.2.2.2.2.2.1, by rw [k5 28 (by decide) (by decide) (by decide) (by decide) (by decide)]; exact hok.2.2.2.2.2.2.1, fun j hj => by rw [k4 15 (by decide)]; exact hok.2.2.2.2.2.2.2 j hj⟩⟩ (k5 30 (by decide) (by decide) (by decide) (by decide) (by decide)))
    · skip
      refine G_iconst (K := mX5_must) (v := 1) dX5_must_12 (by decide) ?_
      refine G_goto (K := mX5_must) (tgt := 17) dX5_must_13 (by decide) ?_
      refine G_put (K := mX5_must) fX5_285 w5_24 dX5_must_17 rfl rfl rfl rfl ?_
      refine G_aload_n (K := mX5_must) (i := 0) dX5_must_20 rfl rfl ?_
      refine G_geti (K := mX5_must) fX5_285 dX5_must_21 rfl rfl ?_
      rw [ups_same]
      refine G_if_ne (K := mX5_must) (tgt := 31) dX5_must_24 (by decide) (fun c24 => ?_) (fun c24 => ?_)
      · skip
        have hm : mustF (σ 42) L r (decide (¬ z = 0)) = (false, r.2.1, r.2.2.1, r.2.2.2) := (if_pos hr1).trans (if_neg (by rw [decide_eq_false (fun q => q c9)]; decide))
        rw [hm] at hQ
        exact G_vrm (K := mX5_must) dX5_must_31 rfl rfl (hQ _ ⟨by rw [ups_ne (by omega)]; exact hX.1, Or.inr ⟨rfl, r.2.2.2.length, hlen, hok.1.txt (fun c a b => ups_cell a) (ups_ne (by omega)) (ups_ne (by omega)), by rw [ups_same], by rw [ups_ne (by omega)]; exact hok.2.2.1.1, by rw [ups_ne (by omega)]; exact hok.2.2.2.2.2.2.1⟩⟩ (ups_ne (by omega)))
      · skip
        exact absurd c24 (by decide)

set_option maxRecDepth 20000 in
theorem rf_number {σ : Mem} {L it B : Nat} {r : PR} {M : Mem} {lo hi : Int32} (hL : σ 43 0 = nI L) (hH : TH (σ 42) L) (hX : XS σ L it B r M)  {Q : Option Value → Mem → Prop} (hQ : ∀ M2 : Mem, XS σ L it B (numF (σ 42) L r lo hi) M2 → M2 0 30 = M 0 30 → Q (some (.int (M 0 23))) M2) : CT mX5_number shR 3 [.ref 0, .int lo, .int hi] M Q := by
  refine CT.mk [some (.ref 0), some (.int lo), some (.int hi), none] (by decide) (Nat.le_of_ble_eq_true rfl) rfl rfl ?_
  refine G_aload_n (K := mX5_number) (i := 0) dX5_number_0 rfl rfl ?_
  refine G_geti (K := mX5_number) fX5_272 dX5_number_1 rfl rfl ?_
  refine G_istore_n (K := mX5_number) (i := 3) dX5_number_4 rfl (by decide) ?_
  refine G_aload_n (K := mX5_number) (i := 0) dX5_number_5 rfl rfl ?_
  refine G_aload_n (K := mX5_number) (i := 0) dX5_number_6 rfl rfl ?_
  refine G_geti (K := mX5_number) fX5_275 dX5_number_7 rfl rfl ?_
  refine G_iconst (K := mX5_number) (v := 2) dX5_number_10 (by decide) ?_
  refine G_icmp_ne (K := mX5_number) (tgt := 27) dX5_number_11 (by decide) (fun c11 => ?_) (fun c11 => ?_)
  · skip
    refine G_iconst (K := mX5_number) (v := 0) dX5_number_27 (by decide) ?_
    have hnum : mustF (σ 42) L r (decide (¬ (0 : Int32) = 0)) = numF (σ 42) L r lo hi := by
      unfold numF
      rcases Bool.eq_false_or_eq_true r.1 with hr | hr
      · obtain ⟨-, hok⟩ := hX.ok hr
        congr 1
        rw [decide_eq_false (fun z => c11 ((hok.2.2.1.s2 (by decide) (by decide)).mpr z)), Bool.false_and]
        rfl
      · rw [mustF_bad hr, mustF_bad hr]
    refine G_call0 (K := mX5_number) (as := [.int 0]) (r := 0) (Q' := fun u Mz => u = none ∧ XS σ L (it) (B) (mustF (σ 42) L r (decide (¬ 0 = 0))) Mz ∧ Mz 0 30 = M 0 30) (rf_must (M := M) (z := 0) hL hH hX (fun h => absurd rfl h) (fun Mz q1 q2 => ⟨rfl, q1, q2⟩)) vX5_must rfl lX5_292 ⟨_, _, _, rfl, rfl, rfl⟩ (by decide) (Nat.le_of_ble_eq_true rfl) dX5_number_28 rfl ?_
    rintro u M2 ⟨rfl, hXM2, h30M2⟩
    rw [hnum] at hXM2
    refine G_iload_n (K := mX5_number) (i := 3) dX5_number_31 rfl rfl ?_
    exact G_irm (K := mX5_number) dX5_number_32 rfl rfl rfl (hQ M2 hXM2 h30M2)
  · skip
    refine G_iload_n (K := mX5_number) (i := 3) dX5_number_14 rfl rfl ?_
    refine G_iload_n (K := mX5_number) (i := 1) dX5_number_15 rfl rfl ?_
    refine G_iload_n (K := mX5_number) (i := 2) dX5_number_16 rfl rfl ?_
    refine G_sv (K := mX5_number) (c_X5_within (v := (M 0 23)) (a := lo) (b := hi) ⟨rfl, rfl⟩) sX5_within rfl lX5_97 dX5_number_17 (by decide) rfl (Nat.le_of_ble_eq_true rfl) ?_
    refine G_if_eq (K := mX5_number) (tgt := 27) dX5_number_20 (by decide) (fun c20 => ?_) (fun c20 => ?_)
    · skip
      refine G_iconst (K := mX5_number) (v := 0) dX5_number_27 (by decide) ?_
      have hnum : mustF (σ 42) L r (decide (¬ (0 : Int32) = 0)) = numF (σ 42) L r lo hi := by
        unfold numF
        rcases Bool.eq_false_or_eq_true r.1 with hr | hr
        · obtain ⟨-, hok⟩ := hX.ok hr
          congr 1
          rw [← hok.2.2.1.2.2.2, bI_0 c20, Bool.and_false]
          rfl
        · rw [mustF_bad hr, mustF_bad hr]
      refine G_call0 (K := mX5_number) (as := [.int 0]) (r := 0) (Q' := fun u Mz => u = none ∧ XS σ L (it) (B) (mustF (σ 42) L r (decide (¬ 0 = 0))) Mz ∧ Mz 0 30 = M 0 30) (rf_must (M := M) (z := 0) hL hH hX (fun h => absurd rfl h) (fun Mz q1 q2 => ⟨rfl, q1, q2⟩)) vX5_must rfl lX5_292 ⟨_, _, _, rfl, rfl, rfl⟩ (by decide) (Nat.le_of_ble_eq_true rfl) dX5_number_28 rfl ?_
      rintro u M2 ⟨rfl, hXM2, h30M2⟩
      rw [hnum] at hXM2
      refine G_iload_n (K := mX5_number) (i := 3) dX5_number_31 rfl rfl ?_
      exact G_irm (K := mX5_number) dX5_number_32 rfl rfl rfl (hQ M2 hXM2 h30M2)
    · skip
      refine G_iconst (K := mX5_number) (v := 1) dX5_number_23 (by decide) ?_
      refine G_goto (K := mX5_number) (tgt := 28) dX5_number_24 (by decide) ?_
      have hnum : mustF (σ 42) L r (decide (¬ (1 : Int32) = 0)) = numF (σ 42) L r lo hi := by
        unfold numF
        rcases Bool.eq_false_or_eq_true r.1 with hr | hr
        · obtain ⟨-, hok⟩ := hX.ok hr
          congr 1
          rw [decide_eq_true ((hok.2.2.1.s2 (by decide) (by decide)).mp c11), ← hok.2.2.1.2.2.2, bI_1 c20]
          rfl
        · rw [mustF_bad hr, mustF_bad hr]
      refine G_call0 (K := mX5_number) (as := [.int 1]) (r := 0) (Q' := fun u Mz => u = none ∧ XS σ L (it) (B) (mustF (σ 42) L r (decide (¬ 1 = 0))) Mz ∧ Mz 0 30 = M 0 30) (rf_must (M := M) (z := 1) hL hH hX (fun _ hr => by have h := ((hX.ok hr).2.2.2.1.s2 (by decide) (by decide)).mp c11; rw [h]; decide) (fun Mz q1 q2 => ⟨rfl, q1, q2⟩)) vX5_must rfl lX5_292 ⟨_, _, _, rfl, rfl, rfl⟩ (by decide) (Nat.le_of_ble_eq_true rfl) dX5_number_28 rfl ?_
      rintro u M2 ⟨rfl, hXM2, h30M2⟩
      rw [hnum] at hXM2
      refine G_iload_n (K := mX5_number) (i := 3) dX5_number_31 rfl rfl ?_
      exact G_irm (K := mX5_number) dX5_number_32 rfl rfl rfl (hQ M2 hXM2 h30M2)

set_option maxRecDepth 20000 in
theorem rf_row {σ : Mem} {L it B : Nat} {r : PR} {M : Mem} {w : Nat} {a b : Int32} (hL : σ 43 0 = nI L) (hH : TH (σ 42) L) (hX : XS σ L it B r M) (hB : B < 720) {Q : Option Value → Mem → Prop} (hQ : ∀ M2 : Mem, XS σ L it (B + 1) (rowF r (w, a, b)) M2 → M2 0 30 = M 0 30 → Q none M2) : CT mX5_row shR 0 [.ref 0, .int (nI w), .int a, .int b] M Q := by
  refine CT.mk [some (.ref 0), some (.int (nI w)), some (.int a), some (.int b), none] (by decide) (Nat.le_of_ble_eq_true rfl) rfl rfl ?_
  obtain ⟨m, hmB, h28⟩ := hX.rows
  refine G_iconst (K := mX5_row) (v := 3) dX5_row_0 (by decide) ?_
  refine G_aload_n (K := mX5_row) (i := 0) dX5_row_1 rfl rfl ?_
  refine G_geti (K := mX5_row) fX5_296 dX5_row_2 rfl rfl ?_
  refine G_imul (K := mX5_row) dX5_row_5 ?_
  rw [h28, mul3 (by omega)]
  refine G_istore (K := mX5_row) dX5_row_6 (by decide) ?_
  refine G_aload_n (K := mX5_row) (i := 0) dX5_row_8 rfl rfl ?_
  refine G_getr (K := mX5_row) fX5_77 dX5_row_9 rfl rfl ?_
  refine G_iload (K := mX5_row) dX5_row_12 rfl ?_
  refine G_iload_n (K := mX5_row) (i := 1) dX5_row_14 rfl rfl ?_
  refine G_sto (K := mX5_row) (3 * m) dX5_row_15 rfl rfl (by omega) (by decide) ?_
  refine G_aload_n (K := mX5_row) (i := 0) dX5_row_16 rfl rfl ?_
  refine G_getr (K := mX5_row) fX5_77 dX5_row_17 rfl rfl ?_
  refine G_iload (K := mX5_row) dX5_row_20 rfl ?_
  refine G_iconst (K := mX5_row) (v := 1) dX5_row_22 (by decide) ?_
  refine G_iadd (K := mX5_row) dX5_row_23 ?_
  rw [nI_1]
  refine G_iload_n (K := mX5_row) (i := 2) dX5_row_24 rfl rfl ?_
  refine G_sto (K := mX5_row) (3 * m + 1) dX5_row_25 rfl rfl (by omega) (by decide) ?_
  refine G_aload_n (K := mX5_row) (i := 0) dX5_row_26 rfl rfl ?_
  refine G_getr (K := mX5_row) fX5_77 dX5_row_27 rfl rfl ?_
  refine G_iload (K := mX5_row) dX5_row_30 rfl ?_
  refine G_iconst (K := mX5_row) (v := 2) dX5_row_32 (by decide) ?_
  refine G_iadd (K := mX5_row) dX5_row_33 ?_
  rw [show nI (3 * m) + 2 = nI (3 * m + 2) from nI_add _ 2]
  refine G_iload_n (K := mX5_row) (i := 3) dX5_row_34 rfl rfl ?_
  refine G_sto (K := mX5_row) (3 * m + 2) dX5_row_35 rfl rfl (by omega) (by decide) ?_
  refine G_aload_n (K := mX5_row) (i := 0) dX5_row_36 rfl rfl ?_
  refine G_dup (K := mX5_row) dX5_row_37 rfl ?_
  refine G_geti (K := mX5_row) fX5_296 dX5_row_38 rfl rfl ?_
  refine G_iconst (K := mX5_row) (v := 1) dX5_row_41 (by decide) ?_
  refine G_iadd (K := mX5_row) dX5_row_42 ?_
  refine G_puti (K := mX5_row) fX5_296 w5_28 dX5_row_43 rfl rfl ?_
  refine G_vrm (K := mX5_row) dX5_row_46 rfl rfl (hQ _ ⟨?_, ?_⟩ ?_)
  · rw [ups_ne (by omega), ups_cell (by decide), ups_cell (by decide), ups_cell (by decide)]; exact hX.1
  · have k4 : ∀ (x : Int32) (c : Nat), c ≠ 0 → c ≠ 15 → ups (ups (ups (ups M 15 (3 * m) (nI w)) 15 (3 * m + 1) a) 15 (3 * m + 2) b) 0 28 x c = M c := fun x c h1 h2 => by rw [ups_cell h1, ups_cell h2, ups_cell h2, ups_cell h2]
    have k5 : ∀ (x : Int32) (y : Nat), y ≠ 28 → ups (ups (ups (ups M 15 (3 * m) (nI w)) 15 (3 * m + 1) a) 15 (3 * m + 2) b) 0 28 x 0 y = M 0 y := fun x y h1 => by rw [ups_ne (by omega), ups_cell (by decide), ups_cell (by decide), ups_cell (by decide)]
    have e28 : ups (ups (ups M 15 (3 * m) (nI w)) 15 (3 * m + 1) a) 15 (3 * m + 2) b 0 28 + 1 = nI (m + 1) := by rw [ups_cell (by decide), ups_cell (by decide), ups_cell (by decide), h28, nI_1]
    rw [e28]
    rcases Bool.eq_false_or_eq_true r.1 with hr | hr
    · obtain ⟨hlen, hok⟩ := hX.ok hr
      have hml : m = r.2.2.2.length := (nI_eqI (by omega) (by omega)).mp (h28.symm.trans hok.2.2.2.2.2.2.1)
      refine Or.inl ?_
      rw [show rowF r (w, a, b) = (true, r.2.1, r.2.2.1, r.2.2.2 ++ [(w, a, b)]) from if_pos hr]
      have hl2 : (r.2.2.2 ++ [(w, a, b)]).length = m + 1 := by rw [List.length_append, ← hml]; rfl
      refine ⟨rfl, by rw [hl2]; omega, hok.1.txt (k4 _) (k5 _ 3 (by decide)) (k5 _ 19 (by decide)), by rw [k5 _ 24 (by decide)]; exact hok.2.1, ⟨by rw [k5 _ 20 (by decide)]; exact hok.2.2.1.1, fun h => by rw [k5 _ 21 (by decide)]; exact hok.2.2.1.2.1 h, by rw [k5 _ 22 (by decide)]; exact hok.2.2.1.2.2.1, by rw [k5 _ 23 (by decide)]; exact hok.2.2.1.2.2.2⟩, hok.2.2.2.1, by rw [k5 _ 30 (by decide)]; exact hok.2.2.2.2.1, hok.2.2.2.2.2.1, by rw [ups_same, hl2], fun j hj => ?_⟩
      rw [hl2] at hj
      show _ = nI ((r.2.2.2 ++ [(w, a, b)]).getD j dr0).1 ∧ _ = ((r.2.2.2 ++ [(w, a, b)]).getD j dr0).2.1 ∧ _ = ((r.2.2.2 ++ [(w, a, b)]).getD j dr0).2.2
      by_cases hjm : j = m
      · subst hjm
        have eg : (r.2.2.2 ++ [(w, a, b)]).getD j dr0 = (w, a, b) := by
          rw [List.getD_eq_getElem?_getD, hml, List.getElem?_append_right (Nat.le_refl _), Nat.sub_self]
          rfl
        rw [eg, ups_cell (by decide)]
        exact ⟨by rw [ups_ne (by omega), ups_ne (by omega), ups_same], by rw [ups_ne (by omega), ups_same], by rw [ups_same]⟩
      · have eg : (r.2.2.2 ++ [(w, a, b)]).getD j dr0 = r.2.2.2.getD j dr0 := by
          rw [List.getD_eq_getElem?_getD, List.getD_eq_getElem?_getD, List.getElem?_append_left (by omega)]
        rw [eg, ups_cell (by decide), ups_ne (by omega), ups_ne (by omega), ups_ne (by omega), ups_ne (by omega), ups_ne (by omega), ups_ne (by omega), ups_ne (by omega), ups_ne (by omega), ups_ne (by omega)]
        exact hok.2.2.2.2.2.2.2 j (by omega)
    · obtain ⟨m2, hm2, hbad⟩ := hX.bad hr
      rw [rowF_bad hr]
      exact Or.inr ⟨hr, m + 1, by omega, hbad.1.txt (k4 _) (k5 _ 3 (by decide)) (k5 _ 19 (by decide)), by rw [k5 _ 24 (by decide)]; exact hbad.2.1, by rw [k5 _ 20 (by decide)]; exact hbad.2.2.1, by rw [ups_same]⟩
  · rw [ups_ne (by omega), ups_cell (by decide), ups_cell (by decide), ups_cell (by decide)]

theorem isW_s1 {T : Nat → Int32} {L e i : Nat} (h : isW T L e i = true) : tS T L e = 1 := by
  unfold isW at h
  exact of_decide_eq_true (Bool.and_eq_true_iff.mp h).1
set_option maxRecDepth 20000 in
theorem rf_isNext {σ : Mem} {L it B : Nat} {r : PR} {M : Mem} {i : Nat} (hL : σ 43 0 = nI L) (hH : TH (σ 42) L) (hX : XS σ L it B r M) (hi : i < 14) {Q : Option Value → Mem → Prop} (hQ1 : ∀ M2 : Mem, r.1 = true → isW (σ 42) L r.2.1 i = true → XS σ L it B (true, tE (σ 42) L r.2.1, r.2.2.1, r.2.2.2) M2 → M2 0 30 = M 0 30 → Q (some (.int 1)) M2) (hQ0 : (r.1 = true → isW (σ 42) L r.2.1 i = false) → Q (some (.int 0)) M) : CT mX5_isNext shR 5 [.ref 0, .ref (1100 + i)] M Q := by
  refine CT.mk [some (.ref 0), some (.ref (1100 + i)), none] (by decide) (Nat.le_of_ble_eq_true rfl) rfl rfl ?_
  refine G_aload_n (K := mX5_isNext) (i := 0) dX5_isNext_0 rfl rfl ?_
  refine G_geti (K := mX5_isNext) fX5_285 dX5_isNext_1 rfl rfl ?_
  refine G_if_ne (K := mX5_isNext) (tgt := 19) dX5_isNext_4 (by decide) (fun c4 => ?_) (fun c4 => ?_)
  · skip
    have hr1 : r.1 = false := by
      rcases hX.2 with ⟨-, -, h⟩ | ⟨h, -⟩
      · exact absurd h.2.1 c4
      · exact h
    refine G_iconst (K := mX5_isNext) (v := 0) dX5_isNext_19 (by decide) ?_
    refine G_istore_n (K := mX5_isNext) (i := 2) dX5_isNext_20 rfl (by decide) ?_
    refine G_iload_n (K := mX5_isNext) (i := 2) dX5_isNext_21 rfl rfl ?_
    refine G_if_eq (K := mX5_isNext) (tgt := 30) dX5_isNext_22 (by decide) (fun c22 => ?_) (fun c22 => ?_)
    · skip
      refine G_iload_n (K := mX5_isNext) (i := 2) dX5_isNext_30 rfl rfl ?_
      exact G_zrm (K := mX5_isNext) dX5_isNext_31 rfl rfl rfl rfl (hQ0 (fun h => by rw [hr1] at h; exact absurd h (by decide)))
    · skip
      exact absurd rfl c22
  · skip
    have hr1 : r.1 = true := by
      rcases hX.2 with ⟨h, -⟩ | ⟨-, m, -, h⟩
      · exact h
      · rw [h.2.1] at c4; exact absurd c4 (by decide)
    obtain ⟨hlen, hok⟩ := hX.ok hr1
    refine G_aload_n (K := mX5_isNext) (i := 0) dX5_isNext_7 rfl rfl ?_
    refine G_aload_n (K := mX5_isNext) (i := 1) dX5_isNext_8 rfl rfl ?_
    refine G_cv (K := mX5_isNext) (rf_isWord (T := σ 42) (L := L) (e := r.2.1) (i := i) (M := M) hH (rr_tp hok.1 hL) hok.2.2.1 hok.2.2.2.1 hi ⟨rfl, rfl⟩) vX5_isWord rfl lX5_299 dX5_isNext_9 ⟨_, _, _, rfl, rfl, rfl⟩ (by decide) rfl (Nat.le_of_ble_eq_true rfl) ?_
    refine G_if_eq (K := mX5_isNext) (tgt := 19) dX5_isNext_12 (by decide) (fun c12 => ?_) (fun c12 => ?_)
    · skip
      refine G_iconst (K := mX5_isNext) (v := 0) dX5_isNext_19 (by decide) ?_
      refine G_istore_n (K := mX5_isNext) (i := 2) dX5_isNext_20 rfl (by decide) ?_
      refine G_iload_n (K := mX5_isNext) (i := 2) dX5_isNext_21 rfl rfl ?_
      refine G_if_eq (K := mX5_isNext) (tgt := 30) dX5_isNext_22 (by decide) (fun c22 => ?_) (fun c22 => ?_)
      · skip
        refine G_iload_n (K := mX5_isNext) (i := 2) dX5_isNext_30 rfl rfl ?_
        exact G_zrm (K := mX5_isNext) dX5_isNext_31 rfl rfl rfl rfl (hQ0 (fun _ => bI_0 c12))
      · skip
        exact absurd rfl c22
    · skip
      refine G_iconst (K := mX5_isNext) (v := 1) dX5_isNext_15 (by decide) ?_
      refine G_goto (K := mX5_isNext) (tgt := 20) dX5_isNext_16 (by decide) ?_
      refine G_istore_n (K := mX5_isNext) (i := 2) dX5_isNext_20 rfl (by decide) ?_
      refine G_iload_n (K := mX5_isNext) (i := 2) dX5_isNext_21 rfl rfl ?_
      refine G_if_eq (K := mX5_isNext) (tgt := 30) dX5_isNext_22 (by decide) (fun c22 => ?_) (fun c22 => ?_)
      · skip
        exact absurd c22 (by decide)
      · skip
        refine G_aload_n (K := mX5_isNext) (i := 0) dX5_isNext_25 rfl rfl ?_
        refine G_iconst (K := mX5_isNext) (v := 1) dX5_isNext_26 (by decide) ?_
        refine G_call0 (K := mX5_isNext) (as := [.int 1]) (r := 0) (Q' := fun u Mz => u = none ∧ XS σ L (it) (B) (mustF (σ 42) L r (decide (¬ 1 = 0))) Mz ∧ Mz 0 30 = M 0 30) (rf_must (M := M) (z := 1) hL hH hX (fun _ _ => by rw [isW_s1 (bI_1 c12)]; decide) (fun Mz q1 q2 => ⟨rfl, q1, q2⟩)) vX5_must rfl lX5_292 ⟨_, _, _, rfl, rfl, rfl⟩ (by decide) (Nat.le_of_ble_eq_true rfl) dX5_isNext_27 rfl ?_
        rintro u M2 ⟨rfl, hXM2, h30M2⟩
        rw [show mustF (σ 42) L r (decide (¬ (1 : Int32) = 0)) = (true, tE (σ 42) L r.2.1, r.2.2.1, r.2.2.2) from (if_pos hr1).trans (if_pos rfl)] at hXM2
        refine G_iload_n (K := mX5_isNext) (i := 2) dX5_isNext_30 rfl rfl ?_
        exact G_zrm (K := mX5_isNext) dX5_isNext_31 rfl rfl rfl rfl (hQ1 M2 hr1 (bI_1 c12) hXM2 h30M2)

