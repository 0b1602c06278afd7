theorem RC.rd {M M2 σ : Mem} (hR : RC M σ) (h : ∀ c, c ≠ 45 → M2 c = M c) : RC M2 σ := by
  obtain ⟨r1, r2, r3, r4, r5, r6, r7⟩ := hR
  refine ⟨HR.ofEq (fun j hj => h (1 + j) (by omega)) r1, HR.ofEq (fun j hj => h (34 + j) (by omega)) r2, by rw [h 0 (by omega)]; exact r3, fun i hi => by rw [h 60 (by omega)]; exact r4 i hi, fun i hi => by rw [h 47 (by omega)]; exact r5 i hi, by rw [h 46 (by omega)]; exact r6, fun s hs => ?_⟩
  rw [h (61 + 2 * s) (by omega), h (62 + 2 * s) (by omega)]
  exact r7 s hs
theorem rc_tp {M σ : Mem} {L : Nat} (hR : RC M σ) (hL : σ 43 0 = nI L) : TP (σ 42) L M := ⟨fun k hk => hR.2.2.2.2.1 k hk, hR.2.2.2.2.2.1.trans hL⟩
/-- the reader at the TOKEN behind e, n ROOMS in the draft, R done to it -/
def CS (σ : Mem) (L e n : Nat) (R : List Row) (M : Mem) : Prop := RC M σ ∧ TK (σ 42) L e M ∧ HR (hof M 48) (apR σ R) n ∧ apR σ R 0 0 = nI n ∧ n ≤ 8 ∧ e ≤ L
def PS (σ : Mem) (L : Nat) (r : PR) (v : Option Value) (M : Mem) : Prop := (r.1 = true ∧ v = some (.int 1) ∧ CS σ L r.2.1 r.2.2.1 r.2.2.2 M) ∨ (r.1 = false ∧ v = some (.int 0) ∧ RC M σ ∧ TK (σ 42) L r.2.1 M)
theorem CS.fail {σ M : Mem} {L e n : Nat} {R : List Row} (h : CS σ L e n R M) {n2 : Nat} {R2 : List Row} : PS σ L (false, e, n2, R2) (some (.int 0)) M := Or.inr ⟨rfl, rfl, h.1, h.2.1⟩
theorem CS.n0 {σ M : Mem} {L e n : Nat} {R : List Row} (h : CS σ L e n R M) : hof M 48 0 0 = nI n := (h.2.2.1.1 0 (by omega)).trans h.2.2.2.1
theorem CS.draft {σ M M2 : Mem} {L e e2 n n2 : Nat} {R R2 : List Row} {h2 : Mem} (h : CS σ L e n R M) (hM : ∀ c, c ≠ 45 → M2 c = hput M 48 h2 c) (hK : TK (σ 42) L e2 M2) (hH : HR h2 (apR σ R2) n2) (hn : apR σ R2 0 0 = nI n2) (hn8 : n2 ≤ 8) (he : e2 ≤ L) : CS σ L e2 n2 R2 M2 :=
  ⟨(h.1.scr (b := 48) (h := h2) (Or.inr (Or.inr rfl))).rd hM, hK, HR.ofEq (fun j hj => (hM (48 + j) (by omega)).trans (hof_hput M h2 48 j hj)) hH, hn, hn8, he⟩
theorem CS.next {σ M M2 : Mem} {L e e2 n : Nat} {R : List Row} (h : CS σ L e n R M) (hM : ∀ c, c ≠ 45 → M2 c = M c) (hK : TK (σ 42) L e2 M2) (he : e2 ≤ L) : CS σ L e2 n R M2 :=
  h.draft (h2 := hof M 48) (fun c hc => by rw [hput_hof]; exact hM c hc) hK h.2.2.1 h.2.2.2.1 h.2.2.2.2.1 he
theorem apR_set {σ : Mem} {R : List Row} {p : Nat} {a : Nat} {v : Int32} (hp : p < 9) (ha : a < 2147483648) : apR σ (R ++ [(10 + p, nI a, v)]) = ups (apR σ R) (1 + p) a v := by
  rw [apR_snoc]
  unfold apRow
  rw [if_neg (show ¬ 10 + p = 20 by omega), if_pos (show 10 ≤ 10 + p by omega), show 10 + p - 10 = p by omega, cut_nI ha]
theorem fit_room {n p : Nat} {a v : Int32} (hn : n ≤ 8) (h : fitB n a (nI p) v = true) : ∃ q, q < n ∧ a = nI q := by
  unfold fitB at h
  exact roomB_t (by omega) (Bool.and_eq_true_iff.mp h).1
/-- one place of the draft is set -/
theorem CS.set {σ M M2 : Mem} {L e e2 n p q : Nat} {R : List Row} {v : Int32} (h : CS σ L e n R M) (hp : p < 9) (hq : q < n) (hM : ∀ c, c ≠ 45 → M2 c = ups M (48 + (1 + p)) q v c) (hK : TK (σ 42) L e2 M2) (he : e2 ≤ L) : CS σ L e2 n (R ++ [(10 + p, nI q, v)]) M2 := by
  have hn8 := h.2.2.2.2.1
  have e1 : ups M (48 + (1 + p)) q v = hput M 48 (ups (hof M 48) (1 + p) q v) := by rw [← hput_ups (by omega), hput_hof]
  refine h.draft (h2 := ups (hof M 48) (1 + p) q v) (fun c hc => by rw [hM c hc, e1]) hK ?_ ?_ hn8 he
  · rw [apR_set hp (by omega)]; exact h.2.2.1.upd1 (by omega) (by omega)
  · rw [apR_set hp (by omega), ups_cell (by omega)]; exact h.2.2.2.1
set_option maxRecDepth 20000 in
theorem cl_readValue {σ : Mem} {L e n p : Nat} {a : Int32} {R : List Row} {M : Mem} (hL : σ 43 0 = nI L) (hH : TH (σ 42) L) (hp : p < 9) (hS : CS σ L e n R M) {Q : Option Value → Mem → Prop} (hQ : ∀ v M2, PS σ L (if tS (σ 42) L e = 2 ∧ fitB n a (nI p) (tV (σ 42) L e) = true then (true, tE (σ 42) L e, n, R ++ [(10 + p, a, tV (σ 42) L e)]) else (false, e, n, R)) v M2 → Q v M2) : CT mX3_readValue shC 4 [.ref 45, .int a, .int (nI p)] M Q := by
  refine CT.mk [some (.ref 45), some (.int a), some (.int (nI p)), none] (by decide) (Nat.le_of_ble_eq_true rfl) rfl rfl ?_
  have hn8 := hS.2.2.2.2.1
  refine G_aload_n (K := mX3_readValue) (i := 0) dX3_readValue_0 rfl rfl ?_
  refine G_getr (K := mX3_readValue) fX3_21 dX3_readValue_1 rfl rfl ?_
  refine G_iload_n (K := mX3_readValue) (i := 2) dX3_readValue_4 rfl rfl ?_
  refine G_callH (K := mX3_readValue) (b := 48) (by unfold isH; omega) (as := [.int (nI p)]) (Q' := fun v M' => v = some (.ref (p + 1)) ∧ M' = hof M 48) (c_X0_rowOf (w := nI p) (fun q hq e => ⟨by rw [(nI_eqI (by omega) (by omega)).mp e], rfl⟩) (fun hno => absurd rfl (hno p (by omega)))) vX0_rowOf rfl lX3_91 rfl (by decide) (Nat.le_of_ble_eq_true rfl) dX3_readValue_5 rfl ?_
  rintro v M' ⟨rfl, e'⟩
  rw [e']
  rw [hput_hof]
  have erow : hsub 48 (p + 1) = 48 + (1 + p) := by unfold hsub; rw [if_pos (by omega)]; omega
  have hshr : shC[48 + (1 + p)]? = some (.inr (.inl 8)) := by
    have h9 : p = 0 ∨ p = 1 ∨ p = 2 ∨ p = 3 ∨ p = 4 ∨ p = 5 ∨ p = 6 ∨ p = 7 ∨ p = 8 := by omega
    rcases h9 with rfl | rfl | rfl | rfl | rfl | rfl | rfl | rfl | rfl <;> rfl
  show G mX3_readValue shC _ Q 8 _ (.ref (hsub 48 (p + 1)) :: []) _
  rw [erow]
  refine G_astore_n (K := mX3_readValue) (i := 3) dX3_readValue_8 rfl (by decide) ?_
  refine G_aload_n (K := mX3_readValue) (i := 0) dX3_readValue_9 rfl rfl ?_
  refine G_geti (K := mX3_readValue) fX3_40 dX3_readValue_10 rfl rfl ?_
  refine G_iconst (K := mX3_readValue) (v := 2) dX3_readValue_13 (by decide) ?_
  rw [hS.2.1.1]
  refine G_icmp_ne (K := mX3_readValue) (tgt := 37) dX3_readValue_14 (by decide) (fun c14 => ?_) (fun c14 => ?_)
  · skip
    refine G_iconst (K := mX3_readValue) (v := 0) dX3_readValue_37 (by decide) ?_
    exact G_zret (st := []) (K := mX3_readValue) dX3_readValue_38 rfl rfl (hQ _ _ (by rw [if_neg (fun z => c14 z.1)]; exact hS.fail))
  · skip
    refine G_aload_n (K := mX3_readValue) (i := 3) dX3_readValue_17 rfl rfl ?_
    refine G_ifnull (K := mX3_readValue) dX3_readValue_18 ?_
    refine G_aload_n (K := mX3_readValue) (i := 0) dX3_readValue_21 rfl rfl ?_
    refine G_getr (K := mX3_readValue) fX3_21 dX3_readValue_22 rfl rfl ?_
    refine G_iload_n (K := mX3_readValue) (i := 1) dX3_readValue_25 rfl rfl ?_
    refine G_iload_n (K := mX3_readValue) (i := 2) dX3_readValue_26 rfl rfl ?_
    refine G_aload_n (K := mX3_readValue) (i := 0) dX3_readValue_27 rfl rfl ?_
    refine G_geti (K := mX3_readValue) fX3_95 dX3_readValue_28 rfl rfl ?_
    rw [hS.2.1.2.2.2]
    refine G_hp (K := mX3_readValue) (b := 48) (by unfold isH; omega) (c_X0_fits (M := hof M 48) (r := a) (w := nI p) (v := tV (σ 42) L e) ⟨rfl, rfl⟩) vX0_fits rfl lX3_98 dX3_readValue_31 rfl (by decide) rfl (Nat.le_of_ble_eq_true rfl) ?_
    rw [fits_B hS.n0 hn8]
    refine G_if_ne (K := mX3_readValue) (tgt := 39) dX3_readValue_34 (by decide) (fun c34 => ?_) (fun c34 => ?_)
    · skip
      have hf := bI_1 c34
      obtain ⟨q, hq, rfl⟩ := fit_room hn8 hf
      refine G_aload_n (K := mX3_readValue) (i := 3) dX3_readValue_39 rfl rfl ?_
      refine G_iload_n (K := mX3_readValue) (i := 1) dX3_readValue_40 rfl rfl ?_
      refine G_aload_n (K := mX3_readValue) (i := 0) dX3_readValue_41 rfl rfl ?_
      refine G_geti (K := mX3_readValue) fX3_95 dX3_readValue_42 rfl rfl ?_
      rw [hS.2.1.2.2.2]
      refine G_sto (K := mX3_readValue) q dX3_readValue_45 hshr rfl (by omega) (by decide) ?_
      refine G_aload_n (K := mX3_readValue) (i := 0) dX3_readValue_46 rfl rfl ?_
      refine G_call0 (K := mX3_readValue) (as := []) (r := 45) (Q' := fun u Mz => u = none ∧ TK (σ 42) L (tE (σ 42) L e) Mz ∧ ∀ c, c ≠ 45 → Mz c = (ups M (48 + (1 + p)) q (tV (σ 42) L e)) c) (cl_step (T := σ 42) (L := L) (M := (ups M (48 + (1 + p)) q (tV (σ 42) L e))) (e := tE (σ 42) L e) hH (by have q1 := rc_tp hS.1 hL; exact ⟨fun k hk => by rw [ups_cell (by omega)]; exact q1.1 k hk, by rw [ups_cell (by omega)]; exact q1.2⟩) (by rw [ups_cell (by omega)]; exact hS.2.1.2.2.1) (tE_le hS.2.2.2.2.2) (fun Mz q1 q2 => ⟨rfl, q1, q2⟩)) vX3_step rfl lX3_33 ⟨_, _, _, rfl, rfl, rfl⟩ (by decide) (Nat.le_of_ble_eq_true rfl) dX3_readValue_47 rfl ?_
      rintro u M2 ⟨rfl, hKM2, hcM2⟩
      refine G_iconst (K := mX3_readValue) (v := 1) dX3_readValue_50 (by decide) ?_
      exact G_zret (st := []) (K := mX3_readValue) dX3_readValue_51 rfl rfl (hQ _ _ (by rw [if_pos ⟨c14, hf⟩]; exact Or.inl ⟨rfl, rfl, hS.set hp hq hcM2 hKM2 (tE_le hS.2.2.2.2.2)⟩))
    · skip
      refine G_iconst (K := mX3_readValue) (v := 0) dX3_readValue_37 (by decide) ?_
      exact G_zret (st := []) (K := mX3_readValue) dX3_readValue_38 rfl rfl (hQ _ _ (by rw [if_neg (fun z => by rw [bI_0 c34] at z; exact absurd z.2 (by decide))]; exact hS.fail))

