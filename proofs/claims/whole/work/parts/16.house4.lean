def allB (p : Nat → Bool) : Nat → Bool
  | 0 => true
  | n + 1 => allB p n && p n
def bI (b : Bool) : Int32 := if b = true then 1 else 0
theorem allB_f {p : Nat → Bool} {i : Nat} (h : p i = false) : ∀ n, i < n → allB p n = false := by
  intro n
  induction n with
  | zero => intro hi; omega
  | succ n ih =>
    intro hi
    show (allB p n && p n) = false
    by_cases hin : i = n
    · subst hin; rw [h, Bool.and_false]
    · rw [ih (by omega), Bool.false_and]
theorem allB_s {p : Nat → Bool} {i : Nat} (h : allB p i = true) (h2 : p i = true) : allB p (i + 1) = true := by
  show (allB p i && p i) = true
  rw [h, h2]; rfl
theorem allB_congr {p q : Nat → Bool} (n : Nat) (h : ∀ i, i < n → p i = q i) : allB p n = allB q n := by
  induction n with
  | zero => rfl
  | succ n ih =>
    show (allB p n && p n) = (allB q n && q n)
    rw [ih (fun i hi => h i (by omega)), h n (by omega)]
theorem bI_t {b : Bool} (h : b = true) : bI b = 1 := if_pos h
theorem bI_f {b : Bool} (h : b = false) : bI b = 0 := if_neg (by rw [h]; decide)
theorem bI_0 {b : Bool} (h : bI b = 0) : b = false := by
  cases b
  · rfl
  · exact absurd h (by decide)
theorem bI_1 {b : Bool} (h : ¬ bI b = 0) : b = true := by
  cases b
  · exact absurd rfl h
  · rfl
def restB (M : Mem) (n : Nat) : Bool := allB (fun r => decide (stokeH M r = M 9 r)) n
def likeB (M h : Mem) (n : Nat) : Bool := allB (fun r => decide (M 8 r = h 8 r ∧ M 9 r = h 9 r)) n
def cntN (p : Nat → Bool) : Nat → Int32
  | 0 => 0
  | n + 1 => if p n = true then cntN p n + 1 else cntN p n
theorem cntN_t {p : Nat → Bool} {n : Nat} (h : p n = true) : cntN p (n + 1) = cntN p n + 1 := if_pos h
theorem cntN_f {p : Nat → Bool} {n : Nat} (h : ¬ p n = true) : cntN p (n + 1) = cntN p n := if_neg h
def drawF (z : Int32) : Int32 := z * 1103515245 + 12345
def ushr8 (x : Int32) : Int32 := (x.toUInt32 >>> ((8 : Int32).toUInt32 &&& Int32.toUInt32 31)).toInt32
def swM (M : Mem) (b i j : Nat) : Mem := ups (ups M b i (M b j)) b j (M b i)
def chgH (M : Mem) (i j : Nat) : Mem := swM (swM (swM M 1 i j) 6 i j) 9 i j
set_option maxRecDepth 20000 in
theorem c_X0_nextIsRest {M : Mem} {n : Nat} (hn : M 0 0 = nI n) (hn8 : n ≤ 8) {Q : Option Value → Mem → Prop} (hQ : Q (some (.int (bI (restB M n)))) M) : CT mX0_nextIsRest shH 3 [.ref 0] M Q := by
  refine CT.mk [some (.ref 0), none] (by decide) (Nat.le_of_ble_eq_true rfl) rfl rfl ?_
  refine G_iconst (K := mX0_nextIsRest) (v := 0) dX0_nextIsRest_0 (by decide) ?_
  refine G_istore_n (K := mX0_nextIsRest) (i := 1) dX0_nextIsRest_1 rfl (by decide) ?_
  have loop2 : ∀ i, i ≤ n → restB M i = true → G mX0_nextIsRest shH 3 Q 2 [some (.ref 0), some (.int (nI i))] [] M := by
    refine upto n (fun i hi ih => ?_)
    intro hs2
    refine G_iload_n (K := mX0_nextIsRest) (i := 1) dX0_nextIsRest_2 rfl rfl ?_
    refine G_aload_n (K := mX0_nextIsRest) (i := 0) dX0_nextIsRest_3 rfl rfl ?_
    refine G_geti (K := mX0_nextIsRest) fX0_55 dX0_nextIsRest_4 rfl rfl ?_
    refine G_icmp_ge (K := mX0_nextIsRest) (tgt := 32) dX0_nextIsRest_7 (by decide) (fun c7 => ?_) (fun c7 => ?_)
    · skip
      rw [hn, le_nn (by omega) (by omega)] at c7
      have hin : i = n := by omega
      subst hin
      refine G_iconst (K := mX0_nextIsRest) (v := 1) dX0_nextIsRest_32 (by decide) ?_
      exact G_zrm (K := mX0_nextIsRest) dX0_nextIsRest_33 rfl rfl (bI_t hs2).symm rfl hQ
    · skip
      rw [hn, le_nn (by omega) (by omega)] at c7
      refine G_aload_n (K := mX0_nextIsRest) (i := 0) dX0_nextIsRest_10 rfl rfl ?_
      refine G_iload_n (K := mX0_nextIsRest) (i := 1) dX0_nextIsRest_11 rfl rfl ?_
      refine G_cv (K := mX0_nextIsRest) (c_X0_stokes (i := i) (by omega) ⟨rfl, rfl⟩) vX0_stokes rfl lX0_91 dX0_nextIsRest_12 ⟨_, _, _, rfl, rfl, rfl⟩ (by decide) rfl (Nat.le_of_ble_eq_true rfl) ?_
      refine G_aload_n (K := mX0_nextIsRest) (i := 0) dX0_nextIsRest_15 rfl rfl ?_
      refine G_getr (K := mX0_nextIsRest) fX0_43 dX0_nextIsRest_16 rfl rfl ?_
      refine G_iload_n (K := mX0_nextIsRest) (i := 1) dX0_nextIsRest_19 rfl rfl ?_
      refine G_ld (K := mX0_nextIsRest) _ dX0_nextIsRest_20 rfl rfl (by omega) (by decide) ?_
      refine G_icmp_eq (K := mX0_nextIsRest) (tgt := 26) dX0_nextIsRest_21 (by decide) (fun c21 => ?_) (fun c21 => ?_)
      · skip
        refine G_iincN (K := mX0_nextIsRest) dX0_nextIsRest_26 (by decide) rfl ?_
        refine G_goto (K := mX0_nextIsRest) (tgt := 2) dX0_nextIsRest_29 (by decide) ?_
        exact ih (i + 1) (by omega) (by omega) (allB_s hs2 (decide_eq_true c21))
      · skip
        refine G_iconst (K := mX0_nextIsRest) (v := 0) dX0_nextIsRest_24 (by decide) ?_
        exact G_zrm (K := mX0_nextIsRest) dX0_nextIsRest_25 rfl rfl (bI_f (allB_f (decide_eq_false c21) n (by omega))).symm rfl hQ
  exact loop2 0 (by omega) rfl

set_option maxRecDepth 20000 in
theorem c_X0_stokesLike {M : Mem} {n : Nat} (hn : M 0 0 = nI n) (hn8 : n ≤ 8) {Q : Option Value → Mem → Prop} (hQ : Q (some (.int (if remI (M 0 2 - M 11 2) 2 = 0 then bI (likeB M (fun c => M (c + 11)) n) else 0))) M) : CT mX0_stokesLike shH2 0 [.ref 0, .ref 11] M Q := by
  refine CT.mk [some (.ref 0), some (.ref 11), none] (by decide) (Nat.le_of_ble_eq_true rfl) rfl rfl ?_
  refine G_aload_n (K := mX0_stokesLike) (i := 0) dX0_stokesLike_0 rfl rfl ?_
  refine G_geti (K := mX0_stokesLike) fX0_68 dX0_stokesLike_1 rfl rfl ?_
  refine G_aload_n (K := mX0_stokesLike) (i := 1) dX0_stokesLike_4 rfl rfl ?_
  refine G_geti (K := mX0_stokesLike) fX0_68 dX0_stokesLike_5 rfl rfl ?_
  refine G_isub (K := mX0_stokesLike) dX0_stokesLike_8 ?_
  refine G_iconst (K := mX0_stokesLike) (v := 2) dX0_stokesLike_9 (by decide) ?_
  refine G_irem (K := mX0_stokesLike) dX0_stokesLike_10 (by decide) ?_
  refine G_if_eq (K := mX0_stokesLike) (tgt := 16) dX0_stokesLike_11 (by decide) (fun c11 => ?_) (fun c11 => ?_)
  · skip
    refine G_iconst (K := mX0_stokesLike) (v := 0) dX0_stokesLike_16 (by decide) ?_
    refine G_istore_n (K := mX0_stokesLike) (i := 2) dX0_stokesLike_17 rfl (by decide) ?_
    have loop18 : ∀ i, i ≤ n → likeB M (fun c => M (c + 11)) i = true → G mX0_stokesLike shH2 0 Q 18 [some (.ref 0), some (.ref 11), some (.int (nI i))] [] M := by
      refine upto n (fun i hi ih => ?_)
      intro hs2
      refine G_iload_n (K := mX0_stokesLike) (i := 2) dX0_stokesLike_18 rfl rfl ?_
      refine G_aload_n (K := mX0_stokesLike) (i := 0) dX0_stokesLike_19 rfl rfl ?_
      refine G_geti (K := mX0_stokesLike) fX0_55 dX0_stokesLike_20 rfl rfl ?_
      refine G_icmp_ge (K := mX0_stokesLike) (tgt := 64) dX0_stokesLike_23 (by decide) (fun c23 => ?_) (fun c23 => ?_)
      · skip
        rw [hn, le_nn (by omega) (by omega)] at c23
        have hin : i = n := by omega
        subst hin
        refine G_iconst (K := mX0_stokesLike) (v := 1) dX0_stokesLike_64 (by decide) ?_
        exact G_zrm (K := mX0_stokesLike) dX0_stokesLike_65 rfl rfl ((bI_t hs2).symm.trans (if_pos c11).symm) rfl hQ
      · skip
        rw [hn, le_nn (by omega) (by omega)] at c23
        refine G_aload_n (K := mX0_stokesLike) (i := 0) dX0_stokesLike_26 rfl rfl ?_
        refine G_getr (K := mX0_stokesLike) fX0_40 dX0_stokesLike_27 rfl rfl ?_
        refine G_iload_n (K := mX0_stokesLike) (i := 2) dX0_stokesLike_30 rfl rfl ?_
        refine G_ld (K := mX0_stokesLike) _ dX0_stokesLike_31 rfl rfl (by omega) (by decide) ?_
        refine G_aload_n (K := mX0_stokesLike) (i := 1) dX0_stokesLike_32 rfl rfl ?_
        refine G_getr (K := mX0_stokesLike) fX0_40 dX0_stokesLike_33 rfl rfl ?_
        refine G_iload_n (K := mX0_stokesLike) (i := 2) dX0_stokesLike_36 rfl rfl ?_
        refine G_ld (K := mX0_stokesLike) _ dX0_stokesLike_37 rfl rfl (by omega) (by decide) ?_
        refine G_icmp_ne (K := mX0_stokesLike) (tgt := 56) dX0_stokesLike_38 (by decide) (fun c38 => ?_) (fun c38 => ?_)
        · skip
          refine G_iconst (K := mX0_stokesLike) (v := 0) dX0_stokesLike_56 (by decide) ?_
          exact G_zrm (K := mX0_stokesLike) dX0_stokesLike_57 rfl rfl ((bI_f (allB_f (decide_eq_false (by first | exact fun z => c53 z.2 | exact fun z => c38 z.1)) n (by omega))).symm.trans (if_pos c11).symm) rfl hQ
        · skip
          refine G_aload_n (K := mX0_stokesLike) (i := 0) dX0_stokesLike_41 rfl rfl ?_
          refine G_getr (K := mX0_stokesLike) fX0_43 dX0_stokesLike_42 rfl rfl ?_
          refine G_iload_n (K := mX0_stokesLike) (i := 2) dX0_stokesLike_45 rfl rfl ?_
          refine G_ld (K := mX0_stokesLike) _ dX0_stokesLike_46 rfl rfl (by omega) (by decide) ?_
          refine G_aload_n (K := mX0_stokesLike) (i := 1) dX0_stokesLike_47 rfl rfl ?_
          refine G_getr (K := mX0_stokesLike) fX0_43 dX0_stokesLike_48 rfl rfl ?_
          refine G_iload_n (K := mX0_stokesLike) (i := 2) dX0_stokesLike_51 rfl rfl ?_
          refine G_ld (K := mX0_stokesLike) _ dX0_stokesLike_52 rfl rfl (by omega) (by decide) ?_
          refine G_icmp_eq (K := mX0_stokesLike) (tgt := 58) dX0_stokesLike_53 (by decide) (fun c53 => ?_) (fun c53 => ?_)
          · skip
            refine G_iincN (K := mX0_stokesLike) dX0_stokesLike_58 (by decide) rfl ?_
            refine G_goto (K := mX0_stokesLike) (tgt := 18) dX0_stokesLike_61 (by decide) ?_
            exact ih (i + 1) (by omega) (by omega) (allB_s hs2 (decide_eq_true ⟨c38, c53⟩))
          · skip
            refine G_iconst (K := mX0_stokesLike) (v := 0) dX0_stokesLike_56 (by decide) ?_
            exact G_zrm (K := mX0_stokesLike) dX0_stokesLike_57 rfl rfl ((bI_f (allB_f (decide_eq_false (by first | exact fun z => c53 z.2 | exact fun z => c38 z.1)) n (by omega))).symm.trans (if_pos c11).symm) rfl hQ
    exact loop18 0 (by omega) rfl
  · skip
    refine G_iconst (K := mX0_stokesLike) (v := 0) dX0_stokesLike_14 (by decide) ?_
    exact G_zrm (K := mX0_stokesLike) dX0_stokesLike_15 rfl rfl (if_neg c11).symm rfl hQ

set_option maxRecDepth 20000 in
theorem c_X0_spotsInUse {M : Mem} {Q : Option Value → Mem → Prop} (hQ : Q (some (.int (cntN (fun k => decide (0 ≤ M 10 k)) 10))) M) : CT mX0_spotsInUse shH 0 [.ref 0] M Q := by
  refine CT.mk [some (.ref 0), none, none] (by decide) (Nat.le_of_ble_eq_true rfl) rfl rfl ?_
  refine G_iconst (K := mX0_spotsInUse) (v := 0) dX0_spotsInUse_0 (by decide) ?_
  refine G_istore_n (K := mX0_spotsInUse) (i := 1) dX0_spotsInUse_1 rfl (by decide) ?_
  refine G_iconst (K := mX0_spotsInUse) (v := 0) dX0_spotsInUse_2 (by decide) ?_
  refine G_istore_n (K := mX0_spotsInUse) (i := 2) dX0_spotsInUse_3 rfl (by decide) ?_
  have loop4 : ∀ i, i ≤ 10 → ∀ s, s = cntN (fun k => decide (0 ≤ M 10 k)) i → G mX0_spotsInUse shH 0 Q 4 [some (.ref 0), some (.int s), some (.int (nI i))] [] M := by
    refine upto 10 (fun i hi ih => ?_)
    intro s hs2
    refine G_iload_n (K := mX0_spotsInUse) (i := 2) dX0_spotsInUse_4 rfl rfl ?_
    refine G_bipush (K := mX0_spotsInUse) (v := 10) dX0_spotsInUse_5 (by decide) ?_
    refine G_icmp_ge (K := mX0_spotsInUse) (tgt := 28) dX0_spotsInUse_7 (by decide) (fun c7 => ?_) (fun c7 => ?_)
    · skip
      rw [show (10 : Int32) = nI 10 from rfl, le_nn (by omega) (by omega)] at c7
      have hin : i = 10 := by omega
      subst hin
      refine G_iload_n (K := mX0_spotsInUse) (i := 1) dX0_spotsInUse_28 rfl rfl ?_
      exact G_irm (K := mX0_spotsInUse) dX0_spotsInUse_29 rfl (by exact hs2) (by rfl) hQ
    · skip
      rw [show (10 : Int32) = nI 10 from rfl, le_nn (by omega) (by omega)] at c7
      refine G_aload_n (K := mX0_spotsInUse) (i := 0) dX0_spotsInUse_10 rfl rfl ?_
      refine G_getr (K := mX0_spotsInUse) fX0_46 dX0_spotsInUse_11 rfl rfl ?_
      refine G_iload_n (K := mX0_spotsInUse) (i := 2) dX0_spotsInUse_14 rfl rfl ?_
      refine G_ld (K := mX0_spotsInUse) _ dX0_spotsInUse_15 rfl rfl (by omega) (by decide) ?_
      refine G_if_lt (K := mX0_spotsInUse) (tgt := 22) dX0_spotsInUse_16 (by decide) (fun c16 => ?_) (fun c16 => ?_)
      · skip
        refine G_iincN (K := mX0_spotsInUse) dX0_spotsInUse_22 (by decide) rfl ?_
        refine G_goto (K := mX0_spotsInUse) (tgt := 4) dX0_spotsInUse_25 (by decide) ?_
        exact ih (i + 1) (by omega) (by omega) _ (by first | (rw [cntN_t (decide_eq_true (Int32.not_lt.mp c16)), hs2]; done) | (rw [cntN_f (by rw [decide_eq_true_iff]; exact Int32.not_le.mpr c16)]; exact hs2))
      · skip
        refine G_iinc (K := mX0_spotsInUse) (v := s + 1) dX0_spotsInUse_19 (by decide) rfl rfl ?_
        refine G_iincN (K := mX0_spotsInUse) dX0_spotsInUse_22 (by decide) rfl ?_
        refine G_goto (K := mX0_spotsInUse) (tgt := 4) dX0_spotsInUse_25 (by decide) ?_
        exact ih (i + 1) (by omega) (by omega) _ (by first | (rw [cntN_t (decide_eq_true (Int32.not_lt.mp c16)), hs2]; done) | (rw [cntN_f (by rw [decide_eq_true_iff]; exact Int32.not_le.mpr c16)]; exact hs2))
  exact loop4 0 (by omega) _ rfl

set_option maxRecDepth 20000 in
theorem c_X0_draw {M : Mem} {Q : Option Value → Mem → Prop} (hQ : Q (some (.int (ushr8 (drawF (M 0 3))))) (ups M 0 3 (drawF (M 0 3)))) : CT mX0_draw shH 0 [.ref 0] M Q := by
  refine CT.mk [some (.ref 0)] (by decide) (Nat.le_of_ble_eq_true rfl) rfl rfl ?_
  refine G_aload_n (K := mX0_draw) (i := 0) dX0_draw_0 rfl rfl ?_
  refine G_aload_n (K := mX0_draw) (i := 0) dX0_draw_1 rfl rfl ?_
  refine G_geti (K := mX0_draw) fX0_15 dX0_draw_2 rfl rfl ?_
  refine G_ldc (K := mX0_draw) dX0_draw_5 kX0_116 ?_
  refine G_imul (K := mX0_draw) dX0_draw_7 ?_
  refine G_sipush (K := mX0_draw) (v := 12345) dX0_draw_8 (by decide) ?_
  refine G_iadd (K := mX0_draw) dX0_draw_11 ?_
  refine G_puti (K := mX0_draw) fX0_15 w0_3 dX0_draw_12 rfl rfl ?_
  refine G_aload_n (K := mX0_draw) (i := 0) dX0_draw_15 rfl rfl ?_
  refine G_geti (K := mX0_draw) fX0_15 dX0_draw_16 rfl rfl ?_
  refine G_bipush (K := mX0_draw) (v := 8) dX0_draw_19 (by decide) ?_
  refine G_iushr (K := mX0_draw) dX0_draw_21 ?_
  exact G_irm (K := mX0_draw) dX0_draw_22 rfl (by rw [ups_same]; rfl) rfl hQ

set_option maxRecDepth 20000 in
theorem c_X0_changePlaces {M : Mem} {i j : Nat} (hi : i < 8) (hj : j < 8) {Q : Option Value → Mem → Prop} (hQ : Q none (chgH M i j)) : CT mX0_changePlaces shH 1 [.ref 0, .int (nI i), .int (nI j)] M Q := by
  refine CT.mk [some (.ref 0), some (.int (nI i)), some (.int (nI j))] (by decide) (Nat.le_of_ble_eq_true rfl) rfl rfl ?_
  refine G_aload_n (K := mX0_changePlaces) (i := 0) dX0_changePlaces_0 rfl rfl ?_
  refine G_getr (K := mX0_changePlaces) fX0_18 dX0_changePlaces_1 rfl rfl ?_
  refine G_iload_n (K := mX0_changePlaces) (i := 1) dX0_changePlaces_4 rfl rfl ?_
  refine G_iload_n (K := mX0_changePlaces) (i := 2) dX0_changePlaces_5 rfl rfl ?_
  refine G_swap (K := mX0_changePlaces) hi hj rfl lX0_103 dX0_changePlaces_6 (by decide) (Nat.le_of_ble_eq_true rfl) ?_
  refine G_aload_n (K := mX0_changePlaces) (i := 0) dX0_changePlaces_9 rfl rfl ?_
  refine G_getr (K := mX0_changePlaces) fX0_34 dX0_changePlaces_10 rfl rfl ?_
  refine G_iload_n (K := mX0_changePlaces) (i := 1) dX0_changePlaces_13 rfl rfl ?_
  refine G_iload_n (K := mX0_changePlaces) (i := 2) dX0_changePlaces_14 rfl rfl ?_
  refine G_swap (K := mX0_changePlaces) hi hj rfl lX0_103 dX0_changePlaces_15 (by decide) (Nat.le_of_ble_eq_true rfl) ?_
  refine G_aload_n (K := mX0_changePlaces) (i := 0) dX0_changePlaces_18 rfl rfl ?_
  refine G_getr (K := mX0_changePlaces) fX0_43 dX0_changePlaces_19 rfl rfl ?_
  refine G_iload_n (K := mX0_changePlaces) (i := 1) dX0_changePlaces_22 rfl rfl ?_
  refine G_iload_n (K := mX0_changePlaces) (i := 2) dX0_changePlaces_23 rfl rfl ?_
  refine G_swap (K := mX0_changePlaces) hi hj rfl lX0_103 dX0_changePlaces_24 (by decide) (Nat.le_of_ble_eq_true rfl) ?_
  exact G_vrm (K := mX0_changePlaces) dX0_changePlaces_27 rfl (by rfl) hQ


/-- after k steps: the set, the place -/
def reachN (M : Mem) (n : Nat) (r0 : Int32) : Nat → Int32 × Int32
  | 0 => (0, r0)
  | k + 1 => if hasI M (reachN M n r0 k).2 = 0 then reachN M n r0 k else ((reachN M n r0 k).1 ||| (1 <<< ((reachN M n r0 k).2 &&& 31)), M 5 (reachN M n r0 k).2.toNatClampNeg)
theorem reachN_stop {M : Mem} {n : Nat} {r0 : Int32} {k : Nat} (h : hasI M (reachN M n r0 k).2 = 0) : ∀ j, k ≤ j → reachN M n r0 j = reachN M n r0 k := by
  intro j
  induction j with
  | zero => intro hj; rw [show k = 0 by omega]
  | succ j ih =>
    intro hj
    by_cases hkj : k = j + 1
    · rw [hkj]
    · have e := ih (by omega)
      show (if hasI M (reachN M n r0 j).2 = 0 then reachN M n r0 j else _) = _
      rw [e, if_pos h]
set_option maxRecDepth 20000 in
theorem c_X0_reachedFrom {M : Mem} {r : Nat} (hr : r < 8) {n : Nat} (hn : M 0 0 = nI n) (hn8 : n ≤ 8) {Q : Option Value → Mem → Prop} (hQ : Q (some (.int (reachN M n (M 5 r) n).1)) M) : CT mX0_reachedFrom shH 1 [.ref 0, .int (nI r)] M Q := by
  refine CT.mk [some (.ref 0), some (.int (nI r)), none, none, none] (by decide) (Nat.le_of_ble_eq_true rfl) rfl rfl ?_
  refine G_iconst (K := mX0_reachedFrom) (v := 0) dX0_reachedFrom_0 (by decide) ?_
  refine G_istore_n (K := mX0_reachedFrom) (i := 2) dX0_reachedFrom_1 rfl (by decide) ?_
  refine G_aload_n (K := mX0_reachedFrom) (i := 0) dX0_reachedFrom_2 rfl rfl ?_
  refine G_getr (K := mX0_reachedFrom) fX0_31 dX0_reachedFrom_3 rfl rfl ?_
  refine G_iload_n (K := mX0_reachedFrom) (i := 1) dX0_reachedFrom_6 rfl rfl ?_
  refine G_ld (K := mX0_reachedFrom) _ dX0_reachedFrom_7 rfl rfl (by omega) (by decide) ?_
  refine G_istore_n (K := mX0_reachedFrom) (i := 3) dX0_reachedFrom_8 rfl (by decide) ?_
  refine G_iconst (K := mX0_reachedFrom) (v := 0) dX0_reachedFrom_9 (by decide) ?_
  refine G_istore (K := mX0_reachedFrom) dX0_reachedFrom_10 (by decide) ?_
  have loop12 : ∀ i, i ≤ n → ∀ s t, (s, t) = reachN M n (M 5 r) i → G mX0_reachedFrom shH 1 Q 12 [some (.ref 0), some (.int (nI r)), some (.int s), some (.int t), some (.int (nI i))] [] M := by
    refine upto n (fun i hi ih => ?_)
    intro s t hs2
    refine G_iload (K := mX0_reachedFrom) dX0_reachedFrom_12 rfl ?_
    refine G_aload_n (K := mX0_reachedFrom) (i := 0) dX0_reachedFrom_14 rfl rfl ?_
    refine G_geti (K := mX0_reachedFrom) fX0_55 dX0_reachedFrom_15 rfl rfl ?_
    refine G_icmp_ge (K := mX0_reachedFrom) (tgt := 48) dX0_reachedFrom_18 (by decide) (fun c18 => ?_) (fun c18 => ?_)
    · skip
      rw [hn, le_nn (by omega) (by omega)] at c18
      have hin : i = n := by omega
      subst hin
      refine G_iload_n (K := mX0_reachedFrom) (i := 2) dX0_reachedFrom_48 rfl rfl ?_
      exact G_irm (K := mX0_reachedFrom) dX0_reachedFrom_49 rfl (by first | (rw [reachN_stop (k := i) (by rw [← hs2]; exact c26) n (by omega), ← hs2]; done) | (rw [← hs2])) rfl hQ
    · skip
      rw [hn, le_nn (by omega) (by omega)] at c18
      refine G_aload_n (K := mX0_reachedFrom) (i := 0) dX0_reachedFrom_21 rfl rfl ?_
      refine G_iload_n (K := mX0_reachedFrom) (i := 3) dX0_reachedFrom_22 rfl rfl ?_
      refine G_cv (K := mX0_reachedFrom) (c_X0_has ⟨rfl, rfl⟩) vX0_has rfl lX0_58 dX0_reachedFrom_23 ⟨_, _, _, rfl, rfl, rfl⟩ (by decide) rfl (Nat.le_of_ble_eq_true rfl) ?_
      refine G_if_eq (K := mX0_reachedFrom) (tgt := 48) dX0_reachedFrom_26 (by decide) (fun c26 => ?_) (fun c26 => ?_)
      · skip
        refine G_iload_n (K := mX0_reachedFrom) (i := 2) dX0_reachedFrom_48 rfl rfl ?_
        exact G_irm (K := mX0_reachedFrom) dX0_reachedFrom_49 rfl (by first | (rw [reachN_stop (k := i) (by rw [← hs2]; exact c26) n (by omega), ← hs2]; done) | (rw [← hs2])) rfl hQ
      · skip
        obtain ⟨k, hk, ek⟩ := hasI_0 hn hn8 c26
        refine G_iload_n (K := mX0_reachedFrom) (i := 2) dX0_reachedFrom_29 rfl rfl ?_
        refine G_iconst (K := mX0_reachedFrom) (v := 1) dX0_reachedFrom_30 (by decide) ?_
        refine G_iload_n (K := mX0_reachedFrom) (i := 3) dX0_reachedFrom_31 rfl rfl ?_
        refine G_ishl (K := mX0_reachedFrom) dX0_reachedFrom_32 ?_
        refine G_ior (K := mX0_reachedFrom) dX0_reachedFrom_33 ?_
        refine G_istore_n (K := mX0_reachedFrom) (i := 2) dX0_reachedFrom_34 rfl (by decide) ?_
        refine G_aload_n (K := mX0_reachedFrom) (i := 0) dX0_reachedFrom_35 rfl rfl ?_
        refine G_getr (K := mX0_reachedFrom) fX0_31 dX0_reachedFrom_36 rfl rfl ?_
        refine G_iload_n (K := mX0_reachedFrom) (i := 3) dX0_reachedFrom_39 rfl rfl ?_
        refine G_ld (K := mX0_reachedFrom) k dX0_reachedFrom_40 rfl ek (by omega) (by decide) ?_
        refine G_istore_n (K := mX0_reachedFrom) (i := 3) dX0_reachedFrom_41 rfl (by decide) ?_
        refine G_iincN (K := mX0_reachedFrom) dX0_reachedFrom_42 (by decide) rfl ?_
        refine G_goto (K := mX0_reachedFrom) (tgt := 12) dX0_reachedFrom_45 (by decide) ?_
        refine ih (i + 1) (by omega) (by omega) _ _ ?_
        show _ = if hasI M (reachN M n (M 5 r) i).2 = 0 then _ else _
        rw [← hs2, if_neg c26, ek, nI_clamp (by omega)]
  exact loop12 0 (by omega) _ _ rfl

set_option maxRecDepth 20000 in
theorem c_X4_isKind {M : Mem} {x : Int32} {Q : Option Value → Mem → Prop} (hQ : Q (some (.int (if x < 0 then 0 else if 6 < x then 0 else 1))) M) : CT mX4_isKind shH 0 [.int x] M Q := by
  refine CT.mk [some (.int x)] (by decide) (Nat.le_of_ble_eq_true rfl) rfl rfl ?_
  refine G_iload_n (K := mX4_isKind) (i := 0) dX4_isKind_0 rfl rfl ?_
  refine G_if_lt (K := mX4_isKind) (tgt := 14) dX4_isKind_1 (by decide) (fun c1 => ?_) (fun c1 => ?_)
  · skip
    refine G_iconst (K := mX4_isKind) (v := 0) dX4_isKind_14 (by decide) ?_
    exact G_zrm (K := mX4_isKind) dX4_isKind_15 rfl rfl (by simp [*]) (by rfl) hQ
  · skip
    refine G_iload_n (K := mX4_isKind) (i := 0) dX4_isKind_4 rfl rfl ?_
    refine G_bipush (K := mX4_isKind) (v := 6) dX4_isKind_5 (by decide) ?_
    refine G_icmp_gt (K := mX4_isKind) (tgt := 14) dX4_isKind_7 (by decide) (fun c7 => ?_) (fun c7 => ?_)
    · skip
      refine G_iconst (K := mX4_isKind) (v := 0) dX4_isKind_14 (by decide) ?_
      exact G_zrm (K := mX4_isKind) dX4_isKind_15 rfl rfl (by simp [*]) (by rfl) hQ
    · skip
      refine G_iconst (K := mX4_isKind) (v := 1) dX4_isKind_10 (by decide) ?_
      refine G_goto (K := mX4_isKind) (tgt := 15) dX4_isKind_11 (by decide) ?_
      exact G_zrm (K := mX4_isKind) dX4_isKind_15 rfl rfl (by simp [*]) (by rfl) hQ
