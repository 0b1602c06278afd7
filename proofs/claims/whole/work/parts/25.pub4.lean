def aH (σ : Mem) (k : Nat) : Mem := hoursH (nOf σ) k σ
def wH (σ : Mem) (k w r : Nat) (x : Int32) : Mem := hoursH (nOf σ) k (ups σ (1 + w) r x)
def mH (σ : Mem) (k i j : Nat) : Mem := hoursH (nOf σ) k (chgH σ i j)
def opSpread (σ : Mem) (r a : Int32) : Int32 × Mem := if refR σ r a = 0 then (bits (fun i => decide (wH σ (cut a) 0 (cut r) 3 2 i < aH σ (cut a) 2 i)) (nOf σ), σ) else tlI σ (refR σ r a)
/-- the first of the greatest of f 0 .. -/
def bestN (f : Nat → Int32) : Nat → Int32 × Int32
  | 0 => (0, -1)
  | v + 1 => if (bestN f v).2 < f v then (nI v, f v) else bestN f v
def bestF (σ : Mem) (k w r : Nat) (v : Nat) : Int32 := wH σ k w r (nI v) 2 r
def opBest (σ : Mem) (r a : Int32) (w m : Nat) : Int32 × Mem := if refR σ r a = 0 then ((bestN (bestF σ (cut a) w (cut r)) m).1, σ) else tlI σ (refR σ r a)
def opTempted (σ : Mem) (a : Int32) : Int32 × Mem := if refH σ a 60 = 0 then (bits (fun r => decide (aH σ (cut a) 2 r < wH σ (cut a) 0 r 0 2 r)) (nOf σ), σ) else tlI σ (refH σ a 60)
def tkF (σ : Mem) (k r : Nat) : Int32 := sumN (fun o => if o = r then 0 else aH σ k 2 o - wH σ k 5 r 1 2 o) (nOf σ)
def missN (t : Nat → Int32) : Nat → Int32 × Int32
  | 0 => (-1, 0)
  | r + 1 => if (missN t r).1 < 0 then (nI r, t r) else if (missN t r).2 < t r then (nI r, t r) else missN t r
def opMissed (σ : Mem) (a : Int32) : Int32 × Mem := if refH σ a 60 = 0 then (if nOf σ = 0 then tl σ 3 else ((missN (tkF σ (cut a)) (nOf σ)).1, σ)) else tlI σ (refH σ a 60)
def opCoal (σ : Mem) (r a : Int32) : Int32 × Mem := if refR σ r a = 0 then (if roomB (nOf σ) (σ 5 (cut r)) = true then orNone σ (findF (fun v => decide (60 ≤ wH σ (cut a) 2 (cut r) (nI v) 2 (cut (σ 5 (cut r))))) 0 1000) nI else tl σ 4) else tlI σ (refR σ r a)
def opWall (σ : Mem) (r a : Int32) : Int32 × Mem := if refR σ r a = 0 then orNone σ (findF (fun v => decide (60 ≤ wH σ (cut a) 3 (cut r) (nI v) 2 (cut r))) 1 20) nI else tlI σ (refR σ r a)
def turnN (f : Nat → Int32) (r : Nat) : Nat → Int32 × Int32
  | 0 => (0, -1)
  | v + 1 => if v = r then turnN f r v else if (turnN f r v).2 < f v then (nI v, f v) else turnN f r v
def turnF (σ : Mem) (k r v : Nat) : Int32 := leastN (wH σ k 4 r (nI v) 2) (nOf σ)
def opTurn (σ : Mem) (r a : Int32) : Int32 × Mem := if refR σ r a = 0 then (if nOf σ = 1 then tl σ 4 else ((turnN (turnF σ (cut a) (cut r)) (cut r) (nOf σ)).1, σ)) else tlI σ (refR σ r a)
def ownH (h : Mem) (n : Nat) : Mem := fun c i => if c = 5 ∧ i < n then nI i else h c i
def opOwn (σ : Mem) (a : Int32) : Int32 × Mem := if refH σ a 60 = 0 then (bits (fun i => decide (aH σ (cut a) 2 i < hoursH (nOf σ) (cut a) (ownH σ (nOf σ)) 2 i)) (nOf σ), σ) else tlI σ (refH σ a 60)
theorem refR_fin {σ : Mem} {r a : Int32} (h : ¬ refR σ r a = 0) : isFin (refR σ r a) := by
  unfold refR at h ⊢
  by_cases h1 : roomB (nOf σ) r = true
  · rw [if_pos h1] at h ⊢; exact refH_fin h
  · rw [if_neg h1]; exact ⟨0, by omega, rfl⟩
theorem refR_0 {σ : Mem} {r a : Int32} (hI : Inv σ) (h : refR σ r a = 0) : ∃ q k, q < nOf σ ∧ r = nI q ∧ 1 ≤ k ∧ k < 2147483648 ∧ a = nI k ∧ refH σ a 60 = 0 := by
  unfold refR at h
  by_cases h1 : roomB (nOf σ) r = true
  · rw [if_pos h1] at h
    obtain ⟨q, hq, rfl⟩ := roomB_t (by have := hI.n8; omega) h1
    obtain ⟨k, hk1, hk2, rfl⟩ := refH_nat h
    exact ⟨q, k, hq, rfl, hk1, hk2, rfl, h⟩
  · rw [if_neg h1] at h; exact absurd h (by decide)
/-- warmer than another -/
theorem G_wt {K : MI} {d : Nat} {Q : Option Value → Mem → Prop} {pc : Nat} {ls : List (Option Value)} {rest : List Value} {M : Mem} {idx b c n : Nat} {x y : Mem} (hb : isH b) (hc : isH c) (hbc : apart b c) (hx : HR (hof M b) x n) (hy : HR (hof M c) y n) (hn : x 0 0 = nI n) (hn8 : n ≤ 8)
    (hlink : Cond.methodLink K.1.cls idx yX0_warmerThan ∈ gtbl) (hd : decode K.2.1 pc = .ok (.invokevirtual idx, 3)) (hd1 : 1 ≤ d) (hrest : (rest.map fun v => v.category).sum ≤ 8)
    (kk : G K shC d Q (pc + 3) ls (.int (bits (fun i => decide (y 2 i < x 2 i)) n) :: rest) M) : G K shC d Q pc ls (.ref c :: .ref b :: rest) M := by
  have hX : HR (hof2 M b c) x n := HR.ofEq (fun j hj => if_pos hj) hx
  have hY : HR (fun q => hof2 M b c (q + 11)) y n := HR.ofEq (fun j hj => by
    show hof2 M b c (j + 11) = hof M c j
    unfold hof2 hof
    rw [if_neg (by omega), show c + (j + 11 - 11) = c + j by omega]) hy
  refine G_callH2 (as := [.ref 11]) (Q' := fun v M' => v = some (.int (bits (fun i => decide (y 2 i < x 2 i)) n)) ∧ M' = hof2 M b c) hb hc hbc (c_X0_warmerThan (M := hof2 M b c) (n := n) ((hX.1 0 (by omega)).trans hn) hn8 ⟨?_, rfl⟩) vX0_warmerThan rfl hlink rfl hd1 hrest hd rfl ?_
  · congr 2
    refine bits_congr n (fun i hi => ?_)
    have e1 : hof2 M b c 13 i = y 2 i := hY.f 2 (by omega) (by omega) hi
    rw [e1, hX.f 2 (by omega) (by omega) hi]
  · rintro v M' ⟨rfl, rfl⟩
    rw [hput2_hof2 hbc]
    exact kk
set_option maxRecDepth 20000 in
theorem cl_spread {M σ : Mem} {r a : Int32} (hR : RC M σ) (hI : Inv σ) {Q : Option Value → Mem → Prop} (hQ : ∀ u' M', PostC (opSpread σ r a) u' M' → Q u' M') : CT mX4_spread shC 8 [.ref 0, .int r, .int a] M Q := by
  refine CT.mk [some (.ref 0), some (.int r), some (.int a), none] (by decide) (Nat.le_of_ble_eq_true rfl) rfl rfl ?_
  refine G_aload_n (K := mX4_spread) (i := 0) dX4_spread_0 rfl rfl ?_
  refine G_iload_n (K := mX4_spread) (i := 1) dX4_spread_1 rfl rfl ?_
  refine G_iload_n (K := mX4_spread) (i := 2) dX4_spread_2 rfl rfl ?_
  refine G_cv (K := mX4_spread) (cl_fRoom (r := r) (a := a) hR hI ⟨rfl, rfl⟩) vX4_findingOfRoomAhead rfl lX4_153 dX4_spread_3 ⟨_, _, _, rfl, rfl, rfl⟩ (by decide) rfl (Nat.le_of_ble_eq_true rfl) ?_
  refine G_istore_n (K := mX4_spread) (i := 3) dX4_spread_6 rfl (by decide) ?_
  refine G_iload_n (K := mX4_spread) (i := 3) dX4_spread_7 rfl rfl ?_
  refine G_if_eq (K := mX4_spread) (tgt := 17) dX4_spread_8 (by decide) (fun c8 => ?_) (fun c8 => ?_)
  · skip
    obtain ⟨q, k, hq, rfl, hk1, hk2, rfl, hH⟩ := refR_0 hI c8
    have hn8 := hI.n8
    refine G_aload_n (K := mX4_spread) (i := 0) dX4_spread_17 rfl rfl ?_
    refine G_iload_n (K := mX4_spread) (i := 2) dX4_spread_18 rfl rfl ?_
    refine G_ga (K := mX4_spread) (k := k) hR hI (by omega) lX4_141 dX4_spread_19 (by decide) (Nat.le_of_ble_eq_true rfl) (fun h3 hh3 hR23 => ?_)
    refine G_aload_n (K := mX4_spread) (i := 0) dX4_spread_22 rfl rfl ?_
    refine G_iload_n (K := mX4_spread) (i := 1) dX4_spread_23 rfl rfl ?_
    refine G_iconst (K := mX4_spread) (v := 0) dX4_spread_24 (by decide) ?_
    refine G_iconst (K := mX4_spread) (v := 3) dX4_spread_25 (by decide) ?_
    refine G_iload_n (K := mX4_spread) (i := 2) dX4_spread_26 rfl rfl ?_
    refine G_gw (K := mX4_spread) (k := k) (r := q) (w := 0) (x := 3) hR23 hI (by omega) (by omega) (by decide) (ups_wall hI (by decide)) lX4_156 dX4_spread_27 (by decide) (Nat.le_of_ble_eq_true rfl) (fun h4 hh4 hR4 => ?_)
    refine G_aload_n (K := mX4_spread) (i := 0) dX4_spread_30 rfl rfl ?_
    refine G_getr (K := mX4_spread) fX4_19 dX4_spread_31 rfl rfl ?_
    refine G_aload_n (K := mX4_spread) (i := 0) dX4_spread_34 rfl rfl ?_
    refine G_getr (K := mX4_spread) fX4_16 dX4_spread_35 rfl rfl ?_
    refine G_wt (K := mX4_spread) (b := 23) (c := 12) (n := nOf σ) (by unfold isH; omega) (by unfold isH; omega) (by unfold apart; omega) (HR.hpn (HR.hp hh3) (by unfold apart; omega)) (HR.hp hh4) ((hoursH_0 _ _ _).trans hI.nI) hI.n8 lX4_160 dX4_spread_38 (by decide) (Nat.le_of_ble_eq_true rfl) ?_
    exact G_iret (st := []) (K := mX4_spread) dX4_spread_41 rfl (hQ _ _ (by rw [show opSpread σ (nI q) (nI k) = _ from (by unfold opSpread; exact if_pos c8)]; rw [cut_nI hk2, cut_nI (by omega)]; exact ⟨rfl, hR4⟩))
  · skip
    refine G_aload_n (K := mX4_spread) (i := 0) dX4_spread_11 rfl rfl ?_
    refine G_iload_n (K := mX4_spread) (i := 3) dX4_spread_12 rfl rfl ?_
    obtain ⟨q, hq, eq⟩ := refR_fin c8
    rw [eq]
    refine G_call0 (K := mX4_spread) (Q' := PostC (tl σ q)) (cl_tell hR (k := q) (by omega) (fun _ _ h => h)) vX4_tell rfl lX4_53 ⟨_, _, _, rfl, rfl, rfl⟩ (by decide) (Nat.le_of_ble_eq_true rfl) dX4_spread_13 rfl ?_
    rintro v M1 ⟨rfl, hR1⟩
    exact G_iret (st := []) (K := mX4_spread) dX4_spread_16 rfl (hQ _ _ (by rw [show opSpread σ r a = _ from (by unfold opSpread; exact (if_neg c8).trans ((congrArg (tlI σ) eq).trans (tlI_fin hq)))]; exact ⟨rfl, hR1⟩))

set_option maxRecDepth 20000 in
theorem cl_best {M σ : Mem} {q k w m : Nat} (hwm : (w = 0 ∧ m = 7) ∨ (w = 6 ∧ m = 4)) (hq : q < nOf σ) (hk2 : k < 2147483648) (hR : RC M σ) (hI : Inv σ) {Q : Option Value → Mem → Prop} (hQ : ∀ u' M', PostC ((bestN (bestF σ k w q) m).1, σ) u' M' → Q u' M') : CT mX4_bestForItself shC 7 [.ref 0, .int (nI q), .int (nI w), .int (nI k)] M Q := by
  refine CT.mk [some (.ref 0), some (.int (nI q)), some (.int (nI w)), some (.int (nI k)), none, none, none] (by decide) (Nat.le_of_ble_eq_true rfl) rfl rfl ?_
  have hn8 := hI.n8
  have hw9 : w < 9 := by omega
  have hm7 : m ≤ 7 := by omega
  have hl0 : (tvl 1).getD w 0 = nI 0 := by
    rcases hwm with ⟨rfl, rfl⟩ | ⟨rfl, rfl⟩ <;> rfl
  have hm0 : (tvl 0).getD w 0 = nI (m - 1) := by
    rcases hwm with ⟨rfl, rfl⟩ | ⟨rfl, rfl⟩ <;> rfl
  refine G_iconst (K := mX4_bestForItself) (v := 0) dX4_bestForItself_0 (by decide) ?_
  refine G_istore (K := mX4_bestForItself) dX4_bestForItself_1 (by decide) ?_
  refine G_iconst (K := mX4_bestForItself) (v := -1) dX4_bestForItself_3 (by decide) ?_
  refine G_istore (K := mX4_bestForItself) dX4_bestForItself_4 (by decide) ?_
  refine G_gets (K := mX4_bestForItself) 1 (by decide) tX4_167 dX4_bestForItself_6 ?_
  refine G_iload_n (K := mX4_bestForItself) (i := 2) dX4_bestForItself_9 rfl rfl ?_
  refine G_tld (K := mX4_bestForItself) 1 w (by decide) dX4_bestForItself_10 rfl (show w < 9 from hw9) (by decide) ?_
  rw [hl0]
  refine G_istore (K := mX4_bestForItself) dX4_bestForItself_11 (by decide) ?_
  have loop13 : ∀ v, v ≤ m → ∀ M1, RC M1 σ → ∀ s t, (s, t) = bestN (bestF σ k w q) v → G mX4_bestForItself shC 7 Q 13 [some (.ref 0), some (.int (nI q)), some (.int (nI w)), some (.int (nI k)), some (.int s), some (.int t), some (.int (nI v))] [] M1 := by
    refine upto m (fun v hv ih => ?_)
    intro M1 hRv s t hst
    refine G_iload (K := mX4_bestForItself) dX4_bestForItself_13 rfl ?_
    refine G_gets (K := mX4_bestForItself) 0 (by decide) tX4_170 dX4_bestForItself_15 ?_
    refine G_iload_n (K := mX4_bestForItself) (i := 2) dX4_bestForItself_18 rfl rfl ?_
    refine G_tld (K := mX4_bestForItself) 0 w (by decide) dX4_bestForItself_19 rfl (show w < 9 from hw9) (by decide) ?_
    rw [hm0]
    refine G_icmp_gt (K := mX4_bestForItself) (tgt := 67) dX4_bestForItself_20 (by decide) (fun c20 => ?_) (fun c20 => ?_)
    · skip
      have hvm : v = m := by
        have := (lt_nn (i := m - 1) (n := v) (by omega) (by omega)).mp c20
        omega
      subst hvm
      refine G_iload (K := mX4_bestForItself) dX4_bestForItself_67 rfl ?_
      exact G_iret (st := []) (K := mX4_bestForItself) dX4_bestForItself_69 rfl (hQ _ _ ⟨by rw [← hst], hRv⟩)
    · skip
      have hvm : v < m := by
        have h : ¬ m - 1 < v := fun z => c20 ((lt_nn (by omega) (by omega)).mpr z)
        omega
      refine G_aload_n (K := mX4_bestForItself) (i := 0) dX4_bestForItself_23 rfl rfl ?_
      refine G_iload_n (K := mX4_bestForItself) (i := 1) dX4_bestForItself_24 rfl rfl ?_
      refine G_iload_n (K := mX4_bestForItself) (i := 2) dX4_bestForItself_25 rfl rfl ?_
      refine G_iload (K := mX4_bestForItself) dX4_bestForItself_26 rfl ?_
      refine G_iload_n (K := mX4_bestForItself) (i := 3) dX4_bestForItself_28 rfl rfl ?_
      refine G_gw (K := mX4_bestForItself) (k := k) (r := q) (w := w) (x := nI v) hRv hI (by omega) (by omega) hw9 (ups_wall hI (by omega)) lX4_156 dX4_bestForItself_29 (by decide) (Nat.le_of_ble_eq_true rfl) (fun h4 hh4 hR4 => ?_)
      have e4 : hput M1 12 h4 14 q = bestF σ k w q v := (congrFun (hput_in (M := M1) (h := h4) (b := 12) (j := 2) (by omega)) q).trans (hh4.f 2 (by omega) (by omega) hq)
      refine G_aload_n (K := mX4_bestForItself) (i := 0) dX4_bestForItself_32 rfl rfl ?_
      refine G_getr (K := mX4_bestForItself) fX4_16 dX4_bestForItself_33 rfl rfl ?_
      refine G_getr (K := mX4_bestForItself) fX4_113 dX4_bestForItself_36 rfl rfl ?_
      refine G_iload_n (K := mX4_bestForItself) (i := 1) dX4_bestForItself_39 rfl rfl ?_
      refine G_ld (K := mX4_bestForItself) q dX4_bestForItself_40 rfl rfl (by omega) (by decide) ?_
      refine G_iload (K := mX4_bestForItself) dX4_bestForItself_41 rfl ?_
      refine G_icmp_le (K := mX4_bestForItself) (tgt := 61) dX4_bestForItself_43 (by decide) (fun c43 => ?_) (fun c43 => ?_)
      · skip
        refine G_iincN (K := mX4_bestForItself) dX4_bestForItself_61 (by decide) rfl ?_
        refine G_goto (K := mX4_bestForItself) (tgt := 13) dX4_bestForItself_64 (by decide) ?_
        refine ih (v + 1) (by omega) (by omega) _ hR4 _ _ ?_
        rw [e4] at c43
        show _ = if (bestN (bestF σ k w q) v).2 < bestF σ k w q v then _ else _
        rw [← hst, if_neg (Int32.not_lt.mpr c43)]
      · skip
        refine G_aload_n (K := mX4_bestForItself) (i := 0) dX4_bestForItself_46 rfl rfl ?_
        refine G_getr (K := mX4_bestForItself) fX4_16 dX4_bestForItself_47 rfl rfl ?_
        refine G_getr (K := mX4_bestForItself) fX4_113 dX4_bestForItself_50 rfl rfl ?_
        refine G_iload_n (K := mX4_bestForItself) (i := 1) dX4_bestForItself_53 rfl rfl ?_
        refine G_ld (K := mX4_bestForItself) q dX4_bestForItself_54 rfl rfl (by omega) (by decide) ?_
        refine G_istore (K := mX4_bestForItself) dX4_bestForItself_55 (by decide) ?_
        refine G_iload (K := mX4_bestForItself) dX4_bestForItself_57 rfl ?_
        refine G_istore (K := mX4_bestForItself) dX4_bestForItself_59 (by decide) ?_
        refine G_iincN (K := mX4_bestForItself) dX4_bestForItself_61 (by decide) rfl ?_
        refine G_goto (K := mX4_bestForItself) (tgt := 13) dX4_bestForItself_64 (by decide) ?_
        refine ih (v + 1) (by omega) (by omega) _ hR4 _ _ ?_
        rw [e4] at c43 ⊢
        show _ = if (bestN (bestF σ k w q) v).2 < bestF σ k w q v then _ else _
        rw [← hst, if_pos (Int32.not_le.mp c43)]
  exact loop13 0 (by omega) _ hR _ _ rfl

set_option maxRecDepth 20000 in
theorem cl_kindFor {M σ : Mem} {r a : Int32} (hR : RC M σ) (hI : Inv σ) {Q : Option Value → Mem → Prop} (hQ : ∀ u' M', PostC (opBest σ r a 0 7) u' M' → Q u' M') : CT mX4_kindFor shC 8 [.ref 0, .int r, .int a] M Q := by
  refine CT.mk [some (.ref 0), some (.int r), some (.int a), none] (by decide) (Nat.le_of_ble_eq_true rfl) rfl rfl ?_
  refine G_aload_n (K := mX4_kindFor) (i := 0) dX4_kindFor_0 rfl rfl ?_
  refine G_iload_n (K := mX4_kindFor) (i := 1) dX4_kindFor_1 rfl rfl ?_
  refine G_iload_n (K := mX4_kindFor) (i := 2) dX4_kindFor_2 rfl rfl ?_
  refine G_cv (K := mX4_kindFor) (cl_fRoom (r := r) (a := a) hR hI ⟨rfl, rfl⟩) vX4_findingOfRoomAhead rfl lX4_153 dX4_kindFor_3 ⟨_, _, _, rfl, rfl, rfl⟩ (by decide) rfl (Nat.le_of_ble_eq_true rfl) ?_
  refine G_istore_n (K := mX4_kindFor) (i := 3) dX4_kindFor_6 rfl (by decide) ?_
  refine G_iload_n (K := mX4_kindFor) (i := 3) dX4_kindFor_7 rfl rfl ?_
  refine G_if_eq (K := mX4_kindFor) (tgt := 17) dX4_kindFor_8 (by decide) (fun c8 => ?_) (fun c8 => ?_)
  · skip
    obtain ⟨q, k, hq, rfl, hk1, hk2, rfl, hH⟩ := refR_0 hI c8
    have hn8 := hI.n8
    refine G_aload_n (K := mX4_kindFor) (i := 0) dX4_kindFor_17 rfl rfl ?_
    refine G_iload_n (K := mX4_kindFor) (i := 1) dX4_kindFor_18 rfl rfl ?_
    refine G_iconst (K := mX4_kindFor) (v := 0) dX4_kindFor_19 (by decide) ?_
    refine G_iload_n (K := mX4_kindFor) (i := 2) dX4_kindFor_20 rfl rfl ?_
    refine G_call0 (K := mX4_kindFor) (Q' := PostC ((bestN (bestF σ k 0 q) 7).1, σ)) (cl_best (q := q) (k := k) (w := 0) (m := 7) (by omega) hq hk2 hR hI (fun _ _ h => h)) vX4_bestForItself rfl lX4_164 ⟨_, _, _, rfl, rfl, rfl⟩ (by decide) (Nat.le_of_ble_eq_true rfl) dX4_kindFor_21 rfl ?_
    rintro v M1 ⟨rfl, hR1⟩
    exact G_iret (st := []) (K := mX4_kindFor) dX4_kindFor_24 rfl (hQ _ _ (by rw [show opBest σ (nI q) (nI k) 0 7 = _ from (by unfold opBest; exact if_pos c8)]; rw [cut_nI hk2, cut_nI (by omega)]; exact ⟨rfl, hR1⟩))
  · skip
    refine G_aload_n (K := mX4_kindFor) (i := 0) dX4_kindFor_11 rfl rfl ?_
    refine G_iload_n (K := mX4_kindFor) (i := 3) dX4_kindFor_12 rfl rfl ?_
    obtain ⟨q, hq, eq⟩ := refR_fin c8
    rw [eq]
    refine G_call0 (K := mX4_kindFor) (Q' := PostC (tl σ q)) (cl_tell hR (k := q) (by omega) (fun _ _ h => h)) vX4_tell rfl lX4_53 ⟨_, _, _, rfl, rfl, rfl⟩ (by decide) (Nat.le_of_ble_eq_true rfl) dX4_kindFor_13 rfl ?_
    rintro v M1 ⟨rfl, hR1⟩
    exact G_iret (st := []) (K := mX4_kindFor) dX4_kindFor_16 rfl (hQ _ _ (by rw [show opBest σ r a 0 7 = _ from (by unfold opBest; exact (if_neg c8).trans ((congrArg (tlI σ) eq).trans (tlI_fin hq)))]; exact ⟨rfl, hR1⟩))

set_option maxRecDepth 20000 in
theorem cl_damper {M σ : Mem} {r a : Int32} (hR : RC M σ) (hI : Inv σ) {Q : Option Value → Mem → Prop} (hQ : ∀ u' M', PostC (opBest σ r a 6 4) u' M' → Q u' M') : CT mX4_damper shC 8 [.ref 0, .int r, .int a] M Q := by
  refine CT.mk [some (.ref 0), some (.int r), some (.int a), none] (by decide) (Nat.le_of_ble_eq_true rfl) rfl rfl ?_
  refine G_aload_n (K := mX4_damper) (i := 0) dX4_damper_0 rfl rfl ?_
  refine G_iload_n (K := mX4_damper) (i := 1) dX4_damper_1 rfl rfl ?_
  refine G_iload_n (K := mX4_damper) (i := 2) dX4_damper_2 rfl rfl ?_
  refine G_cv (K := mX4_damper) (cl_fRoom (r := r) (a := a) hR hI ⟨rfl, rfl⟩) vX4_findingOfRoomAhead rfl lX4_153 dX4_damper_3 ⟨_, _, _, rfl, rfl, rfl⟩ (by decide) rfl (Nat.le_of_ble_eq_true rfl) ?_
  refine G_istore_n (K := mX4_damper) (i := 3) dX4_damper_6 rfl (by decide) ?_
  refine G_iload_n (K := mX4_damper) (i := 3) dX4_damper_7 rfl rfl ?_
  refine G_if_eq (K := mX4_damper) (tgt := 17) dX4_damper_8 (by decide) (fun c8 => ?_) (fun c8 => ?_)
  · skip
    obtain ⟨q, k, hq, rfl, hk1, hk2, rfl, hH⟩ := refR_0 hI c8
    have hn8 := hI.n8
    refine G_aload_n (K := mX4_damper) (i := 0) dX4_damper_17 rfl rfl ?_
    refine G_iload_n (K := mX4_damper) (i := 1) dX4_damper_18 rfl rfl ?_
    refine G_bipush (K := mX4_damper) (v := 6) dX4_damper_19 (by decide) ?_
    refine G_iload_n (K := mX4_damper) (i := 2) dX4_damper_21 rfl rfl ?_
    refine G_call0 (K := mX4_damper) (Q' := PostC ((bestN (bestF σ k 6 q) 4).1, σ)) (cl_best (q := q) (k := k) (w := 6) (m := 4) (by omega) hq hk2 hR hI (fun _ _ h => h)) vX4_bestForItself rfl lX4_164 ⟨_, _, _, rfl, rfl, rfl⟩ (by decide) (Nat.le_of_ble_eq_true rfl) dX4_damper_22 rfl ?_
    rintro v M1 ⟨rfl, hR1⟩
    exact G_iret (st := []) (K := mX4_damper) dX4_damper_25 rfl (hQ _ _ (by rw [show opBest σ (nI q) (nI k) 6 4 = _ from (by unfold opBest; exact if_pos c8)]; rw [cut_nI hk2, cut_nI (by omega)]; exact ⟨rfl, hR1⟩))
  · skip
    refine G_aload_n (K := mX4_damper) (i := 0) dX4_damper_11 rfl rfl ?_
    refine G_iload_n (K := mX4_damper) (i := 3) dX4_damper_12 rfl rfl ?_
    obtain ⟨q, hq, eq⟩ := refR_fin c8
    rw [eq]
    refine G_call0 (K := mX4_damper) (Q' := PostC (tl σ q)) (cl_tell hR (k := q) (by omega) (fun _ _ h => h)) vX4_tell rfl lX4_53 ⟨_, _, _, rfl, rfl, rfl⟩ (by decide) (Nat.le_of_ble_eq_true rfl) dX4_damper_13 rfl ?_
    rintro v M1 ⟨rfl, hR1⟩
    exact G_iret (st := []) (K := mX4_damper) dX4_damper_16 rfl (hQ _ _ (by rw [show opBest σ r a 6 4 = _ from (by unfold opBest; exact (if_neg c8).trans ((congrArg (tlI σ) eq).trans (tlI_fin hq)))]; exact ⟨rfl, hR1⟩))

set_option maxRecDepth 20000 in
theorem cl_tempted {M σ : Mem} {a : Int32} (hR : RC M σ) (hI : Inv σ) {Q : Option Value → Mem → Prop} (hQ : ∀ u' M', PostC (opTempted σ a) u' M' → Q u' M') : CT mX4_tempted shC 8 [.ref 0, .int a] M Q := by
  refine CT.mk [some (.ref 0), some (.int a), none, none, none] (by decide) (Nat.le_of_ble_eq_true rfl) rfl rfl ?_
  refine G_aload_n (K := mX4_tempted) (i := 0) dX4_tempted_0 rfl rfl ?_
  refine G_iload_n (K := mX4_tempted) (i := 1) dX4_tempted_1 rfl rfl ?_
  refine G_bipush (K := mX4_tempted) (v := 60) dX4_tempted_2 (by decide) ?_
  refine G_cv (K := mX4_tempted) (cl_fHours (a := a) (most := 60) hR ⟨rfl, rfl⟩) vX4_findingOfHours rfl lX4_92 dX4_tempted_4 ⟨_, _, _, rfl, rfl, rfl⟩ (by decide) rfl (Nat.le_of_ble_eq_true rfl) ?_
  refine G_istore_n (K := mX4_tempted) (i := 2) dX4_tempted_7 rfl (by decide) ?_
  refine G_iload_n (K := mX4_tempted) (i := 2) dX4_tempted_8 rfl rfl ?_
  refine G_if_eq (K := mX4_tempted) (tgt := 18) dX4_tempted_9 (by decide) (fun c9 => ?_) (fun c9 => ?_)
  · skip
    obtain ⟨k, hk1, hk2, rfl⟩ := refH_nat c9
    have hn8 := hI.n8
    refine G_aload_n (K := mX4_tempted) (i := 0) dX4_tempted_18 rfl rfl ?_
    refine G_iload_n (K := mX4_tempted) (i := 1) dX4_tempted_19 rfl rfl ?_
    refine G_ga (K := mX4_tempted) (k := k) hR hI (by omega) lX4_141 dX4_tempted_20 (by decide) (Nat.le_of_ble_eq_true rfl) (fun h3 hh3 hR23 => ?_)
    refine G_iconst (K := mX4_tempted) (v := 0) dX4_tempted_23 (by decide) ?_
    refine G_istore_n (K := mX4_tempted) (i := 3) dX4_tempted_24 rfl (by decide) ?_
    refine G_iconst (K := mX4_tempted) (v := 0) dX4_tempted_25 (by decide) ?_
    refine G_istore (K := mX4_tempted) dX4_tempted_26 (by decide) ?_
    have loop28 : ∀ i, i ≤ nOf σ → ∀ M1, RC M1 σ → HR (hof M1 23) (aH σ k) (nOf σ) → ∀ s, s = bits (fun r => decide (aH σ k 2 r < wH σ k 0 r 0 2 r)) i → G mX4_tempted shC 8 Q 28 [some (.ref 0), some (.int (nI k)), some (.int (refH σ (nI k) 60)), some (.int s), some (.int (nI i))] [] M1 := by
      refine upto (nOf σ) (fun i hi ih => ?_)
      intro M1 hRi hAi s hs2
      have hn1 : M1 1 0 = nI (nOf σ) := hRi.n.trans hI.nI
      refine G_iload (K := mX4_tempted) dX4_tempted_28 rfl ?_
      refine G_aload_n (K := mX4_tempted) (i := 0) dX4_tempted_30 rfl rfl ?_
      refine G_getr (K := mX4_tempted) fX4_12 dX4_tempted_31 rfl rfl ?_
      refine G_geti (K := mX4_tempted) fX4_57 dX4_tempted_34 rfl rfl ?_
      refine G_icmp_ge (K := mX4_tempted) (tgt := 85) dX4_tempted_37 (by decide) (fun c37 => ?_) (fun c37 => ?_)
      · skip
        rw [hn1, le_nn (by omega) (by omega)] at c37
        have hin : i = nOf σ := by omega
        refine G_iload_n (K := mX4_tempted) (i := 3) dX4_tempted_85 rfl rfl ?_
        exact G_iret (st := []) (K := mX4_tempted) dX4_tempted_86 rfl (hQ _ _ (by rw [show opTempted σ (nI k) = _ from (by unfold opTempted; exact if_pos c9)]; rw [cut_nI hk2]; exact ⟨by rw [hs2, hin], hRi⟩))
      · skip
        rw [hn1, le_nn (by omega) (by omega)] at c37
        have hin : i < nOf σ := by omega
        refine G_aload_n (K := mX4_tempted) (i := 0) dX4_tempted_40 rfl rfl ?_
        refine G_iload (K := mX4_tempted) dX4_tempted_41 rfl ?_
        refine G_iconst (K := mX4_tempted) (v := 0) dX4_tempted_43 (by decide) ?_
        refine G_iconst (K := mX4_tempted) (v := 0) dX4_tempted_44 (by decide) ?_
        refine G_iload_n (K := mX4_tempted) (i := 1) dX4_tempted_45 rfl rfl ?_
        refine G_gw (K := mX4_tempted) (k := k) (r := i) (w := 0) (x := 0) hRi hI (by omega) (by omega) (by decide) (ups_wall hI (by decide)) lX4_156 dX4_tempted_46 (by decide) (Nat.le_of_ble_eq_true rfl) (fun h4 hh4 hR4 => ?_)
        have e1 : hput M1 12 h4 14 i = wH σ k 0 i 0 2 i := (congrFun (hput_in (M := M1) (h := h4) (b := 12) (j := 2) (by omega)) i).trans (hh4.f 2 (by omega) (by omega) hin)
        have hA4 : HR (hof (hput M1 12 h4) 23) (aH σ k) (nOf σ) := HR.hpn hAi (by unfold apart; omega)
        have e2 : hput M1 12 h4 25 i = aH σ k 2 i := hA4.f 2 (by omega) (by omega) hin
        refine G_aload_n (K := mX4_tempted) (i := 0) dX4_tempted_49 rfl rfl ?_
        refine G_getr (K := mX4_tempted) fX4_16 dX4_tempted_50 rfl rfl ?_
        refine G_getr (K := mX4_tempted) fX4_113 dX4_tempted_53 rfl rfl ?_
        refine G_iload (K := mX4_tempted) dX4_tempted_56 rfl ?_
        refine G_ld (K := mX4_tempted) _ dX4_tempted_58 rfl rfl (by omega) (by decide) ?_
        refine G_aload_n (K := mX4_tempted) (i := 0) dX4_tempted_59 rfl rfl ?_
        refine G_getr (K := mX4_tempted) fX4_19 dX4_tempted_60 rfl rfl ?_
        refine G_getr (K := mX4_tempted) fX4_113 dX4_tempted_63 rfl rfl ?_
        refine G_iload (K := mX4_tempted) dX4_tempted_66 rfl ?_
        refine G_ld (K := mX4_tempted) _ dX4_tempted_68 rfl rfl (by omega) (by decide) ?_
        refine G_icmp_le (K := mX4_tempted) (tgt := 79) dX4_tempted_69 (by decide) (fun c69 => ?_) (fun c69 => ?_)
        · skip
          refine G_iincN (K := mX4_tempted) dX4_tempted_79 (by decide) rfl ?_
          refine G_goto (K := mX4_tempted) (tgt := 28) dX4_tempted_82 (by decide) ?_
          refine ih (i + 1) (by omega) (by omega) _ hR4 hA4 _ ?_
          rw [e1, e2] at c69
          first
            | (rw [bits_t (decide_eq_true (Int32.not_le.mp c69)), hs2]; rfl)
            | (rw [bits_f (by rw [decide_eq_true_iff]; exact Int32.not_lt.mpr c69)]; exact hs2)
        · skip
          refine G_iload_n (K := mX4_tempted) (i := 3) dX4_tempted_72 rfl rfl ?_
          refine G_iconst (K := mX4_tempted) (v := 1) dX4_tempted_73 (by decide) ?_
          refine G_iload (K := mX4_tempted) dX4_tempted_74 rfl ?_
          refine G_ishl (K := mX4_tempted) dX4_tempted_76 ?_
          refine G_ior (K := mX4_tempted) dX4_tempted_77 ?_
          refine G_istore_n (K := mX4_tempted) (i := 3) dX4_tempted_78 rfl (by decide) ?_
          refine G_iincN (K := mX4_tempted) dX4_tempted_79 (by decide) rfl ?_
          refine G_goto (K := mX4_tempted) (tgt := 28) dX4_tempted_82 (by decide) ?_
          refine ih (i + 1) (by omega) (by omega) _ hR4 hA4 _ ?_
          rw [e1, e2] at c69
          first
            | (rw [bits_t (decide_eq_true (Int32.not_le.mp c69)), hs2]; rfl)
            | (rw [bits_f (by rw [decide_eq_true_iff]; exact Int32.not_lt.mpr c69)]; exact hs2)
    exact loop28 0 (by omega) _ hR23 (HR.hp hh3) _ rfl
  · skip
    refine G_aload_n (K := mX4_tempted) (i := 0) dX4_tempted_12 rfl rfl ?_
    refine G_iload_n (K := mX4_tempted) (i := 2) dX4_tempted_13 rfl rfl ?_
    obtain ⟨q, hq, eq⟩ := refH_fin c9
    rw [eq]
    refine G_call0 (K := mX4_tempted) (Q' := PostC (tl σ q)) (cl_tell hR (k := q) (by omega) (fun _ _ h => h)) vX4_tell rfl lX4_53 ⟨_, _, _, rfl, rfl, rfl⟩ (by decide) (Nat.le_of_ble_eq_true rfl) dX4_tempted_14 rfl ?_
    rintro v M1 ⟨rfl, hR1⟩
    exact G_iret (st := []) (K := mX4_tempted) dX4_tempted_17 rfl (hQ _ _ (by rw [show opTempted σ a = _ from (by unfold opTempted; exact (if_neg c9).trans ((congrArg (tlI σ) eq).trans (tlI_fin hq)))]; exact ⟨rfl, hR1⟩))
