set_option maxRecDepth 20000 in
theorem cl_goWith {M σ : Mem} {n k r w : Nat} {x : Int32} (H : HR (hof M 1) σ n) (hn : σ 0 0 = nI n) (hn8 : n ≤ 8) (hk : k < 2147483648) (hr : r < n) (hw9 : w < 9) (hw : ∀ i, i < n → 0 < ups σ (1 + w) r x 4 i) {Q : Option Value → Mem → Prop} (hQ : ∀ h', HR h' (hoursH n k (ups σ (1 + w) r x)) n → Q none (hput M 12 h')) : CT mX4_goWith shC 5 [.ref 0, .int (nI r), .int (nI w), .int x, .int (nI k)] M Q := by
  refine CT.mk [some (.ref 0), some (.int (nI r)), some (.int (nI w)), some (.int x), some (.int (nI k)), none] (by decide) (Nat.le_of_ble_eq_true rfl) rfl rfl ?_
  refine G_aload_n (K := mX4_goWith) (i := 0) dX4_goWith_0 rfl rfl ?_
  refine G_call0 (K := mX4_goWith) (Q' := fun v M' => v = none ∧ ∃ h', HR h' (hof M 1) 8 ∧ M' = hput M 12 h') (cl_start (fun h' hh' => ⟨rfl, h', hh', rfl⟩)) vX4_startTrial rfl lX4_120 ⟨_, _, _, rfl, rfl, rfl⟩ (by decide) (Nat.le_of_ble_eq_true rfl) dX4_goWith_1 rfl ?_
  rintro v M1 ⟨rfl, h1, hh1, rfl⟩
  refine G_aload_n (K := mX4_goWith) (i := 0) dX4_goWith_4 rfl rfl ?_
  refine G_getr (K := mX4_goWith) fX4_16 dX4_goWith_5 rfl rfl ?_
  refine G_iload_n (K := mX4_goWith) (i := 2) dX4_goWith_8 rfl rfl ?_
  refine G_callH (K := mX4_goWith) (b := 12) (by unfold isH; omega) (as := [.int (nI w)]) (Q' := fun v M' => v = some (.ref (w + 1)) ∧ M' = hof (hput M 12 h1) 12) (c_X0_rowOf (w := nI w) (fun q hq e => ⟨by rw [(nI_eq (by omega) (by omega)).mp e], rfl⟩) (fun hno => absurd rfl (hno w hw9))) vX0_rowOf rfl lX4_71 rfl (by decide) (Nat.le_of_ble_eq_true rfl) dX4_goWith_9 rfl ?_
  rintro v M' ⟨rfl, rfl⟩
  rw [hput_hof]
  have erow : hsub 12 (w + 1) = 12 + (1 + w) := by unfold hsub; rw [if_pos (by omega)]; omega
  have hshr : shC[12 + (1 + w)]? = some (.inr (.inl 8)) := by
    have h9 : w = 0 ∨ w = 1 ∨ w = 2 ∨ w = 3 ∨ w = 4 ∨ w = 5 ∨ w = 6 ∨ w = 7 ∨ w = 8 := by omega
    rcases h9 with rfl | rfl | rfl | rfl | rfl | rfl | rfl | rfl | rfl <;> rfl
  show G mX4_goWith shC 5 Q 12 _ (.ref (hsub 12 (w + 1)) :: []) _
  rw [erow]
  refine G_astore (K := mX4_goWith) dX4_goWith_12 (by decide) ?_
  refine G_aload (K := mX4_goWith) dX4_goWith_14 rfl ?_
  refine G_ifnull (K := mX4_goWith) dX4_goWith_16 ?_
  refine G_aload_n (K := mX4_goWith) (i := 0) dX4_goWith_19 rfl rfl ?_
  refine G_getr (K := mX4_goWith) fX4_16 dX4_goWith_20 rfl rfl ?_
  refine G_iload_n (K := mX4_goWith) (i := 1) dX4_goWith_23 rfl rfl ?_
  refine G_hp (K := mX4_goWith) (b := 12) (by unfold isH; omega) (c_X0_has (M := hof (hput M 12 h1) 12) (r := nI r) ⟨rfl, rfl⟩) vX0_has rfl lX4_65 dX4_goWith_24 rfl (by decide) rfl (Nat.le_of_ble_eq_true rfl) ?_
  rw [hasI_B (n := n) (by rw [hof_hput M h1 12 0 (by omega), hh1.1 0 (by omega), H.1 0 (by omega)]; exact hn) hn8]
  refine G_if_eq (K := mX4_goWith) (tgt := 35) dX4_goWith_27 (by decide) (fun c27 => ?_) (fun c27 => ?_)
  · skip
    rw [roomB_nI (by omega) hr] at c27
    exact absurd c27 (by decide)
  · skip
    refine G_aload (K := mX4_goWith) dX4_goWith_30 rfl ?_
    refine G_iload_n (K := mX4_goWith) (i := 1) dX4_goWith_32 rfl rfl ?_
    refine G_iload_n (K := mX4_goWith) (i := 3) dX4_goWith_33 rfl rfl ?_
    refine G_sto (K := mX4_goWith) r dX4_goWith_34 hshr rfl (by omega) (by decide) ?_
    rw [hput_ups (by omega)]
    refine G_aload_n (K := mX4_goWith) (i := 0) dX4_goWith_35 rfl rfl ?_
    refine G_getr (K := mX4_goWith) fX4_16 dX4_goWith_36 rfl rfl ?_
    refine G_iload (K := mX4_goWith) dX4_goWith_39 rfl ?_
    refine G_hrs (K := mX4_goWith) (b := 12) (n := n) (k := k) (h := ups σ (1 + w) r x) (by unfold isH; omega) (HR.hp (((hh1.le hn8).tr H).upd1 (by omega) (by omega))) ((congrFun (ups_cell (by omega)) 0).trans hn) hn8 hk hw lX4_96 dX4_goWith_41 (by decide) (Nat.le_of_ble_eq_true rfl) (fun h2 hh2 => ?_)
    refine G_pop (K := mX4_goWith) dX4_goWith_44 rfl ?_
    exact G_vrm (K := mX4_goWith) dX4_goWith_45 rfl (hput_hput M _ _ 12) (hQ h2 hh2)

theorem swM_congr {M h : Mem} {n c i j : Nat} (H : HR M h n) (hc : 1 ≤ c) (hc9 : c ≤ 9) (hi : i < n) (hj : j < n) : HR (swM M c i j) (swM h c i j) n := by
  unfold swM
  rw [H.f c hc hc9 hi, H.f c hc hc9 hj]
  exact (H.upd1 hc hc9).upd1 hc hc9
theorem chgH_congr {M h : Mem} {n i j : Nat} (H : HR M h n) (hi : i < n) (hj : j < n) : HR (chgH M i j) (chgH h i j) n :=
  swM_congr (swM_congr (swM_congr H (by omega) (by omega) hi hj) (by omega) (by omega) hi hj) (by omega) (by omega) hi hj
theorem swM_cell {M : Mem} {c i j q : Nat} (hq : q ≠ c) : swM M c i j q = M q := by
  unfold swM
  rw [ups_cell hq, ups_cell hq]
theorem chgH_cell {M : Mem} {i j q : Nat} (h1 : q ≠ 1) (h6 : q ≠ 6) (h9 : q ≠ 9) : chgH M i j q = M q := by
  unfold chgH
  rw [swM_cell h9, swM_cell h6, swM_cell h1]
set_option maxRecDepth 20000 in
theorem cl_goWithMove {M σ : Mem} {n k i j : Nat} (H : HR (hof M 1) σ n) (hn : σ 0 0 = nI n) (hn8 : n ≤ 8) (hk : k < 2147483648) (hi : i < n) (hj : j < n) (hw : ∀ i, i < n → 0 < σ 4 i) {Q : Option Value → Mem → Prop} (hQ : ∀ h', HR h' (hoursH n k (chgH σ i j)) n → Q none (hput M 12 h')) : CT mX4_goWithMove shC 5 [.ref 0, .int (nI i), .int (nI j), .int (nI k)] M Q := by
  refine CT.mk [some (.ref 0), some (.int (nI i)), some (.int (nI j)), some (.int (nI k))] (by decide) (Nat.le_of_ble_eq_true rfl) rfl rfl ?_
  refine G_aload_n (K := mX4_goWithMove) (i := 0) dX4_goWithMove_0 rfl rfl ?_
  refine G_call0 (K := mX4_goWithMove) (Q' := fun v M' => v = none ∧ ∃ h', HR h' (hof M 1) 8 ∧ M' = hput M 12 h') (cl_start (fun h' hh' => ⟨rfl, h', hh', rfl⟩)) vX4_startTrial rfl lX4_120 ⟨_, _, _, rfl, rfl, rfl⟩ (by decide) (Nat.le_of_ble_eq_true rfl) dX4_goWithMove_1 rfl ?_
  rintro v M1 ⟨rfl, h1, hh1, rfl⟩
  refine G_aload_n (K := mX4_goWithMove) (i := 0) dX4_goWithMove_4 rfl rfl ?_
  refine G_getr (K := mX4_goWithMove) fX4_16 dX4_goWithMove_5 rfl rfl ?_
  refine G_iload_n (K := mX4_goWithMove) (i := 1) dX4_goWithMove_8 rfl rfl ?_
  refine G_iload_n (K := mX4_goWithMove) (i := 2) dX4_goWithMove_9 rfl rfl ?_
  refine G_hn (K := mX4_goWithMove) (b := 12) (by unfold isH; omega) (c_X0_changePlaces (M := hof (hput M 12 h1) 12) (i := i) (j := j) (by omega) (by omega) ⟨rfl, rfl⟩) vX0_changePlaces rfl lX4_88 dX4_goWithMove_10 rfl (by decide) rfl (Nat.le_of_ble_eq_true rfl) ?_
  refine G_aload_n (K := mX4_goWithMove) (i := 0) dX4_goWithMove_13 rfl rfl ?_
  refine G_getr (K := mX4_goWithMove) fX4_16 dX4_goWithMove_14 rfl rfl ?_
  refine G_iload_n (K := mX4_goWithMove) (i := 3) dX4_goWithMove_17 rfl rfl ?_
  refine G_hrs (K := mX4_goWithMove) (b := 12) (n := n) (k := k) (h := chgH σ i j) (by unfold isH; omega) (HR.hp (chgH_congr (HR.hp ((hh1.le hn8).tr H)) hi hj)) ((congrFun (chgH_cell (by omega) (by omega) (by omega)) 0).trans hn) hn8 hk (fun i hi => by rw [chgH_cell (by omega) (by omega) (by omega)]; exact hw i hi) lX4_96 dX4_goWithMove_18 (by decide) (Nat.le_of_ble_eq_true rfl) (fun h2 hh2 => ?_)
  refine G_pop (K := mX4_goWithMove) dX4_goWithMove_21 rfl ?_
  exact G_vrm (K := mX4_goWithMove) dX4_goWithMove_22 rfl (by rw [hput_hput, hput_hput]) (hQ h2 hh2)
