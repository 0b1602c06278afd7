theorem mul3 {k : Nat} (h : k < 100000) : (3 : Int32) * nI k = nI (3 * k) := by
  apply i32_ext
  have e3 : (3 : Int32).toInt = 3 := rfl
  rw [mul_I (by rw [e3, nI_toI (by omega)]; omega) (by rw [e3, nI_toI (by omega)]; omega), e3, nI_toI (by omega), nI_toI (by omega)]
  omega
theorem HJ.coal {h : Mem} {n r v : Nat} (H : HJ h n) (hv : v ≤ 999) : HJ (ups h 3 r (nI v)) n := fun i hi => by
  obtain ⟨h2, h3, h4, h7, h8, h9⟩ := H i hi
  refine ⟨h2, ?_, h4, h7, h8, h9⟩
  by_cases hir : i = r
  · subst hir
    rw [ups_same]
    unfold rg
    rw [nI_toI (by omega)]
    omega
  · rw [ups_ne (fun z => hir z.2)]; exact h3
theorem coal_more {σ : Mem} {k r v : Nat} (hI : Inv σ) (hr : r < nOf σ) (hv : 3 * k ≤ v) (hv2 : v ≤ 999) (c : Nat) (hc : c ≠ 3) : wH σ k 2 r (nI v) c = wH σ k 2 r (nI (3 * k)) c := by
  have hs : sameBut (ups σ 3 r (nI v)) (ups σ 3 r (nI (3 * k))) r := ⟨fun c hc => by rw [ups_cell hc, ups_cell hc], fun i hi => by rw [ups_ne (fun z => hi z.2), ups_ne (fun z => hi z.2)]⟩
  have o : 0 ≤ (σ 0 1).toInt := hI.1.2.2.1.1
  exact (hours_enough (A := ups σ 3 r (nI v)) (B := ups σ 3 r (nI (3 * k))) hI.n8 hr o o k hs (hI.1.j.coal hv2) (hI.1.j.coal (by omega)) (by rw [ups_same, nI_toI (by omega)]; omega) (by rw [ups_same, nI_toI (by omega)]; omega)).1 c hc
theorem wall_ok {σ : Mem} {r v : Nat} (hI : Inv σ) (hv : 1 ≤ v) (hv2 : v < 2147483648) : ∀ i, i < nOf σ → 0 < ups σ (1 + 3) r (nI v) 4 i := fun i hi => by
  by_cases hir : i = r
  · subst hir
    rw [show 1 + 3 = 4 from rfl, ups_same, i32_lt, nI_toI hv2]
    show (0 : Int) < _
    omega
  · rw [show 1 + 3 = 4 from rfl, ups_ne (fun z => hir z.2)]
    exact hI.wall i hi
theorem refH_60 {σ : Mem} {k : Nat} {m : Nat} (hk : k < 2147483648) (hm : m < 2147483648) (h : refH σ (nI k) (nI m) = 0) : k ≤ m := by
  have := (refH_0 h).2.1
  rw [i32_lt, nI_toI hm, nI_toI hk] at this
  omega
set_option maxRecDepth 20000 in
theorem cl_coal {M σ : Mem} {r a : Int32} (hR : RC M σ) (hI : Inv σ) {Q : Option Value → Mem → Prop} (hQ : ∀ u' M', PostC (opCoal σ r a) u' M' → Q u' M') : CT mX4_coal shC 8 [.ref 0, .int r, .int a] M Q := by
  refine CT.mk [some (.ref 0), some (.int r), some (.int a), none, none] (by decide) (Nat.le_of_ble_eq_true rfl) rfl rfl ?_
  refine G_aload_n (K := mX4_coal) (i := 0) dX4_coal_0 rfl rfl ?_
  refine G_iload_n (K := mX4_coal) (i := 1) dX4_coal_1 rfl rfl ?_
  refine G_iload_n (K := mX4_coal) (i := 2) dX4_coal_2 rfl rfl ?_
  refine G_cv (K := mX4_coal) (cl_fRoom (r := r) (a := a) hR hI ⟨rfl, rfl⟩) vX4_findingOfRoomAhead rfl lX4_153 dX4_coal_3 ⟨_, _, _, rfl, rfl, rfl⟩ (by decide) rfl (Nat.le_of_ble_eq_true rfl) ?_
  refine G_istore_n (K := mX4_coal) (i := 3) dX4_coal_6 rfl (by decide) ?_
  refine G_iload_n (K := mX4_coal) (i := 3) dX4_coal_7 rfl rfl ?_
  refine G_if_ne (K := mX4_coal) (tgt := 33) dX4_coal_8 (by decide) (fun c8 => ?_) (fun c8 => ?_)
  · skip
    refine G_iload_n (K := mX4_coal) (i := 3) dX4_coal_33 rfl rfl ?_
    refine G_if_eq (K := mX4_coal) (tgt := 43) dX4_coal_34 (by decide) (fun c34 => ?_) (fun c34 => ?_)
    · skip
      exact absurd c34 c8
    · skip
      
      refine G_aload_n (K := mX4_coal) (i := 0) dX4_coal_37 rfl rfl ?_
      refine G_iload_n (K := mX4_coal) (i := 3) dX4_coal_38 rfl rfl ?_
      obtain ⟨q, hq, eq⟩ := refR_fin c8
      rw [eq]
      refine G_call0 (K := mX4_coal) (Q' := PostC (tl σ q)) (cl_tell hR (k := q) (by omega) (fun _ _ h => h)) vX4_tell rfl lX4_53 ⟨_, _, _, rfl, rfl, rfl⟩ (by decide) (Nat.le_of_ble_eq_true rfl) dX4_coal_39 rfl ?_
      rintro v M1 ⟨rfl, hR1⟩
      exact G_iret (st := []) (K := mX4_coal) dX4_coal_42 rfl (hQ _ _ (by rw [show opCoal σ r a = _ from (by unfold opCoal; exact (if_neg c8).trans ((congrArg (tlI σ) eq).trans (tlI_fin hq)))]; exact ⟨rfl, hR1⟩))
  · skip
    obtain ⟨q, k, hq, rfl, hk1, hk2, rfl, hH⟩ := refR_0 hI c8
    have hn8 := hI.n8
    have hk60 : k ≤ 60 := refH_60 (m := 60) hk2 (by omega) hH
    refine G_aload_n (K := mX4_coal) (i := 0) dX4_coal_11 rfl rfl ?_
    refine G_getr (K := mX4_coal) fX4_12 dX4_coal_12 rfl rfl ?_
    refine G_aload_n (K := mX4_coal) (i := 0) dX4_coal_15 rfl rfl ?_
    refine G_getr (K := mX4_coal) fX4_12 dX4_coal_16 rfl rfl ?_
    refine G_getr (K := mX4_coal) fX4_195 dX4_coal_19 rfl rfl ?_
    refine G_iload_n (K := mX4_coal) (i := 1) dX4_coal_22 rfl rfl ?_
    refine G_ld (K := mX4_coal) q dX4_coal_23 rfl rfl (by omega) (by decide) ?_
    refine G_hp (K := mX4_coal) (b := 1) (by unfold isH; omega) (c_X0_has (M := hof M 1) (r := M 6 q) ⟨rfl, rfl⟩) vX0_has rfl lX4_65 dX4_coal_24 rfl (by decide) rfl (Nat.le_of_ble_eq_true rfl) ?_
    rw [hasI_B (hR.nI hI) hI.n8]
    have e6 : M 6 q = σ 5 q := hR.1.f 5 (by omega) (by omega) hq
    rw [e6]
    refine G_if_ne (K := mX4_coal) (tgt := 33) dX4_coal_27 (by decide) (fun c27 => ?_) (fun c27 => ?_)
    · skip
      refine G_iload_n (K := mX4_coal) (i := 3) dX4_coal_33 rfl rfl ?_
      refine G_if_eq (K := mX4_coal) (tgt := 43) dX4_coal_34 (by decide) (fun c34 => ?_) (fun c34 => ?_)
      · skip
        obtain ⟨t, ht, et⟩ := roomB_t (by omega) (bI_1 c27)
        refine G_iconst (K := mX4_coal) (v := 0) dX4_coal_43 (by decide) ?_
        refine G_istore (K := mX4_coal) dX4_coal_44 (by decide) ?_
        have loop46 : ∀ v, v ≤ 3 * k + 1 → ∀ M1, RC M1 σ → (∀ j, j < v → (fun v => decide (60 ≤ wH σ k 2 q (nI v) 2 t)) j = false) → G mX4_coal shC 8 Q 46 [some (.ref 0), some (.int (nI q)), some (.int (nI k)), some (.int (refR σ (nI q) (nI k))), some (.int (nI v))] [] M1 := by
          refine upto (3 * k + 1) (fun v hv ih => ?_)
          intro M1 hRv hno
          refine G_iload (K := mX4_coal) dX4_coal_46 rfl ?_
          refine G_iconst (K := mX4_coal) (v := 3) dX4_coal_48 (by decide) ?_
          refine G_iload_n (K := mX4_coal) (i := 2) dX4_coal_49 rfl rfl ?_
          refine G_imul (K := mX4_coal) dX4_coal_50 ?_
          refine G_icmp_gt (K := mX4_coal) (tgt := 94) dX4_coal_51 (by decide) (fun c51 => ?_) (fun c51 => ?_)
          · skip
            rw [mul3 (by omega), lt_nn (by omega) (by omega)] at c51
            have hv1 : v = 3 * k + 1 := by omega
            refine G_aload_n (K := mX4_coal) (i := 0) dX4_coal_94 rfl rfl ?_
            refine G_ldc (K := mX4_coal) dX4_coal_95 kX4_137 ?_
            refine G_call0 (K := mX4_coal) (Q' := PostC (tl σ 3)) (cl_tell hRv (k := 3) (by omega) (fun _ _ h => h)) vX4_tell rfl lX4_53 ⟨_, _, _, rfl, rfl, rfl⟩ (by decide) (Nat.le_of_ble_eq_true rfl) dX4_coal_97 rfl ?_
            rintro v M1 ⟨rfl, hR1⟩
            exact G_iret (st := []) (K := mX4_coal) dX4_coal_100 rfl (hQ _ _ (by
              rw [show opCoal σ (nI q) (nI k) = orNone σ (findF (fun v => decide (60 ≤ wH σ (cut (nI k)) 2 (cut (nI q)) (nI v) 2 (cut (σ 5 (cut (nI q)))))) 0 1000) nI from (if_pos c8).trans (if_pos (by rw [cut_nI (by omega)]; exact bI_1 c27)), cut_nI hk2, cut_nI (by omega), et, cut_nI (by omega), findF_n0 (fun z hz => ?_)]
              · exact ⟨rfl, hR1⟩
              · by_cases hz2 : z < v
                · exact hno z hz2
                · have h3k := hno (3 * k) (by omega)
                  show decide (60 ≤ wH σ k 2 q (nI z) 2 t) = false
                  rw [coal_more hI hq (by omega) (by omega) 2 (by decide)]
                  exact h3k))
          · skip
            rw [mul3 (by omega), lt_nn (by omega) (by omega)] at c51
            have hv1 : v ≤ 3 * k := by omega
            refine G_aload_n (K := mX4_coal) (i := 0) dX4_coal_54 rfl rfl ?_
            refine G_iload_n (K := mX4_coal) (i := 1) dX4_coal_55 rfl rfl ?_
            refine G_iconst (K := mX4_coal) (v := 2) dX4_coal_56 (by decide) ?_
            refine G_iload (K := mX4_coal) dX4_coal_57 rfl ?_
            refine G_iload_n (K := mX4_coal) (i := 2) dX4_coal_59 rfl rfl ?_
            refine G_gw (K := mX4_coal) (k := k) (r := q) (w := 2) (x := nI v) hRv hI (by omega) (by omega) (by decide) (ups_wall hI (by decide)) lX4_156 dX4_coal_60 (by decide) (Nat.le_of_ble_eq_true rfl) (fun h4 hh4 hR4 => ?_)
            have e4 : hput M1 12 h4 14 t = wH σ k 2 q (nI v) 2 t := (congrFun (hput_in (M := M1) (h := h4) (b := 12) (j := 2) (by omega)) t).trans (hh4.f 2 (by omega) (by omega) ht)
            have e5 : hput M1 12 h4 6 q = nI t := (congrFun (hput_out (by omega)) q).trans ((hRv.1.f 5 (by omega) (by omega) hq).trans et)
            refine G_aload_n (K := mX4_coal) (i := 0) dX4_coal_63 rfl rfl ?_
            refine G_getr (K := mX4_coal) fX4_16 dX4_coal_64 rfl rfl ?_
            refine G_getr (K := mX4_coal) fX4_113 dX4_coal_67 rfl rfl ?_
            refine G_aload_n (K := mX4_coal) (i := 0) dX4_coal_70 rfl rfl ?_
            refine G_getr (K := mX4_coal) fX4_12 dX4_coal_71 rfl rfl ?_
            refine G_getr (K := mX4_coal) fX4_195 dX4_coal_74 rfl rfl ?_
            refine G_iload_n (K := mX4_coal) (i := 1) dX4_coal_77 rfl rfl ?_
            refine G_ld (K := mX4_coal) q dX4_coal_78 rfl rfl (by omega) (by decide) ?_
            refine G_ld (K := mX4_coal) t dX4_coal_79 rfl e5 (by omega) (by decide) ?_
            refine G_bipush (K := mX4_coal) (v := 60) dX4_coal_80 (by decide) ?_
            refine G_icmp_lt (K := mX4_coal) (tgt := 88) dX4_coal_82 (by decide) (fun c82 => ?_) (fun c82 => ?_)
            · skip
              refine G_iincN (K := mX4_coal) dX4_coal_88 (by decide) rfl ?_
              refine G_goto (K := mX4_coal) (tgt := 46) dX4_coal_91 (by decide) ?_
              refine ih (v + 1) (by omega) (by omega) _ hR4 (fun j hj => ?_)
              by_cases hjv : j = v
              · subst hjv
                rw [e4] at c82
                exact decide_eq_false (Int32.not_le.mpr c82)
              · exact hno j (by omega)
            · skip
              refine G_iload (K := mX4_coal) dX4_coal_85 rfl ?_
              rw [e4] at c82
              exact G_iret (st := []) (K := mX4_coal) dX4_coal_87 rfl (hQ _ _ (by rw [show opCoal σ (nI q) (nI k) = orNone σ (findF (fun v => decide (60 ≤ wH σ (cut (nI k)) 2 (cut (nI q)) (nI v) 2 (cut (σ 5 (cut (nI q)))))) 0 1000) nI from (if_pos c8).trans (if_pos (by rw [cut_nI (by omega)]; exact bI_1 c27)), cut_nI hk2, cut_nI (by omega), et, cut_nI (by omega), findF_0 (j := v) (by omega) hno (decide_eq_true (Int32.not_lt.mp c82))]; exact ⟨rfl, hR4⟩))
        exact loop46 0 (by omega) _ hR (fun j hj => absurd hj (by omega))
      · skip
        exact absurd c8 c34
    · skip
      refine G_ldc (K := mX4_coal) dX4_coal_30 kX4_119 ?_
      refine G_istore_n (K := mX4_coal) (i := 3) dX4_coal_32 rfl (by decide) ?_
      refine G_iload_n (K := mX4_coal) (i := 3) dX4_coal_33 rfl rfl ?_
      refine G_if_eq (K := mX4_coal) (tgt := 43) dX4_coal_34 (by decide) (fun c34 => ?_) (fun c34 => ?_)
      · skip
        exact absurd c34 (by decide)
      · skip
        
        refine G_aload_n (K := mX4_coal) (i := 0) dX4_coal_37 rfl rfl ?_
        refine G_iload_n (K := mX4_coal) (i := 3) dX4_coal_38 rfl rfl ?_
        refine G_call0 (K := mX4_coal) (Q' := PostC (tl σ 4)) (cl_tell hR (k := 4) (by omega) (fun _ _ h => h)) vX4_tell rfl lX4_53 ⟨_, _, _, rfl, rfl, rfl⟩ (by decide) (Nat.le_of_ble_eq_true rfl) dX4_coal_39 rfl ?_
        rintro v M1 ⟨rfl, hR1⟩
        exact G_iret (st := []) (K := mX4_coal) dX4_coal_42 rfl (hQ _ _ (by rw [show opCoal σ (nI q) (nI k) = _ from (by unfold opCoal; exact (if_pos c8).trans (if_neg (by rw [cut_nI (by omega), bI_0 c27]; decide)))]; exact ⟨rfl, hR1⟩))

set_option maxRecDepth 20000 in
theorem cl_wall {M σ : Mem} {r a : Int32} (hR : RC M σ) (hI : Inv σ) {Q : Option Value → Mem → Prop} (hQ : ∀ u' M', PostC (opWall σ r a) u' M' → Q u' M') : CT mX4_wall shC 8 [.ref 0, .int r, .int a] M Q := by
  refine CT.mk [some (.ref 0), some (.int r), some (.int a), none, none] (by decide) (Nat.le_of_ble_eq_true rfl) rfl rfl ?_
  refine G_aload_n (K := mX4_wall) (i := 0) dX4_wall_0 rfl rfl ?_
  refine G_iload_n (K := mX4_wall) (i := 1) dX4_wall_1 rfl rfl ?_
  refine G_iload_n (K := mX4_wall) (i := 2) dX4_wall_2 rfl rfl ?_
  refine G_cv (K := mX4_wall) (cl_fRoom (r := r) (a := a) hR hI ⟨rfl, rfl⟩) vX4_findingOfRoomAhead rfl lX4_153 dX4_wall_3 ⟨_, _, _, rfl, rfl, rfl⟩ (by decide) rfl (Nat.le_of_ble_eq_true rfl) ?_
  refine G_istore_n (K := mX4_wall) (i := 3) dX4_wall_6 rfl (by decide) ?_
  refine G_iload_n (K := mX4_wall) (i := 3) dX4_wall_7 rfl rfl ?_
  refine G_if_eq (K := mX4_wall) (tgt := 17) dX4_wall_8 (by decide) (fun c8 => ?_) (fun c8 => ?_)
  · skip
    obtain ⟨q, k, hq, rfl, hk1, hk2, rfl, hH⟩ := refR_0 hI c8
    have hn8 := hI.n8
    refine G_gets (K := mX4_wall) 1 (by decide) tX4_167 dX4_wall_17 ?_
    refine G_iconst (K := mX4_wall) (v := 3) dX4_wall_20 (by decide) ?_
    refine G_tld (K := mX4_wall) 1 3 (by decide) dX4_wall_21 rfl (by decide) (by decide) ?_
    refine G_istore (K := mX4_wall) dX4_wall_22 (by decide) ?_
    have loop24 : ∀ v, v ≤ 21 → 1 ≤ v → ∀ M1, RC M1 σ → (∀ j, 1 ≤ j → j < v → (fun v => decide (60 ≤ wH σ k 3 q (nI v) 2 q)) j = false) → G mX4_wall shC 8 Q 24 [some (.ref 0), some (.int (nI q)), some (.int (nI k)), some (.int (refR σ (nI q) (nI k))), some (.int (nI v))] [] M1 := by
      refine upto 21 (fun v hv ih => ?_)
      intro hv0 M1 hRv hno
      refine G_iload (K := mX4_wall) dX4_wall_24 rfl ?_
      refine G_gets (K := mX4_wall) 0 (by decide) tX4_170 dX4_wall_26 ?_
      refine G_iconst (K := mX4_wall) (v := 3) dX4_wall_29 (by decide) ?_
      refine G_tld (K := mX4_wall) 0 3 (by decide) dX4_wall_30 rfl (by decide) (by decide) ?_
      refine G_icmp_gt (K := mX4_wall) (tgt := 66) dX4_wall_31 (by decide) (fun c31 => ?_) (fun c31 => ?_)
      · skip
        have hv1 : v = 21 := by
          have := (lt_nn (i := 20) (n := v) (by omega) (by omega)).mp c31
          omega
        refine G_aload_n (K := mX4_wall) (i := 0) dX4_wall_66 rfl rfl ?_
        refine G_ldc (K := mX4_wall) dX4_wall_67 kX4_137 ?_
        refine G_call0 (K := mX4_wall) (Q' := PostC (tl σ 3)) (cl_tell hRv (k := 3) (by omega) (fun _ _ h => h)) vX4_tell rfl lX4_53 ⟨_, _, _, rfl, rfl, rfl⟩ (by decide) (Nat.le_of_ble_eq_true rfl) dX4_wall_69 rfl ?_
        rintro v M1 ⟨rfl, hR1⟩
        exact G_iret (st := []) (K := mX4_wall) dX4_wall_72 rfl (hQ _ _ (by rw [show opWall σ (nI q) (nI k) = orNone σ (findF (fun v => decide (60 ≤ wH σ (cut (nI k)) 3 (cut (nI q)) (nI v) 2 (cut (nI q)))) 1 20) nI from if_pos c8, cut_nI hk2, cut_nI (by omega), findF_none (fun z h1 h2 => hno z h1 (by omega))]; exact ⟨rfl, hR1⟩))
      · skip
        have hv1 : v ≤ 20 := by
          have h : ¬ 20 < v := fun z => c31 ((lt_nn (i := 20) (n := v) (by omega) (by omega)).mpr z)
          omega
        refine G_aload_n (K := mX4_wall) (i := 0) dX4_wall_34 rfl rfl ?_
        refine G_iload_n (K := mX4_wall) (i := 1) dX4_wall_35 rfl rfl ?_
        refine G_iconst (K := mX4_wall) (v := 3) dX4_wall_36 (by decide) ?_
        refine G_iload (K := mX4_wall) dX4_wall_37 rfl ?_
        refine G_iload_n (K := mX4_wall) (i := 2) dX4_wall_39 rfl rfl ?_
        refine G_gw (K := mX4_wall) (k := k) (r := q) (w := 3) (x := nI v) hRv hI (by omega) (by omega) (by decide) (wall_ok hI (by omega) (by omega)) lX4_156 dX4_wall_40 (by decide) (Nat.le_of_ble_eq_true rfl) (fun h4 hh4 hR4 => ?_)
        have e4 : hput M1 12 h4 14 q = wH σ k 3 q (nI v) 2 q := (congrFun (hput_in (M := M1) (h := h4) (b := 12) (j := 2) (by omega)) q).trans (hh4.f 2 (by omega) (by omega) hq)
        refine G_aload_n (K := mX4_wall) (i := 0) dX4_wall_43 rfl rfl ?_
        refine G_getr (K := mX4_wall) fX4_16 dX4_wall_44 rfl rfl ?_
        refine G_getr (K := mX4_wall) fX4_113 dX4_wall_47 rfl rfl ?_
        refine G_iload_n (K := mX4_wall) (i := 1) dX4_wall_50 rfl rfl ?_
        refine G_ld (K := mX4_wall) q dX4_wall_51 rfl rfl (by omega) (by decide) ?_
        refine G_bipush (K := mX4_wall) (v := 60) dX4_wall_52 (by decide) ?_
        refine G_icmp_lt (K := mX4_wall) (tgt := 60) dX4_wall_54 (by decide) (fun c54 => ?_) (fun c54 => ?_)
        · skip
          refine G_iincN (K := mX4_wall) dX4_wall_60 (by decide) rfl ?_
          refine G_goto (K := mX4_wall) (tgt := 24) dX4_wall_63 (by decide) ?_
          refine ih (v + 1) (by omega) (by omega) (by omega) _ hR4 (fun j h1 hj => ?_)
          by_cases hjv : j = v
          · subst hjv
            rw [e4] at c54
            exact decide_eq_false (Int32.not_le.mpr c54)
          · exact hno j h1 (by omega)
        · skip
          refine G_iload (K := mX4_wall) dX4_wall_57 rfl ?_
          rw [e4] at c54
          exact G_iret (st := []) (K := mX4_wall) dX4_wall_59 rfl (hQ _ _ (by rw [show opWall σ (nI q) (nI k) = orNone σ (findF (fun v => decide (60 ≤ wH σ (cut (nI k)) 3 (cut (nI q)) (nI v) 2 (cut (nI q)))) 1 20) nI from if_pos c8, cut_nI hk2, cut_nI (by omega), findF_some (i := 1) (j := v - 1) (by omega) (fun z h1 h2 => hno z h1 (by omega)) (by rw [show 1 + (v - 1) = v by omega]; exact decide_eq_true (Int32.not_lt.mp c54)), show 1 + (v - 1) = v by omega]; exact ⟨rfl, hR4⟩))
    exact loop24 1 (by omega) (by omega) _ hR (fun j h1 hj => absurd hj (by omega))
  · skip
    refine G_aload_n (K := mX4_wall) (i := 0) dX4_wall_11 rfl rfl ?_
    refine G_iload_n (K := mX4_wall) (i := 3) dX4_wall_12 rfl rfl ?_
    obtain ⟨q, hq, eq⟩ := refR_fin c8
    rw [eq]
    refine G_call0 (K := mX4_wall) (Q' := PostC (tl σ q)) (cl_tell hR (k := q) (by omega) (fun _ _ h => h)) vX4_tell rfl lX4_53 ⟨_, _, _, rfl, rfl, rfl⟩ (by decide) (Nat.le_of_ble_eq_true rfl) dX4_wall_13 rfl ?_
    rintro v M1 ⟨rfl, hR1⟩
    exact G_iret (st := []) (K := mX4_wall) dX4_wall_16 rfl (hQ _ _ (by rw [show opWall σ r a = _ from (by unfold opWall; exact (if_neg c8).trans ((congrArg (tlI σ) eq).trans (tlI_fin hq)))]; exact ⟨rfl, hR1⟩))

set_option maxRecDepth 20000 in
theorem cl_turn {M σ : Mem} {r a : Int32} (hR : RC M σ) (hI : Inv σ) {Q : Option Value → Mem → Prop} (hQ : ∀ u' M', PostC (opTurn σ r a) u' M' → Q u' M') : CT mX4_turn shC 8 [.ref 0, .int r, .int a] M Q := by
  refine CT.mk [some (.ref 0), some (.int r), some (.int a), none, none, none, none, none] (by decide) (Nat.le_of_ble_eq_true rfl) rfl rfl ?_
  refine G_aload_n (K := mX4_turn) (i := 0) dX4_turn_0 rfl rfl ?_
  refine G_iload_n (K := mX4_turn) (i := 1) dX4_turn_1 rfl rfl ?_
  refine G_iload_n (K := mX4_turn) (i := 2) dX4_turn_2 rfl rfl ?_
  refine G_cv (K := mX4_turn) (cl_fRoom (r := r) (a := a) hR hI ⟨rfl, rfl⟩) vX4_findingOfRoomAhead rfl lX4_153 dX4_turn_3 ⟨_, _, _, rfl, rfl, rfl⟩ (by decide) rfl (Nat.le_of_ble_eq_true rfl) ?_
  refine G_istore_n (K := mX4_turn) (i := 3) dX4_turn_6 rfl (by decide) ?_
  refine G_iload_n (K := mX4_turn) (i := 3) dX4_turn_7 rfl rfl ?_
  refine G_if_ne (K := mX4_turn) (tgt := 25) dX4_turn_8 (by decide) (fun c8 => ?_) (fun c8 => ?_)
  · skip
    refine G_iload_n (K := mX4_turn) (i := 3) dX4_turn_25 rfl rfl ?_
    refine G_if_eq (K := mX4_turn) (tgt := 35) dX4_turn_26 (by decide) (fun c26 => ?_) (fun c26 => ?_)
    · skip
      exact absurd c26 c8
    · skip
      
      refine G_aload_n (K := mX4_turn) (i := 0) dX4_turn_29 rfl rfl ?_
      refine G_iload_n (K := mX4_turn) (i := 3) dX4_turn_30 rfl rfl ?_
      obtain ⟨q, hq, eq⟩ := refR_fin c8
      rw [eq]
      refine G_call0 (K := mX4_turn) (Q' := PostC (tl σ q)) (cl_tell hR (k := q) (by omega) (fun _ _ h => h)) vX4_tell rfl lX4_53 ⟨_, _, _, rfl, rfl, rfl⟩ (by decide) (Nat.le_of_ble_eq_true rfl) dX4_turn_31 rfl ?_
      rintro v M1 ⟨rfl, hR1⟩
      exact G_iret (st := []) (K := mX4_turn) dX4_turn_34 rfl (hQ _ _ (by rw [show opTurn σ r a = _ from (by unfold opTurn; exact (if_neg c8).trans ((congrArg (tlI σ) eq).trans (tlI_fin hq)))]; exact ⟨rfl, hR1⟩))
  · skip
    obtain ⟨q, k, hq, rfl, hk1, hk2, rfl, hH⟩ := refR_0 hI c8
    have hn8 := hI.n8
    refine G_aload_n (K := mX4_turn) (i := 0) dX4_turn_11 rfl rfl ?_
    refine G_getr (K := mX4_turn) fX4_12 dX4_turn_12 rfl rfl ?_
    refine G_geti (K := mX4_turn) fX4_57 dX4_turn_15 rfl rfl ?_
    rw [hR.n, hI.nI]
    refine G_iconst (K := mX4_turn) (v := 1) dX4_turn_18 (by decide) ?_
    refine G_icmp_ne (K := mX4_turn) (tgt := 25) dX4_turn_19 (by decide) (fun c19 => ?_) (fun c19 => ?_)
    · skip
      have hn1 : ¬ nOf σ = 1 := fun z => c19 (by rw [z]; rfl)
      refine G_iload_n (K := mX4_turn) (i := 3) dX4_turn_25 rfl rfl ?_
      refine G_if_eq (K := mX4_turn) (tgt := 35) dX4_turn_26 (by decide) (fun c26 => ?_) (fun c26 => ?_)
      · skip
        
        refine G_iconst (K := mX4_turn) (v := 0) dX4_turn_35 (by decide) ?_
        refine G_istore (K := mX4_turn) dX4_turn_36 (by decide) ?_
        refine G_iconst (K := mX4_turn) (v := -1) dX4_turn_38 (by decide) ?_
        refine G_istore (K := mX4_turn) dX4_turn_39 (by decide) ?_
        refine G_iconst (K := mX4_turn) (v := 0) dX4_turn_41 (by decide) ?_
        refine G_istore (K := mX4_turn) dX4_turn_42 (by decide) ?_
        have loop44 : ∀ v, v ≤ nOf σ → ∀ M1, RC M1 σ → ∀ s t, (s, t) = turnN (turnF σ k q) q v → ∀ y, G mX4_turn shC 8 Q 44 [some (.ref 0), some (.int (nI q)), some (.int (nI k)), some (.int (refR σ (nI q) (nI k))), some (.int s), some (.int t), some (.int (nI v)), y] [] M1 := by
          refine upto (nOf σ) (fun v hv ih => ?_)
          intro M1 hRv s t hst y
          have hnv : M1 1 0 = nI (nOf σ) := hRv.n.trans hI.nI
          refine G_iload (K := mX4_turn) dX4_turn_44 rfl ?_
          refine G_aload_n (K := mX4_turn) (i := 0) dX4_turn_46 rfl rfl ?_
          refine G_getr (K := mX4_turn) fX4_12 dX4_turn_47 rfl rfl ?_
          refine G_geti (K := mX4_turn) fX4_57 dX4_turn_50 rfl rfl ?_
          refine G_icmp_ge (K := mX4_turn) (tgt := 104) dX4_turn_53 (by decide) (fun c53 => ?_) (fun c53 => ?_)
          · skip
            rw [hnv, le_nn (by omega) (by omega)] at c53
            have hvn : v = nOf σ := by omega
            refine G_iload (K := mX4_turn) dX4_turn_104 rfl ?_
            exact G_iret (st := []) (K := mX4_turn) dX4_turn_106 rfl (hQ _ _ (by rw [show opTurn σ (nI q) (nI k) = _ from (by unfold opTurn; exact (if_pos c8).trans (if_neg hn1))]; rw [cut_nI hk2, cut_nI (by omega)]; exact ⟨by rw [← hvn, ← hst], hRv⟩))
          · skip
            rw [hnv, le_nn (by omega) (by omega)] at c53
            have hvn : v < nOf σ := by omega
            refine G_iload (K := mX4_turn) dX4_turn_56 rfl ?_
            refine G_iload_n (K := mX4_turn) (i := 1) dX4_turn_58 rfl rfl ?_
            refine G_icmp_ne (K := mX4_turn) (tgt := 65) dX4_turn_59 (by decide) (fun c59 => ?_) (fun c59 => ?_)
            · skip
              have hvq : ¬ v = q := fun z => c59 (by rw [z])
              refine G_aload_n (K := mX4_turn) (i := 0) dX4_turn_65 rfl rfl ?_
              refine G_iload_n (K := mX4_turn) (i := 1) dX4_turn_66 rfl rfl ?_
              refine G_iconst (K := mX4_turn) (v := 4) dX4_turn_67 (by decide) ?_
              refine G_iload (K := mX4_turn) dX4_turn_68 rfl ?_
              refine G_iload_n (K := mX4_turn) (i := 2) dX4_turn_70 rfl rfl ?_
              refine G_gw (K := mX4_turn) (k := k) (r := q) (w := 4) (x := nI v) hRv hI (by omega) (by omega) (by decide) (ups_wall hI (by decide)) lX4_156 dX4_turn_71 (by decide) (Nat.le_of_ble_eq_true rfl) (fun h4 hh4 hR4 => ?_)
              have hX4 : HR (hof (hput M1 12 h4) 12) (wH σ k 4 q (nI v)) (nOf σ) := HR.hp hh4
              refine G_aload_n (K := mX4_turn) (i := 0) dX4_turn_74 rfl rfl ?_
              refine G_getr (K := mX4_turn) fX4_16 dX4_turn_75 rfl rfl ?_
              refine G_hp (K := mX4_turn) (b := 12) (by unfold isH; omega) (c_X0_leastWarmth (M := hof (hput M1 12 h4) 12) (n := nOf σ) ((hX4.1 0 (by omega)).trans ((hoursH_0 _ _ k).trans ((congrFun (ups_cell (by decide)) 0).trans hI.nI))) hI.n8 ⟨rfl, rfl⟩) vX0_leastWarmth rfl lX4_123 dX4_turn_78 rfl (by decide) rfl (Nat.le_of_ble_eq_true rfl) ?_
              rw [leastN_congr (by omega) (fun i hi => hX4.f 2 (by omega) (by omega) hi)]
              refine G_istore (K := mX4_turn) dX4_turn_81 (by decide) ?_
              refine G_iload (K := mX4_turn) dX4_turn_83 rfl ?_
              refine G_iload (K := mX4_turn) dX4_turn_85 rfl ?_
              refine G_icmp_le (K := mX4_turn) (tgt := 98) dX4_turn_87 (by decide) (fun c87 => ?_) (fun c87 => ?_)
              · skip
                refine G_iincN (K := mX4_turn) dX4_turn_98 (by decide) rfl ?_
                refine G_goto (K := mX4_turn) (tgt := 44) dX4_turn_101 (by decide) ?_
                refine ih (v + 1) (by omega) (by omega) _ hR4 _ _ ?_ _
                show _ = if v = q then turnN (turnF σ k q) q v else if (turnN (turnF σ k q) q v).2 < turnF σ k q v then _ else _
                have c87b : turnF σ k q v ≤ t := c87
                rw [if_neg hvq, ← hst, if_neg (Int32.not_lt.mpr c87b)]
              · skip
                refine G_iload (K := mX4_turn) dX4_turn_90 rfl ?_
                refine G_istore (K := mX4_turn) dX4_turn_92 (by decide) ?_
                refine G_iload (K := mX4_turn) dX4_turn_94 rfl ?_
                refine G_istore (K := mX4_turn) dX4_turn_96 (by decide) ?_
                refine G_iincN (K := mX4_turn) dX4_turn_98 (by decide) rfl ?_
                refine G_goto (K := mX4_turn) (tgt := 44) dX4_turn_101 (by decide) ?_
                refine ih (v + 1) (by omega) (by omega) _ hR4 _ _ ?_ _
                show _ = if v = q then turnN (turnF σ k q) q v else if (turnN (turnF σ k q) q v).2 < turnF σ k q v then _ else _
                have c87b : ¬ turnF σ k q v ≤ t := c87
                rw [if_neg hvq, ← hst, if_pos (Int32.not_le.mp c87b)]; rfl
            · skip
              have hvq : v = q := (nI_eq (by omega) (by omega)).mp c59
              refine G_goto (K := mX4_turn) (tgt := 98) dX4_turn_62 (by decide) ?_
              refine G_iincN (K := mX4_turn) dX4_turn_98 (by decide) rfl ?_
              refine G_goto (K := mX4_turn) (tgt := 44) dX4_turn_101 (by decide) ?_
              refine ih (v + 1) (by omega) (by omega) _ hRv _ _ ?_ _
              show _ = if v = q then turnN (turnF σ k q) q v else _
              rw [if_pos hvq]; exact hst
        exact loop44 0 (by omega) _ hR _ _ rfl _
      · skip
        exact absurd c8 c26
    · skip
      have hn1 : nOf σ = 1 := (nI_eq (a := nOf σ) (b := 1) (by omega) (by decide)).mp c19
      refine G_ldc (K := mX4_turn) dX4_turn_22 kX4_119 ?_
      refine G_istore_n (K := mX4_turn) (i := 3) dX4_turn_24 rfl (by decide) ?_
      refine G_iload_n (K := mX4_turn) (i := 3) dX4_turn_25 rfl rfl ?_
      refine G_if_eq (K := mX4_turn) (tgt := 35) dX4_turn_26 (by decide) (fun c26 => ?_) (fun c26 => ?_)
      · skip
        exact absurd c26 (by decide)
      · skip
        
        refine G_aload_n (K := mX4_turn) (i := 0) dX4_turn_29 rfl rfl ?_
        refine G_iload_n (K := mX4_turn) (i := 3) dX4_turn_30 rfl rfl ?_
        refine G_call0 (K := mX4_turn) (Q' := PostC (tl σ 4)) (cl_tell hR (k := 4) (by omega) (fun _ _ h => h)) vX4_tell rfl lX4_53 ⟨_, _, _, rfl, rfl, rfl⟩ (by decide) (Nat.le_of_ble_eq_true rfl) dX4_turn_31 rfl ?_
        rintro v M1 ⟨rfl, hR1⟩
        exact G_iret (st := []) (K := mX4_turn) dX4_turn_34 rfl (hQ _ _ (by rw [show opTurn σ (nI q) (nI k) = _ from (by unfold opTurn; exact (if_pos c8).trans (if_pos hn1))]; exact ⟨rfl, hR1⟩))

set_option maxRecDepth 20000 in
theorem cl_own {M σ : Mem} {a : Int32} (hR : RC M σ) (hI : Inv σ) {Q : Option Value → Mem → Prop} (hQ : ∀ u' M', PostC (opOwn σ a) u' M' → Q u' M') : CT mX4_own shC 8 [.ref 0, .int a] M Q := by
  refine CT.mk [some (.ref 0), some (.int a), none, none] (by decide) (Nat.le_of_ble_eq_true rfl) rfl rfl ?_
  refine G_aload_n (K := mX4_own) (i := 0) dX4_own_0 rfl rfl ?_
  refine G_iload_n (K := mX4_own) (i := 1) dX4_own_1 rfl rfl ?_
  refine G_bipush (K := mX4_own) (v := 60) dX4_own_2 (by decide) ?_
  refine G_cv (K := mX4_own) (cl_fHours (a := a) (most := 60) hR ⟨rfl, rfl⟩) vX4_findingOfHours rfl lX4_92 dX4_own_4 ⟨_, _, _, rfl, rfl, rfl⟩ (by decide) rfl (Nat.le_of_ble_eq_true rfl) ?_
  refine G_istore_n (K := mX4_own) (i := 2) dX4_own_7 rfl (by decide) ?_
  refine G_iload_n (K := mX4_own) (i := 2) dX4_own_8 rfl rfl ?_
  refine G_if_eq (K := mX4_own) (tgt := 18) dX4_own_9 (by decide) (fun c9 => ?_) (fun c9 => ?_)
  · skip
    obtain ⟨k, hk1, hk2, rfl⟩ := refH_nat c9
    have hn8 := hI.n8
    refine G_aload_n (K := mX4_own) (i := 0) dX4_own_18 rfl rfl ?_
    refine G_iload_n (K := mX4_own) (i := 1) dX4_own_19 rfl rfl ?_
    refine G_ga (K := mX4_own) (k := k) hR hI (by omega) lX4_141 dX4_own_20 (by decide) (Nat.le_of_ble_eq_true rfl) (fun h3 hh3 hR23 => ?_)
    refine G_aload_n (K := mX4_own) (i := 0) dX4_own_23 rfl rfl ?_
    refine G_st12 (K := mX4_own) hR23 hI lX4_120 dX4_own_24 (by decide) (Nat.le_of_ble_eq_true rfl) (fun h1 hh1 hR12 => ?_)
    have hA1 : HR (hof (hput (hput M 23 h3) 12 h1) 23) (aH σ k) (nOf σ) := HR.hpn (HR.hp hh3) (by unfold apart; omega)
    refine G_iconst (K := mX4_own) (v := 0) dX4_own_27 (by decide) ?_
    refine G_istore_n (K := mX4_own) (i := 3) dX4_own_28 rfl (by decide) ?_
    have loop29 : ∀ j, j ≤ nOf σ → ∀ M1, RC M1 σ → HR (hof M1 23) (aH σ k) (nOf σ) → HR (hof M1 12) (ownH σ j) (nOf σ) → G mX4_own shC 8 Q 29 [some (.ref 0), some (.int (nI k)), some (.int (refH σ (nI k) 60)), some (.int (nI j))] [] M1 := by
      refine upto (nOf σ) (fun j hj ih => ?_)
      intro M1 hRj hAj hT
      have hnj : M1 12 0 = nI (nOf σ) := (hT.1 0 (by omega)).trans hI.nI
      refine G_iload_n (K := mX4_own) (i := 3) dX4_own_29 rfl rfl ?_
      refine G_aload_n (K := mX4_own) (i := 0) dX4_own_30 rfl rfl ?_
      refine G_getr (K := mX4_own) fX4_16 dX4_own_31 rfl rfl ?_
      refine G_geti (K := mX4_own) fX4_57 dX4_own_34 rfl rfl ?_
      refine G_icmp_ge (K := mX4_own) (tgt := 56) dX4_own_37 (by decide) (fun c37 => ?_) (fun c37 => ?_)
      · skip
        rw [hnj, le_nn (by omega) (by omega)] at c37
        have hjn : j = nOf σ := by omega
        refine G_aload_n (K := mX4_own) (i := 0) dX4_own_56 rfl rfl ?_
        refine G_getr (K := mX4_own) fX4_16 dX4_own_57 rfl rfl ?_
        refine G_iload_n (K := mX4_own) (i := 1) dX4_own_60 rfl rfl ?_
        refine G_hrs (K := mX4_own) (b := 12) (n := nOf σ) (k := k) (h := ownH σ (nOf σ)) (by unfold isH; omega) (hjn ▸ hT) hI.nI hI.n8 (by omega) hI.wall lX4_96 dX4_own_61 (by decide) (Nat.le_of_ble_eq_true rfl) (fun h5 hh5 => ?_)
        refine G_pop (K := mX4_own) dX4_own_64 rfl ?_
        refine G_aload_n (K := mX4_own) (i := 0) dX4_own_65 rfl rfl ?_
        refine G_getr (K := mX4_own) fX4_16 dX4_own_66 rfl rfl ?_
        refine G_aload_n (K := mX4_own) (i := 0) dX4_own_69 rfl rfl ?_
        refine G_getr (K := mX4_own) fX4_19 dX4_own_70 rfl rfl ?_
        refine G_wt (K := mX4_own) (b := 12) (c := 23) (n := nOf σ) (by unfold isH; omega) (by unfold isH; omega) (by unfold apart; omega) (HR.hp hh5) (HR.hpn hAj (by unfold apart; omega)) ((hoursH_0 _ _ _).trans hI.nI) hI.n8 lX4_160 dX4_own_73 (by decide) (Nat.le_of_ble_eq_true rfl) ?_
        exact G_iret (st := []) (K := mX4_own) dX4_own_76 rfl (hQ _ _ (by rw [show opOwn σ (nI k) = _ from (by unfold opOwn; exact if_pos c9)]; rw [cut_nI hk2]; exact ⟨rfl, (hRj.scr (Or.inl rfl))⟩))
      · skip
        rw [hnj, le_nn (by omega) (by omega)] at c37
        have hjn : j < nOf σ := by omega
        refine G_aload_n (K := mX4_own) (i := 0) dX4_own_40 rfl rfl ?_
        refine G_getr (K := mX4_own) fX4_16 dX4_own_41 rfl rfl ?_
        refine G_getr (K := mX4_own) fX4_195 dX4_own_44 rfl rfl ?_
        refine G_iload_n (K := mX4_own) (i := 3) dX4_own_47 rfl rfl ?_
        refine G_iload_n (K := mX4_own) (i := 3) dX4_own_48 rfl rfl ?_
        refine G_sto (K := mX4_own) _ dX4_own_49 rfl rfl (by omega) (by decide) ?_
        refine G_iincN (K := mX4_own) dX4_own_50 (by decide) rfl ?_
        refine G_goto (K := mX4_own) (tgt := 29) dX4_own_53 (by decide) ?_
        have e1 : ups M1 17 j (nI j) = hput M1 12 (ups (hof M1 12) 5 j (nI j)) := by rw [← hput_ups (by omega), hput_hof]
        rw [e1]
        refine ih (j + 1) (by omega) (by omega) _ (hRj.scr (Or.inl rfl)) (HR.hpn hAj (by unfold apart; omega)) (HR.hp ((hT.upd1 (by omega) (by omega)).tr ⟨fun i hi => ?_, fun i hi => ?_, fun c h1 h2 i hi => ?_⟩))
        · rw [ups_cell (by decide)]; rfl
        · rw [ups_cell (by decide)]; rfl
        · show _ = if c = 5 ∧ i < j + 1 then nI i else σ c i
          by_cases hc : c = 5 ∧ i = j
          · obtain ⟨rfl, rfl⟩ := hc
            rw [ups_same, if_pos (by omega)]
          · rw [ups_ne hc]
            show (if c = 5 ∧ i < j then nI i else σ c i) = _
            by_cases hc2 : c = 5 ∧ i < j
            · rw [if_pos hc2, if_pos (by omega)]
            · rw [if_neg hc2, if_neg (by omega)]
    exact loop29 0 (by omega) _ hR12 hA1 (HR.hp (hh1.tr ⟨fun _ _ => rfl, fun _ _ => rfl, fun c _ _ i _ => (if_neg (by omega)).symm⟩))
  · skip
    refine G_aload_n (K := mX4_own) (i := 0) dX4_own_12 rfl rfl ?_
    refine G_iload_n (K := mX4_own) (i := 2) dX4_own_13 rfl rfl ?_
    obtain ⟨q, hq, eq⟩ := refH_fin c9
    rw [eq]
    refine G_call0 (K := mX4_own) (Q' := PostC (tl σ q)) (cl_tell hR (k := q) (by omega) (fun _ _ h => h)) vX4_tell rfl lX4_53 ⟨_, _, _, rfl, rfl, rfl⟩ (by decide) (Nat.le_of_ble_eq_true rfl) dX4_own_14 rfl ?_
    rintro v M1 ⟨rfl, hR1⟩
    exact G_iret (st := []) (K := mX4_own) dX4_own_17 rfl (hQ _ _ (by rw [show opOwn σ a = _ from (by unfold opOwn; exact (if_neg c9).trans ((congrArg (tlI σ) eq).trans (tlI_fin hq)))]; exact ⟨rfl, hR1⟩))
