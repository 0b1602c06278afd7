theorem kind_0 {x : Int32} (h : (if x < 0 then (0 : Int32) else if 6 < x then 0 else 1) = 0) : x < 0 ∨ (¬ x < 0 ∧ 6 < x) := by
  by_cases h1 : x < 0
  · exact Or.inl h1
  · rw [if_neg h1] at h
    by_cases h2 : 6 < x
    · exact Or.inr ⟨h1, h2⟩
    · rw [if_neg h2] at h; exact absurd h (by decide)
theorem kind_1 {x : Int32} (h : ¬ (if x < 0 then (0 : Int32) else if 6 < x then 0 else 1) = 0) : ¬ x < 0 ∧ ¬ 6 < x := by
  by_cases h1 : x < 0
  · rw [if_pos h1] at h; exact absurd rfl h
  · rw [if_neg h1] at h
    by_cases h2 : 6 < x
    · rw [if_pos h2] at h; exact absurd rfl h
    · exact ⟨h1, h2⟩
theorem addH_out {M : Mem} {k : Int32} {n c : Nat} (h : 10 ≤ c) : addH M k n c = M c := by
  funext i
  unfold addH
  rw [if_neg (show ¬ c = 0 by omega), if_neg (show ¬ (c ≤ 9 ∧ i = n) by omega)]
theorem Inv.HRn {M σ : Mem} (hR : RC M σ) : HR (hof M 1) σ (nOf σ) := hR.1
set_option maxRecDepth 20000 in
theorem cl_isKind {M : Mem} {x : Int32} {Q : Option Value → Mem → Prop} (hQ : Q (some (.int (if x < 0 then 0 else if 6 < x then 0 else 1))) M) : CT mX4_isKind shC 0 [.int x] M Q := by
  refine CT.mk [some (.int x)] (by decide) (Nat.le_of_ble_eq_true rfl) rfl rfl ?_
  refine G_iload_n (K := mX4_isKind) (i := 0) dX4_isKind_0 rfl rfl ?_
  refine G_if_lt (K := mX4_isKind) (tgt := 14) dX4_isKind_1 (by decide) (fun c1 => ?_) (fun c1 => ?_)
  · skip
    refine G_iconst (K := mX4_isKind) (v := 0) dX4_isKind_14 (by decide) ?_
    exact G_zrm (K := mX4_isKind) dX4_isKind_15 rfl rfl (by simp [*]) (by rfl) hQ
  · skip
    refine G_iload_n (K := mX4_isKind) (i := 0) dX4_isKind_4 rfl rfl ?_
    refine G_bipush (K := mX4_isKind) (v := 6) dX4_isKind_5 (by decide) ?_
    refine G_icmp_gt (K := mX4_isKind) (tgt := 14) dX4_isKind_7 (by decide) (fun c7 => ?_) (fun c7 => ?_)
    · skip
      refine G_iconst (K := mX4_isKind) (v := 0) dX4_isKind_14 (by decide) ?_
      exact G_zrm (K := mX4_isKind) dX4_isKind_15 rfl rfl (by simp [*]) (by rfl) hQ
    · skip
      refine G_iconst (K := mX4_isKind) (v := 1) dX4_isKind_10 (by decide) ?_
      refine G_goto (K := mX4_isKind) (tgt := 15) dX4_isKind_11 (by decide) ?_
      exact G_zrm (K := mX4_isKind) dX4_isKind_15 rfl rfl (by simp [*]) (by rfl) hQ

set_option maxRecDepth 20000 in
theorem cl_room {M σ : Mem} {kind : Int32} (hR : RC M σ) (hI : Inv σ) {Q : Option Value → Mem → Prop} (hQ : ∀ u' M', PostC (opRoom σ kind) u' M' → Q u' M') : CT mX4_room shC 8 [.ref 0, .int kind] M Q := by
  refine CT.mk [some (.ref 0), some (.int kind)] (by decide) (Nat.le_of_ble_eq_true rfl) rfl rfl ?_
  refine G_iload_n (K := mX4_room) (i := 1) dX4_room_0 rfl rfl ?_
  refine G_sv (K := mX4_room) (y := mX4_isKind) (x := if kind < 0 then 0 else if 6 < kind then 0 else 1) (M2 := M) (d' := 0) (as := [.int kind]) (cl_isKind (M := M) (x := kind) ⟨rfl, rfl⟩) sX4_isKind rfl lX4_48 dX4_room_1 (by decide) rfl (Nat.le_of_ble_eq_true rfl) ?_
  refine G_if_ne (K := mX4_room) (tgt := 14) dX4_room_4 (by decide) (fun c4 => ?_) (fun c4 => ?_)
  · skip
    refine G_aload_n (K := mX4_room) (i := 0) dX4_room_14 rfl rfl ?_
    refine G_getr (K := mX4_room) fX4_12 dX4_room_15 rfl rfl ?_
    refine G_geti (K := mX4_room) fX4_57 dX4_room_18 rfl rfl ?_
    rw [hR.n, hI.nI]
    refine G_bipush (K := mX4_room) (v := 8) dX4_room_21 (by decide) ?_
    refine G_icmp_lt (K := mX4_room) (tgt := 33) dX4_room_23 (by decide) (fun c23 => ?_) (fun c23 => ?_)
    · skip
      have h8 : nOf σ < 8 := (lt_nn (by have := hI.n8; omega) (by omega)).mp (c23 : nI (nOf σ) < nI 8)
      refine G_aload_n (K := mX4_room) (i := 0) dX4_room_33 rfl rfl ?_
      refine G_getr (K := mX4_room) fX4_12 dX4_room_34 rfl rfl ?_
      refine G_iload_n (K := mX4_room) (i := 1) dX4_room_37 rfl rfl ?_
      refine G_hv (K := mX4_room) (b := 1) (by unfold isH; omega) (c_X0_addRoom (M := hof M 1) (k := kind) (n := nOf σ) (hR.nI hI) (by omega) ⟨rfl, rfl⟩) vX0_addRoom rfl lX4_62 dX4_room_38 rfl (by decide) rfl (Nat.le_of_ble_eq_true rfl) ?_
      exact G_iret (st := []) (K := mX4_room) dX4_room_41 rfl (hQ _ _ (by
        rw [show opRoom σ kind = _ from (if_neg (kind_1 c4).1).trans ((if_neg (kind_1 c4).2).trans (if_neg (by omega)))]
        have hn2 : nOf (addH σ kind (nOf σ)) = nOf σ + 1 := by
          show cut (σ 0 0 + 1) = _
          rw [hI.nI, nI_1, cut_nI (by omega)]
        exact ⟨rfl, hR.house (fun c hc => addH_out (by omega)) (by rw [hn2]; exact HR.addH hR.1 hI.nI h8)⟩))
    · skip
      have h8 : nOf σ = 8 := by
        have h1 : ¬ nOf σ < 8 := fun z => c23 ((lt_nn (by omega) (by omega)).mpr z : nI (nOf σ) < nI 8)
        have := hI.n8
        omega
      refine G_aload_n (K := mX4_room) (i := 0) dX4_room_26 rfl rfl ?_
      refine G_ldc (K := mX4_room) dX4_room_27 kX4_61 ?_
      refine G_call0 (K := mX4_room) (Q' := PostC (tl σ 1)) (cl_tell hR (k := 1) (by omega) (fun _ _ h => h)) vX4_tell rfl lX4_53 ⟨_, _, _, rfl, rfl, rfl⟩ (by decide) (Nat.le_of_ble_eq_true rfl) dX4_room_29 rfl ?_
      rintro v M1 ⟨rfl, hR1⟩
      exact G_iret (st := []) (K := mX4_room) dX4_room_32 rfl (hQ _ _ (by rw [show opRoom σ kind = _ from (by unfold opRoom; exact (if_neg (kind_1 c4).1).trans ((if_neg (kind_1 c4).2).trans (if_pos h8)))]; exact ⟨rfl, hR1⟩))
  · skip
    refine G_aload_n (K := mX4_room) (i := 0) dX4_room_7 rfl rfl ?_
    refine G_ldc (K := mX4_room) dX4_room_8 kX4_52 ?_
    refine G_call0 (K := mX4_room) (Q' := PostC (tl σ 0)) (cl_tell hR (k := 0) (by omega) (fun _ _ h => h)) vX4_tell rfl lX4_53 ⟨_, _, _, rfl, rfl, rfl⟩ (by decide) (Nat.le_of_ble_eq_true rfl) dX4_room_10 rfl ?_
    rintro v M1 ⟨rfl, hR1⟩
    exact G_iret (st := []) (K := mX4_room) dX4_room_13 rfl (hQ _ _ (by rw [show opRoom σ kind = _ from (by unfold opRoom; rcases kind_0 c4 with h | ⟨h, h2⟩; exact if_pos h; exact (if_neg h).trans (if_pos h2))]; exact ⟨rfl, hR1⟩))

set_option maxRecDepth 20000 in
theorem cl_of {M σ : Mem} {r w : Int32} (hR : RC M σ) (hI : Inv σ) {Q : Option Value → Mem → Prop} (hQ : ∀ u' M', PostC (opOf σ r w) u' M' → Q u' M') : CT mX4_of shC 8 [.ref 0, .int r, .int w] M Q := by
  refine CT.mk [some (.ref 0), some (.int r), some (.int w), none] (by decide) (Nat.le_of_ble_eq_true rfl) rfl rfl ?_
  refine G_aload_n (K := mX4_of) (i := 0) dX4_of_0 rfl rfl ?_
  refine G_getr (K := mX4_of) fX4_12 dX4_of_1 rfl rfl ?_
  refine G_iload_n (K := mX4_of) (i := 1) dX4_of_4 rfl rfl ?_
  refine G_hp (K := mX4_of) (b := 1) (by unfold isH; omega) (c_X0_has (M := hof M 1) (r := r) ⟨rfl, rfl⟩) vX0_has rfl lX4_65 dX4_of_5 rfl (by decide) rfl (Nat.le_of_ble_eq_true rfl) ?_
  rw [hasI_B (hR.nI hI) hI.n8]
  refine G_if_ne (K := mX4_of) (tgt := 18) dX4_of_8 (by decide) (fun c8 => ?_) (fun c8 => ?_)
  · skip
    obtain ⟨k, hk, rfl⟩ := roomB_t (by have := hI.n8; omega) (bI_1 c8)
    refine G_iload_n (K := mX4_of) (i := 2) dX4_of_18 rfl rfl ?_
    refine G_bipush (K := mX4_of) (v := 9) dX4_of_19 (by decide) ?_
    refine G_icmp_ne (K := mX4_of) (tgt := 33) dX4_of_21 (by decide) (fun c21 => ?_) (fun c21 => ?_)
    · skip
      refine G_aload_n (K := mX4_of) (i := 0) dX4_of_33 rfl rfl ?_
      refine G_getr (K := mX4_of) fX4_12 dX4_of_34 rfl rfl ?_
      refine G_iload_n (K := mX4_of) (i := 2) dX4_of_37 rfl rfl ?_
      refine G_callH (K := mX4_of) (b := 1) (by unfold isH; omega) (as := [.int w]) (Q' := fun v M' => ((∃ q, q < 9 ∧ w = nI q ∧ v = some (.ref (q + 1))) ∨ ((∀ q, q < 9 → w ≠ nI q) ∧ v = some .null)) ∧ M' = hof M 1) (c_X0_rowOf (w := w) (fun q hq e => ⟨Or.inl ⟨q, hq, e, rfl⟩, rfl⟩) (fun hno => ⟨Or.inr ⟨hno, rfl⟩, rfl⟩)) vX0_rowOf rfl lX4_71 rfl (by decide) (Nat.le_of_ble_eq_true rfl) dX4_of_38 rfl ?_
      rintro v M' ⟨hv, rfl⟩
      rw [hput_hof]
      rcases hv with ⟨q, hq, rfl, rfl⟩ | ⟨hno, rfl⟩
      · skip
        have erow : hsub 1 (q + 1) = 1 + (1 + q) := by unfold hsub; rw [if_pos (by omega)]; omega
        have hshr : shC[1 + (1 + q)]? = some (.inr (.inl 8)) := by
          have h9 : q = 0 ∨ q = 1 ∨ q = 2 ∨ q = 3 ∨ q = 4 ∨ q = 5 ∨ q = 6 ∨ q = 7 ∨ q = 8 := by omega
          rcases h9 with rfl | rfl | rfl | rfl | rfl | rfl | rfl | rfl | rfl <;> rfl
        show G mX4_of shC 8 Q 41 _ (.ref (hsub 1 (q + 1)) :: []) _
        rw [erow]
        refine G_astore_n (K := mX4_of) (i := 3) dX4_of_41 rfl (by decide) ?_
        refine G_aload_n (K := mX4_of) (i := 3) dX4_of_42 rfl rfl ?_
        refine G_ifnonnull (K := mX4_of) (tgt := 55) dX4_of_43 (by decide) ?_
        refine G_aload_n (K := mX4_of) (i := 3) dX4_of_55 rfl rfl ?_
        refine G_iload_n (K := mX4_of) (i := 1) dX4_of_56 rfl rfl ?_
        refine G_ld (K := mX4_of) k dX4_of_57 hshr rfl (by have := hI.n8; omega) (by decide) ?_
        exact G_iret (st := []) (K := mX4_of) dX4_of_58 rfl (hQ _ _ (by rw [show opOf σ (nI k) (nI q) = (σ (1 + cut (nI q)) (cut (nI k)), σ) from (by unfold opOf; exact (if_pos (bI_1 c8)).trans ((if_neg c21).trans (if_pos (roomB_nI (by decide) hq))))]; rw [cut_nI (by omega), cut_nI (by have := hI.n8; omega)]; exact ⟨congrArg (fun z => some (Value.int z)) (hR.1.f (1 + q) (by omega) (by omega) hk), hR⟩))
      · skip
        refine G_astore_nN (K := mX4_of) (i := 3) dX4_of_41 rfl (by decide) ?_
        refine G_aload_nN (K := mX4_of) (i := 3) dX4_of_42 rfl rfl ?_
        refine G_ifnonnullN (K := mX4_of) dX4_of_43 ?_
        refine G_aload_n (K := mX4_of) (i := 0) dX4_of_46 rfl rfl ?_
        refine G_ldc (K := mX4_of) dX4_of_47 kX4_52 ?_
        refine G_call0 (K := mX4_of) (Q' := PostC (tl σ 0)) (cl_tell hR (k := 0) (by omega) (fun _ _ h => h)) vX4_tell rfl lX4_53 ⟨_, _, _, rfl, rfl, rfl⟩ (by decide) (Nat.le_of_ble_eq_true rfl) dX4_of_49 rfl ?_
        rintro v M1 ⟨rfl, hR1⟩
        refine G_goto (K := mX4_of) (tgt := 58) dX4_of_52 (by decide) ?_
        exact G_iret (st := []) (K := mX4_of) dX4_of_58 rfl (hQ _ _ (by rw [show opOf σ (nI k) w = _ from (by unfold opOf; exact (if_pos (bI_1 c8)).trans ((if_neg c21).trans (if_neg (fun z => by obtain ⟨q, hq, e⟩ := roomB_t (n := 9) (by decide) z; exact hno q hq e))))]; exact ⟨rfl, hR1⟩))
    · skip
      refine G_aload_n (K := mX4_of) (i := 0) dX4_of_24 rfl rfl ?_
      refine G_getr (K := mX4_of) fX4_12 dX4_of_25 rfl rfl ?_
      refine G_iload_n (K := mX4_of) (i := 1) dX4_of_28 rfl rfl ?_
      refine G_hp (K := mX4_of) (b := 1) (by unfold isH; omega) (c_X0_wants (M := hof M 1) (i := k) (by have := hI.n8; omega) ⟨rfl, rfl⟩) vX0_wants rfl lX4_68 dX4_of_29 rfl (by decide) rfl (Nat.le_of_ble_eq_true rfl) ?_
      rw [wantsH_congr hR.1 hk]
      exact G_iret (st := []) (K := mX4_of) dX4_of_32 rfl (hQ _ _ (by rw [show opOf σ (nI k) w = (wantsH σ (cut (nI k)), σ) from (by unfold opOf; exact (if_pos (bI_1 c8)).trans (if_pos c21))]; rw [cut_nI (by have := hI.n8; omega)]; exact ⟨rfl, hR⟩))
  · skip
    refine G_aload_n (K := mX4_of) (i := 0) dX4_of_11 rfl rfl ?_
    refine G_ldc (K := mX4_of) dX4_of_12 kX4_52 ?_
    refine G_call0 (K := mX4_of) (Q' := PostC (tl σ 0)) (cl_tell hR (k := 0) (by omega) (fun _ _ h => h)) vX4_tell rfl lX4_53 ⟨_, _, _, rfl, rfl, rfl⟩ (by decide) (Nat.le_of_ble_eq_true rfl) dX4_of_14 rfl ?_
    rintro v M1 ⟨rfl, hR1⟩
    exact G_iret (st := []) (K := mX4_of) dX4_of_17 rfl (hQ _ _ (by rw [show opOf σ r w = _ from (by unfold opOf; exact if_neg (by rw [bI_0 c8]; decide))]; exact ⟨rfl, hR1⟩))

set_option maxRecDepth 20000 in
theorem cl_change {M σ : Mem} {r w v : Int32} (hR : RC M σ) (hI : Inv σ) {Q : Option Value → Mem → Prop} (hQ : ∀ u' M', PostC (opChange σ r w v) u' M' → Q u' M') : CT mX4_change shC 8 [.ref 0, .int r, .int w, .int v] M Q := by
  refine CT.mk [some (.ref 0), some (.int r), some (.int w), some (.int v), none, none] (by decide) (Nat.le_of_ble_eq_true rfl) rfl rfl ?_
  refine G_aload_n (K := mX4_change) (i := 0) dX4_change_0 rfl rfl ?_
  refine G_getr (K := mX4_change) fX4_12 dX4_change_1 rfl rfl ?_
  refine G_iload_n (K := mX4_change) (i := 2) dX4_change_4 rfl rfl ?_
  refine G_callH (K := mX4_change) (b := 1) (by unfold isH; omega) (as := [.int w]) (Q' := fun v M' => ((∃ q, q < 9 ∧ w = nI q ∧ v = some (.ref (q + 1))) ∨ ((∀ q, q < 9 → w ≠ nI q) ∧ v = some .null)) ∧ M' = hof M 1) (c_X0_rowOf (w := w) (fun q hq e => ⟨Or.inl ⟨q, hq, e, rfl⟩, rfl⟩) (fun hno => ⟨Or.inr ⟨hno, rfl⟩, rfl⟩)) vX0_rowOf rfl lX4_71 rfl (by decide) (Nat.le_of_ble_eq_true rfl) dX4_change_5 rfl ?_
  rintro v M' ⟨hv, rfl⟩
  rw [hput_hof]
  rcases hv with ⟨q, hq, rfl, rfl⟩ | ⟨hno, rfl⟩
  · skip
    have erow : hsub 1 (q + 1) = 1 + (1 + q) := by unfold hsub; rw [if_pos (by omega)]; omega
    have hshr : shC[1 + (1 + q)]? = some (.inr (.inl 8)) := by
      have h9 : q = 0 ∨ q = 1 ∨ q = 2 ∨ q = 3 ∨ q = 4 ∨ q = 5 ∨ q = 6 ∨ q = 7 ∨ q = 8 := by omega
      rcases h9 with rfl | rfl | rfl | rfl | rfl | rfl | rfl | rfl | rfl <;> rfl
    show G mX4_change shC 8 Q 8 _ (.ref (hsub 1 (q + 1)) :: []) _
    rw [erow]
    refine G_astore (K := mX4_change) dX4_change_8 (by decide) ?_
    refine G_aload (K := mX4_change) dX4_change_10 rfl ?_
    refine G_ifnull (K := mX4_change) dX4_change_12 ?_
    refine G_aload_n (K := mX4_change) (i := 0) dX4_change_15 rfl rfl ?_
    refine G_getr (K := mX4_change) fX4_12 dX4_change_16 rfl rfl ?_
    refine G_iload_n (K := mX4_change) (i := 1) dX4_change_19 rfl rfl ?_
    refine G_iload_n (K := mX4_change) (i := 2) dX4_change_20 rfl rfl ?_
    refine G_iload_n (K := mX4_change) (i := 3) dX4_change_21 rfl rfl ?_
    refine G_hp (K := mX4_change) (b := 1) (by unfold isH; omega) (c_X0_fits (M := hof M 1) (r := r) (w := nI q) (v := v) ⟨rfl, rfl⟩) vX0_fits rfl lX4_75 dX4_change_22 rfl (by decide) rfl (Nat.le_of_ble_eq_true rfl) ?_
    rw [fits_B (hR.nI hI) hI.n8]
    refine G_if_ne (K := mX4_change) (tgt := 35) dX4_change_25 (by decide) (fun c25 => ?_) (fun c25 => ?_)
    · skip
      have hfit := bI_1 c25
      obtain ⟨k, hk, rfl⟩ : ∃ k, k < nOf σ ∧ r = nI k := by
        unfold fitB at hfit
        exact roomB_t (by have := hI.n8; omega) (Bool.and_eq_true_iff.mp hfit).1
      refine G_aload (K := mX4_change) dX4_change_35 rfl ?_
      refine G_iload_n (K := mX4_change) (i := 1) dX4_change_37 rfl rfl ?_
      refine G_ld (K := mX4_change) k dX4_change_38 hshr rfl (by have := hI.n8; omega) (by decide) ?_
      refine G_istore (K := mX4_change) dX4_change_39 (by decide) ?_
      refine G_aload (K := mX4_change) dX4_change_41 rfl ?_
      refine G_iload_n (K := mX4_change) (i := 1) dX4_change_43 rfl rfl ?_
      refine G_iload_n (K := mX4_change) (i := 3) dX4_change_44 rfl rfl ?_
      refine G_sto (K := mX4_change) k dX4_change_45 hshr rfl (by have := hI.n8; omega) (by decide) ?_
      refine G_iload (K := mX4_change) dX4_change_46 rfl ?_
      refine G_iret (st := []) (K := mX4_change) dX4_change_48 rfl (hQ _ _ ?_)
      rw [show opChange σ (nI k) (nI q) v = (σ (1 + cut (nI q)) (cut (nI k)), ups σ (1 + cut (nI q)) (cut (nI k)) v) from if_pos hfit, cut_nI (by omega), cut_nI (by have := hI.n8; omega)]
      have e1 : hof M 1 (1 + q) k = σ (1 + q) k := hR.1.f (1 + q) (by omega) (by omega) hk
      refine ⟨congrArg (fun z => some (Value.int z)) e1, ?_⟩
      have e2 : ups M (1 + (1 + q)) k v = hput M 1 (ups (hof M 1) (1 + q) k v) := by rw [← hput_ups (by omega), hput_hof]
      rw [e2]
      exact hR.house (fun c hc => ups_cell (by omega)) (by rw [nOf_ups (by omega)]; exact hR.1.upd1 (by omega) (by omega))
    · skip
      refine G_aload_n (K := mX4_change) (i := 0) dX4_change_28 rfl rfl ?_
      refine G_ldc (K := mX4_change) dX4_change_29 kX4_52 ?_
      refine G_call0 (K := mX4_change) (Q' := PostC (tl σ 0)) (cl_tell hR (k := 0) (by omega) (fun _ _ h => h)) vX4_tell rfl lX4_53 ⟨_, _, _, rfl, rfl, rfl⟩ (by decide) (Nat.le_of_ble_eq_true rfl) dX4_change_31 rfl ?_
      rintro v M1 ⟨rfl, hR1⟩
      exact G_iret (st := []) (K := mX4_change) dX4_change_34 rfl (hQ _ _ (by rw [show opChange σ r (nI q) v = _ from (by unfold opChange; exact if_neg (by rw [bI_0 c25]; decide))]; exact ⟨rfl, hR1⟩))
  · skip
    refine G_astoreN (K := mX4_change) dX4_change_8 (by decide) ?_
    refine G_aloadN (K := mX4_change) dX4_change_10 rfl ?_
    refine G_ifnullN (K := mX4_change) (tgt := 28) dX4_change_12 (by decide) ?_
    refine G_aload_n (K := mX4_change) (i := 0) dX4_change_28 rfl rfl ?_
    refine G_ldc (K := mX4_change) dX4_change_29 kX4_52 ?_
    refine G_call0 (K := mX4_change) (Q' := PostC (tl σ 0)) (cl_tell hR (k := 0) (by omega) (fun _ _ h => h)) vX4_tell rfl lX4_53 ⟨_, _, _, rfl, rfl, rfl⟩ (by decide) (Nat.le_of_ble_eq_true rfl) dX4_change_31 rfl ?_
    rintro v M1 ⟨rfl, hR1⟩
    exact G_iret (st := []) (K := mX4_change) dX4_change_34 rfl (hQ _ _ (by rw [show opChange σ r w v = _ from (by unfold opChange; exact if_neg (fun z => by unfold fitB at z; obtain ⟨q, hq, e⟩ := roomB_t (n := 9) (by decide) (Bool.and_eq_true_iff.mp (Bool.and_eq_true_iff.mp z).2).1; exact hno q hq e))]; exact ⟨rfl, hR1⟩))

theorem HR.out {M h : Mem} {n : Nat} {x : Int32} {i : Nat} (H : HR M h n) : HR (ups M 0 i x) (ups h 0 i x) n := by
  refine ⟨fun k hk => ?_, fun k hk => by rw [ups_cell (by decide : (10 : Nat) ≠ 0), ups_cell (by decide : (10 : Nat) ≠ 0)]; exact H.2.1 k hk, fun q h1 h2 k hk => by rw [ups_cell (by omega : q ≠ 0), ups_cell (by omega : q ≠ 0)]; exact H.2.2 q h1 h2 k hk⟩
  by_cases hq : k = i
  · subst hq
    rw [ups_same, ups_same]
  · rw [ups_ne (fun z => hq z.2), ups_ne (fun z => hq z.2)]
    exact H.1 k hk
theorem nOf_ups0 {σ : Mem} {i : Nat} {x : Int32} (hi : i ≠ 0) : nOf (ups σ 0 i x) = nOf σ := by
  unfold nOf
  rw [ups_ne (fun z => hi z.2.symm)]
set_option maxRecDepth 20000 in
theorem cl_out {M σ : Mem} {v : Int32} (hR : RC M σ) (hI : Inv σ) {Q : Option Value → Mem → Prop} (hQ : ∀ u' M', PostC (opOut σ v) u' M' → Q u' M') : CT mX4_out shC 8 [.ref 0, .int v] M Q := by
  refine CT.mk [some (.ref 0), some (.int v), none] (by decide) (Nat.le_of_ble_eq_true rfl) rfl rfl ?_
  refine G_iload_n (K := mX4_out) (i := 1) dX4_out_0 rfl rfl ?_
  refine G_if_lt (K := mX4_out) (tgt := 10) dX4_out_1 (by decide) (fun c1 => ?_) (fun c1 => ?_)
  · skip
    refine G_aload_n (K := mX4_out) (i := 0) dX4_out_10 rfl rfl ?_
    refine G_ldc (K := mX4_out) dX4_out_11 kX4_52 ?_
    refine G_call0 (K := mX4_out) (Q' := PostC (tl σ 0)) (cl_tell hR (k := 0) (by omega) (fun _ _ h => h)) vX4_tell rfl lX4_53 ⟨_, _, _, rfl, rfl, rfl⟩ (by decide) (Nat.le_of_ble_eq_true rfl) dX4_out_13 rfl ?_
    rintro v M1 ⟨rfl, hR1⟩
    exact G_iret (st := []) (K := mX4_out) dX4_out_16 rfl (hQ _ _ (by rw [show opOut σ v = _ from (by unfold opOut; first | exact if_pos c1 | exact (if_neg c1).trans (if_pos (Int32.not_le.mp c7)))]; exact ⟨rfl, hR1⟩))
  · skip
    refine G_iload_n (K := mX4_out) (i := 1) dX4_out_4 rfl rfl ?_
    refine G_bipush (K := mX4_out) (v := 100) dX4_out_5 (by decide) ?_
    refine G_icmp_le (K := mX4_out) (tgt := 17) dX4_out_7 (by decide) (fun c7 => ?_) (fun c7 => ?_)
    · skip
      refine G_aload_n (K := mX4_out) (i := 0) dX4_out_17 rfl rfl ?_
      refine G_getr (K := mX4_out) fX4_12 dX4_out_18 rfl rfl ?_
      refine G_geti (K := mX4_out) fX4_79 dX4_out_21 rfl rfl ?_
      refine G_istore_n (K := mX4_out) (i := 2) dX4_out_24 rfl (by decide) ?_
      refine G_aload_n (K := mX4_out) (i := 0) dX4_out_25 rfl rfl ?_
      refine G_getr (K := mX4_out) fX4_12 dX4_out_26 rfl rfl ?_
      refine G_iload_n (K := mX4_out) (i := 1) dX4_out_29 rfl rfl ?_
      refine G_puti (K := mX4_out) fX4_79 w0_1 dX4_out_30 rfl rfl ?_
      refine G_iload_n (K := mX4_out) (i := 2) dX4_out_33 rfl rfl ?_
      refine G_iret (st := []) (K := mX4_out) dX4_out_34 rfl (hQ _ _ ?_)
      rw [show opOut σ v = _ from (if_neg c1).trans (if_neg (Int32.not_lt.mpr c7))]
      refine ⟨congrArg (fun z => some (Value.int z)) hR.out, ?_⟩
      have e2 : ups M (1 + 0) 1 v = hput M 1 (ups (hof M 1) 0 1 v) := by rw [← hput_ups (by omega), hput_hof]
      show RC (ups M (1 + 0) 1 v) _
      rw [e2]
      exact hR.house (fun c hc => ups_cell (by omega)) (by rw [nOf_ups0 (by decide)]; exact HR.out hR.1)
    · skip
      refine G_aload_n (K := mX4_out) (i := 0) dX4_out_10 rfl rfl ?_
      refine G_ldc (K := mX4_out) dX4_out_11 kX4_52 ?_
      refine G_call0 (K := mX4_out) (Q' := PostC (tl σ 0)) (cl_tell hR (k := 0) (by omega) (fun _ _ h => h)) vX4_tell rfl lX4_53 ⟨_, _, _, rfl, rfl, rfl⟩ (by decide) (Nat.le_of_ble_eq_true rfl) dX4_out_13 rfl ?_
      rintro v M1 ⟨rfl, hR1⟩
      exact G_iret (st := []) (K := mX4_out) dX4_out_16 rfl (hQ _ _ (by rw [show opOut σ v = _ from (by unfold opOut; first | exact if_pos c1 | exact (if_neg c1).trans (if_pos (Int32.not_le.mp c7)))]; exact ⟨rfl, hR1⟩))

set_option maxRecDepth 20000 in
theorem cl_heaters {M σ : Mem} {r : Int32} (hR : RC M σ) (hI : Inv σ) {Q : Option Value → Mem → Prop} (hQ : ∀ u' M', PostC (opHeaters σ r) u' M' → Q u' M') : CT mX4_heaters shC 8 [.ref 0, .int r] M Q := by
  refine CT.mk [some (.ref 0), some (.int r)] (by decide) (Nat.le_of_ble_eq_true rfl) rfl rfl ?_
  refine G_aload_n (K := mX4_heaters) (i := 0) dX4_heaters_0 rfl rfl ?_
  refine G_getr (K := mX4_heaters) fX4_12 dX4_heaters_1 rfl rfl ?_
  refine G_iload_n (K := mX4_heaters) (i := 1) dX4_heaters_4 rfl rfl ?_
  refine G_hp (K := mX4_heaters) (b := 1) (by unfold isH; omega) (c_X0_has (M := hof M 1) (r := r) ⟨rfl, rfl⟩) vX0_has rfl lX4_65 dX4_heaters_5 rfl (by decide) rfl (Nat.le_of_ble_eq_true rfl) ?_
  rw [hasI_B (hR.nI hI) hI.n8]
  refine G_if_eq (K := mX4_heaters) (tgt := 22) dX4_heaters_8 (by decide) (fun c8 => ?_) (fun c8 => ?_)
  · skip
    refine G_aload_n (K := mX4_heaters) (i := 0) dX4_heaters_22 rfl rfl ?_
    refine G_ldc (K := mX4_heaters) dX4_heaters_23 kX4_52 ?_
    refine G_call0 (K := mX4_heaters) (Q' := PostC (tl σ 0)) (cl_tell hR (k := 0) (by omega) (fun _ _ h => h)) vX4_tell rfl lX4_53 ⟨_, _, _, rfl, rfl, rfl⟩ (by decide) (Nat.le_of_ble_eq_true rfl) dX4_heaters_25 rfl ?_
    rintro v M1 ⟨rfl, hR1⟩
    first
      | exact G_iret (st := []) (K := mX4_heaters) dX4_heaters_28 rfl (hQ _ _ (by rw [show opHeaters σ r = _ from (by unfold opHeaters; exact if_neg (by rw [bI_0 c8]; decide))]; exact ⟨rfl, hR1⟩))
      | exact G_iret (st := []) (K := mX4_heaters) dX4_heaters_28 rfl (hQ _ _ (by rw [show opHeaters σ (nI k) = _ from (by unfold opHeaters; exact if_pos (bI_1 c8))]; exact ⟨congrArg (fun z => some (Value.int z)) (bits_congr _ (fun i hi => by have e := hR.1.f 5 (by omega) (by omega) hi; rw [e])), hR⟩))
  · skip
    obtain ⟨k, hk, rfl⟩ := roomB_t (by have := hI.n8; omega) (bI_1 c8)
    refine G_aload_n (K := mX4_heaters) (i := 0) dX4_heaters_11 rfl rfl ?_
    refine G_getr (K := mX4_heaters) fX4_12 dX4_heaters_12 rfl rfl ?_
    refine G_iload_n (K := mX4_heaters) (i := 1) dX4_heaters_15 rfl rfl ?_
    refine G_hp (K := mX4_heaters) (b := 1) (by unfold isH; omega) (c_X0_heatersOf (M := hof M 1) (r := nI k) (n := nOf σ) (hR.nI hI) hI.n8 ⟨rfl, rfl⟩) vX0_heatersOf rfl lX4_82 dX4_heaters_16 rfl (by decide) rfl (Nat.le_of_ble_eq_true rfl) ?_
    refine G_goto (K := mX4_heaters) (tgt := 28) dX4_heaters_19 (by decide) ?_
    first
      | exact G_iret (st := []) (K := mX4_heaters) dX4_heaters_28 rfl (hQ _ _ (by rw [show opHeaters σ r = _ from (by unfold opHeaters; exact if_neg (by rw [bI_0 c8]; decide))]; exact ⟨rfl, hR1⟩))
      | exact G_iret (st := []) (K := mX4_heaters) dX4_heaters_28 rfl (hQ _ _ (by rw [show opHeaters σ (nI k) = _ from (by unfold opHeaters; exact if_pos (bI_1 c8))]; exact ⟨congrArg (fun z => some (Value.int z)) (bits_congr _ (fun i hi => by have e := hR.1.f 5 (by omega) (by omega) hi; rw [e])), hR⟩))

set_option maxRecDepth 20000 in
theorem cl_reach {M σ : Mem} {r : Int32} (hR : RC M σ) (hI : Inv σ) {Q : Option Value → Mem → Prop} (hQ : ∀ u' M', PostC (opReach σ r) u' M' → Q u' M') : CT mX4_reach shC 8 [.ref 0, .int r] M Q := by
  refine CT.mk [some (.ref 0), some (.int r)] (by decide) (Nat.le_of_ble_eq_true rfl) rfl rfl ?_
  refine G_aload_n (K := mX4_reach) (i := 0) dX4_reach_0 rfl rfl ?_
  refine G_getr (K := mX4_reach) fX4_12 dX4_reach_1 rfl rfl ?_
  refine G_iload_n (K := mX4_reach) (i := 1) dX4_reach_4 rfl rfl ?_
  refine G_hp (K := mX4_reach) (b := 1) (by unfold isH; omega) (c_X0_has (M := hof M 1) (r := r) ⟨rfl, rfl⟩) vX0_has rfl lX4_65 dX4_reach_5 rfl (by decide) rfl (Nat.le_of_ble_eq_true rfl) ?_
  rw [hasI_B (hR.nI hI) hI.n8]
  refine G_if_eq (K := mX4_reach) (tgt := 22) dX4_reach_8 (by decide) (fun c8 => ?_) (fun c8 => ?_)
  · skip
    refine G_aload_n (K := mX4_reach) (i := 0) dX4_reach_22 rfl rfl ?_
    refine G_ldc (K := mX4_reach) dX4_reach_23 kX4_52 ?_
    refine G_call0 (K := mX4_reach) (Q' := PostC (tl σ 0)) (cl_tell hR (k := 0) (by omega) (fun _ _ h => h)) vX4_tell rfl lX4_53 ⟨_, _, _, rfl, rfl, rfl⟩ (by decide) (Nat.le_of_ble_eq_true rfl) dX4_reach_25 rfl ?_
    rintro v M1 ⟨rfl, hR1⟩
    first
      | exact G_iret (st := []) (K := mX4_reach) dX4_reach_28 rfl (hQ _ _ (by rw [show opReach σ r = _ from (by unfold opReach; exact if_neg (by rw [bI_0 c8]; decide))]; exact ⟨rfl, hR1⟩))
      | exact G_iret (st := []) (K := mX4_reach) dX4_reach_28 rfl (hQ _ _ (by rw [show opReach σ (nI k) = _ from (by unfold opReach; exact if_pos (bI_1 c8))]; rw [cut_nI (by have := hI.n8; omega)]; exact ⟨congrArg (fun z => some (Value.int z)) (by rw [reachN_congr hR.1 hI.nI hI.n8, hR.1.f 5 (by omega) (by omega) hk]), hR⟩))
  · skip
    obtain ⟨k, hk, rfl⟩ := roomB_t (by have := hI.n8; omega) (bI_1 c8)
    refine G_aload_n (K := mX4_reach) (i := 0) dX4_reach_11 rfl rfl ?_
    refine G_getr (K := mX4_reach) fX4_12 dX4_reach_12 rfl rfl ?_
    refine G_iload_n (K := mX4_reach) (i := 1) dX4_reach_15 rfl rfl ?_
    refine G_hp (K := mX4_reach) (b := 1) (by unfold isH; omega) (c_X0_reachedFrom (M := hof M 1) (r := k) (n := nOf σ) (by have := hI.n8; omega) (hR.nI hI) hI.n8 ⟨rfl, rfl⟩) vX0_reachedFrom rfl lX4_85 dX4_reach_16 rfl (by decide) rfl (Nat.le_of_ble_eq_true rfl) ?_
    refine G_goto (K := mX4_reach) (tgt := 28) dX4_reach_19 (by decide) ?_
    first
      | exact G_iret (st := []) (K := mX4_reach) dX4_reach_28 rfl (hQ _ _ (by rw [show opReach σ r = _ from (by unfold opReach; exact if_neg (by rw [bI_0 c8]; decide))]; exact ⟨rfl, hR1⟩))
      | exact G_iret (st := []) (K := mX4_reach) dX4_reach_28 rfl (hQ _ _ (by rw [show opReach σ (nI k) = _ from (by unfold opReach; exact if_pos (bI_1 c8))]; rw [cut_nI (by have := hI.n8; omega)]; exact ⟨congrArg (fun z => some (Value.int z)) (by rw [reachN_congr hR.1 hI.nI hI.n8, hR.1.f 5 (by omega) (by omega) hk]), hR⟩))
