def byteF (b : Int32) (m : Nat) : Int32 := (b.toUInt32 >>> (((8 : Int32) * nI m).toUInt32 &&& Int32.toUInt32 31)).toInt32 &&& 255
def fed1 (b : Int32) (m : Nat) (σ : Mem) : Mem := ups (ups σ 42 (cut (σ 43 0)) (byteF b m)) 43 0 (σ 43 0 + 1)
def fedS (b : Int32) : Nat → Mem → Mem
  | 0, σ => σ
  | m + 1, σ => fedS b m (fed1 b m σ)
def opFeed (σ : Mem) (b a : Int32) : Int32 × Mem := if a < 1 then tl σ 0 else if 4 < a then tl σ 0 else if 120 < σ 43 0 + a then tl σ 1 else (fedS b (cut a) σ 43 0, fedS b (cut a) σ)
theorem RC.tape {M σ : Mem} {L : Nat} {x y : Int32} (hR : RC M σ) : RC (ups (ups M 47 L x) 46 1 y) (ups (ups σ 42 L x) 43 0 y) := by
  obtain ⟨-, -, r3, r4, r5, r6, r7⟩ := id hR
  have em : ∀ c, c ≠ 46 → c ≠ 47 → ups (ups M 47 L x) 46 1 y c = M c := fun c h1 h2 => by rw [ups_cell h1, ups_cell h2]
  have es : ∀ c, c ≠ 42 → c ≠ 43 → ups (ups σ 42 L x) 43 0 y c = σ c := fun c h1 h2 => by rw [ups_cell h2, ups_cell h1]
  refine hR.other (fun c h1 h2 => em c (by omega) (by omega)) (fun c h => es c (by omega) (by omega)) (by rw [em 0 (by omega) (by omega), es 40 (by omega) (by omega)]; exact r3) (fun i hi => by rw [em 60 (by omega) (by omega), es 41 (by omega) (by omega)]; exact r4 i hi) (fun i hi => ?_) (by rw [ups_same, ups_same]) (fun s hs => by
    rw [em (61 + 2 * s) (by omega) (by omega), em (62 + 2 * s) (by omega) (by omega), es 44 (by omega) (by omega), es 45 (by omega) (by omega), es (46 + s) (by omega) (by omega)]
    exact r7 s hs)
  rw [ups_cell (show 47 ≠ 46 by omega), ups_cell (show 42 ≠ 43 by omega)]
  by_cases h : i = L
  · subst h; rw [ups_same, ups_same]
  · rw [ups_ne (fun z => h z.2), ups_ne (fun z => h z.2)]; exact r5 i hi
set_option maxRecDepth 20000 in
theorem cl_append {M σ : Mem} {b : Int32} {m L : Nat} (hR : RC M σ) (hL : σ 43 0 = nI L) (hLm : L + m ≤ 120) {Q : Option Value → Mem → Prop} (hQ : ∀ M2, RC M2 (fedS b m σ) → Q none M2) : CT mX2_append shC 0 [.ref 46, .int b, .int (nI m)] M Q := by
  refine CT.mk [some (.ref 46), some (.int b), some (.int (nI m)), none] (by decide) (Nat.le_of_ble_eq_true rfl) rfl rfl ?_
  refine G_iload_n (K := mX2_append) (i := 2) dX2_append_0 rfl rfl ?_
  refine G_iconst (K := mX2_append) (v := 1) dX2_append_1 (by decide) ?_
  refine G_isub (K := mX2_append) dX2_append_2 ?_
  refine G_istore_n (K := mX2_append) (i := 3) dX2_append_3 rfl (by decide) ?_
  have loop4 : ∀ i, i ≤ m → ∀ M1 σ1 L1, RC M1 σ1 → σ1 43 0 = nI L1 → L1 + (m - i) ≤ 120 → fedS b (m - i) σ1 = fedS b m σ → G mX2_append shC 0 Q 4 [some (.ref 46), some (.int b), some (.int (nI m)), some (.int (nI (m - i) - 1))] [] M1 := by
    refine upto m (fun i hi ih => ?_)
    intro M1 σ1 L1 hR1 hL1 hLi hfe
    have e46 : M1 46 1 = nI L1 := hR1.2.2.2.2.2.1.trans hL1
    have el : i < m → nI (m - i) - 1 = nI (m - (i + 1)) := fun h => by
      rw [show m - i = m - (i + 1) + 1 by omega]
      exact nI_pred _
    refine G_iload_n (K := mX2_append) (i := 3) dX2_append_4 rfl rfl ?_
    refine G_if_lt (K := mX2_append) (tgt := 59) dX2_append_5 (by decide) (fun c5 => ?_) (fun c5 => ?_)
    · skip
      have him : i = m := by
        refine Nat.le_antisymm hi (Nat.not_lt.mp fun h => ?_)
        rw [el h] at c5
        exact nI_pos (by omega) c5
      rw [him, Nat.sub_self] at hfe
      exact G_vrm (K := mX2_append) dX2_append_59 rfl rfl (hQ M1 (hfe ▸ hR1))
    · skip
      have him : i < m := by
        refine Nat.lt_of_le_of_ne hi (fun h => c5 ?_)
        rw [h, Nat.sub_self]
        decide
      have el := el him
      refine G_aload_n (K := mX2_append) (i := 0) dX2_append_8 rfl rfl ?_
      refine G_geti (K := mX2_append) fX2_15 dX2_append_9 rfl rfl ?_
      refine G_if_lt (K := mX2_append) (tgt := 59) dX2_append_12 (by decide) (fun c12 => ?_) (fun c12 => ?_)
      · skip
        rw [e46] at c12
        exact absurd c12 (nI_pos (by omega))
      · skip
        refine G_aload_n (K := mX2_append) (i := 0) dX2_append_15 rfl rfl ?_
        refine G_geti (K := mX2_append) fX2_15 dX2_append_16 rfl rfl ?_
        refine G_bipush (K := mX2_append) (v := 120) dX2_append_19 (by decide) ?_
        refine G_icmp_ge (K := mX2_append) (tgt := 59) dX2_append_21 (by decide) (fun c21 => ?_) (fun c21 => ?_)
        · skip
          rw [e46] at c21
          exact absurd ((le_nn (n := 120) (i := L1) (by omega) (by omega)).mp c21) (by omega)
        · skip
          refine G_aload_n (K := mX2_append) (i := 0) dX2_append_24 rfl rfl ?_
          refine G_getr (K := mX2_append) fX2_9 dX2_append_25 rfl rfl ?_
          refine G_aload_n (K := mX2_append) (i := 0) dX2_append_28 rfl rfl ?_
          refine G_geti (K := mX2_append) fX2_15 dX2_append_29 rfl rfl ?_
          rw [e46]
          refine G_iload_n (K := mX2_append) (i := 1) dX2_append_32 rfl rfl ?_
          refine G_bipush (K := mX2_append) (v := 8) dX2_append_33 (by decide) ?_
          rw [el]
          refine G_iload_n (K := mX2_append) (i := 3) dX2_append_35 rfl rfl ?_
          refine G_imul (K := mX2_append) dX2_append_36 ?_
          refine G_iushr (K := mX2_append) dX2_append_37 ?_
          refine G_sipush (K := mX2_append) (v := 255) dX2_append_38 (by decide) ?_
          refine G_iand (K := mX2_append) dX2_append_41 ?_
          refine G_sto (K := mX2_append) L1 dX2_append_42 rfl rfl (by omega) (by decide) ?_
          refine G_aload_n (K := mX2_append) (i := 0) dX2_append_43 rfl rfl ?_
          refine G_dup (K := mX2_append) dX2_append_44 rfl ?_
          refine G_geti (K := mX2_append) fX2_15 dX2_append_45 rfl rfl ?_
          refine G_iconst (K := mX2_append) (v := 1) dX2_append_48 (by decide) ?_
          refine G_iadd (K := mX2_append) dX2_append_49 ?_
          refine G_puti (K := mX2_append) fX2_15 w2_1 dX2_append_50 rfl rfl ?_
          refine G_iinc (K := mX2_append) (v := nI (m - (i + 1)) - 1) dX2_append_53 (by decide) rfl (by show nI (m - (i + 1)) + (-1) = nI (m - (i + 1)) - 1; grind) ?_
          refine G_goto (K := mX2_append) (tgt := 4) dX2_append_56 (by decide) ?_
          have hfe2 : fedS b (m - (i + 1)) (fed1 b (m - (i + 1)) σ1) = fedS b m σ := by
            rw [← hfe, show m - i = m - (i + 1) + 1 by omega]
            rfl
          have ec : ups M1 47 L1 (byteF b (m - (i + 1))) 46 1 = nI L1 := (congrFun (ups_cell (by decide)) 1).trans e46
          have hR2 : RC (ups (ups M1 47 L1 (byteF b (m - (i + 1)))) 46 1 (nI L1 + 1)) (fed1 b (m - (i + 1)) σ1) := by
            unfold fed1
            rw [hL1, cut_nI (by omega)]
            exact hR1.tape
          refine ih (i + 1) (by omega) (by omega) _ _ (L1 + 1) ?_ ?_ (by omega) hfe2
          · have e9 : ups M1 47 L1 ((b.toUInt32 >>> (((8 : Int32) * nI (m - (i + 1))).toUInt32 &&& Int32.toUInt32 31)).toInt32 &&& 255) = ups M1 47 L1 (byteF b (m - (i + 1))) := rfl
            rw [e9, ec]
            exact hR2
          · unfold fed1
            rw [ups_same, hL1, nI_1]
  exact loop4 0 (by omega) M σ L hR hL (by omega) rfl

set_option maxRecDepth 20000 in
theorem cl_feed {M σ : Mem} {b a : Int32} (hR : RC M σ) (hI : Inv σ) {Q : Option Value → Mem → Prop} (hQ : ∀ u' M', PostC (opFeed σ b a) u' M' → Q u' M') : CT mX4_feed shC 8 [.ref 0, .int b, .int a] M Q := by
  refine CT.mk [some (.ref 0), some (.int b), some (.int a)] (by decide) (Nat.le_of_ble_eq_true rfl) rfl rfl ?_
  refine G_iload_n (K := mX4_feed) (i := 2) dX4_feed_0 rfl rfl ?_
  refine G_iconst (K := mX4_feed) (v := 1) dX4_feed_1 (by decide) ?_
  refine G_icmp_lt (K := mX4_feed) (tgt := 10) dX4_feed_2 (by decide) (fun c2 => ?_) (fun c2 => ?_)
  · skip
    refine G_aload_n (K := mX4_feed) (i := 0) dX4_feed_10 rfl rfl ?_
    refine G_ldc (K := mX4_feed) dX4_feed_11 kX4_52 ?_
    refine G_call0 (K := mX4_feed) (Q' := PostC (tl σ 0)) (cl_tell hR (k := 0) (by omega) (fun _ _ h => h)) vX4_tell rfl lX4_53 ⟨_, _, _, rfl, rfl, rfl⟩ (by decide) (Nat.le_of_ble_eq_true rfl) dX4_feed_13 rfl ?_
    rintro v M1 ⟨rfl, hR1⟩
    exact G_iret (st := []) (K := mX4_feed) dX4_feed_16 rfl (hQ _ _ (by rw [show opFeed σ b a = _ from (by unfold opFeed; first | exact if_pos c2 | exact (if_neg c2).trans (if_pos (Int32.not_le.mp c7)))]; exact ⟨rfl, hR1⟩))
  · skip
    refine G_iload_n (K := mX4_feed) (i := 2) dX4_feed_5 rfl rfl ?_
    refine G_iconst (K := mX4_feed) (v := 4) dX4_feed_6 (by decide) ?_
    refine G_icmp_le (K := mX4_feed) (tgt := 17) dX4_feed_7 (by decide) (fun c7 => ?_) (fun c7 => ?_)
    · skip
      refine G_aload_n (K := mX4_feed) (i := 0) dX4_feed_17 rfl rfl ?_
      refine G_getr (K := mX4_feed) fX4_36 dX4_feed_18 rfl rfl ?_
      refine G_geti (K := mX4_feed) fX4_213 dX4_feed_21 rfl rfl ?_
      rw [hR.2.2.2.2.2.1]
      refine G_iload_n (K := mX4_feed) (i := 2) dX4_feed_24 rfl rfl ?_
      refine G_iadd (K := mX4_feed) dX4_feed_25 ?_
      refine G_bipush (K := mX4_feed) (v := 120) dX4_feed_26 (by decide) ?_
      refine G_icmp_le (K := mX4_feed) (tgt := 38) dX4_feed_28 (by decide) (fun c28 => ?_) (fun c28 => ?_)
      · skip
        have htp : rg (σ 43 0) 0 120 := hI.2.2.2.2.2.1
        obtain ⟨k, hk2, rfl⟩ := nat_of (a := a) (fun z => c2 (by rw [i32_lt] at z ⊢; have z2 : a.toInt < 0 := z; show a.toInt < 1; omega))
        obtain ⟨L, hL120, eL⟩ : ∃ L : Nat, L ≤ 120 ∧ σ 43 0 = nI L := by
          unfold rg at htp
          refine ⟨(σ 43 0).toInt.toNat, by omega, i32_ext ?_⟩
          rw [nI_toI (by omega)]
          omega
        have hk4 : k ≤ 4 := (le_nn (n := k) (i := 4) (by omega) (by omega)).mp c7
        have hLk : L + k ≤ 120 := (le_nn (n := L + k) (i := 120) (by omega) (by omega)).mp (by rw [← nI_add, ← eL]; exact c28)
        refine G_aload_n (K := mX4_feed) (i := 0) dX4_feed_38 rfl rfl ?_
        refine G_getr (K := mX4_feed) fX4_36 dX4_feed_39 rfl rfl ?_
        refine G_iload_n (K := mX4_feed) (i := 1) dX4_feed_42 rfl rfl ?_
        refine G_iload_n (K := mX4_feed) (i := 2) dX4_feed_43 rfl rfl ?_
        refine G_call0 (K := mX4_feed) (as := [.int b, .int (nI k)]) (r := 46) (Q' := fun v M2 => v = none ∧ RC M2 (fedS b k σ)) (cl_append hR eL (by omega) (fun M2 h => ⟨rfl, h⟩)) vX2_append rfl lX4_218 ⟨2, _, _, rfl, rfl, rfl⟩ (by decide) (Nat.le_of_ble_eq_true rfl) dX4_feed_44 rfl ?_
        rintro v M2 ⟨rfl, hR2⟩
        refine G_aload_n (K := mX4_feed) (i := 0) dX4_feed_47 rfl rfl ?_
        refine G_getr (K := mX4_feed) fX4_36 dX4_feed_48 rfl rfl ?_
        refine G_geti (K := mX4_feed) fX4_213 dX4_feed_51 rfl rfl ?_
        exact G_iret (st := []) (K := mX4_feed) dX4_feed_54 rfl (hQ _ _ (by rw [show opFeed σ b (nI k) = (fedS b (cut (nI k)) σ 43 0, fedS b (cut (nI k)) σ) from (if_neg c2).trans ((if_neg (Int32.not_lt.mpr c7)).trans (if_neg (Int32.not_lt.mpr c28))), cut_nI hk2]; exact ⟨congrArg (fun z => some (Value.int z)) hR2.2.2.2.2.2.1, hR2⟩))
      · skip
        refine G_aload_n (K := mX4_feed) (i := 0) dX4_feed_31 rfl rfl ?_
        refine G_ldc (K := mX4_feed) dX4_feed_32 kX4_61 ?_
        refine G_call0 (K := mX4_feed) (Q' := PostC (tl σ 1)) (cl_tell hR (k := 1) (by omega) (fun _ _ h => h)) vX4_tell rfl lX4_53 ⟨_, _, _, rfl, rfl, rfl⟩ (by decide) (Nat.le_of_ble_eq_true rfl) dX4_feed_34 rfl ?_
        rintro v M1 ⟨rfl, hR1⟩
        exact G_iret (st := []) (K := mX4_feed) dX4_feed_37 rfl (hQ _ _ (by rw [show opFeed σ b a = _ from (by unfold opFeed; exact (if_neg c2).trans ((if_neg (Int32.not_lt.mpr c7)).trans (if_pos (Int32.not_le.mp c28))))]; exact ⟨rfl, hR1⟩))
    · skip
      refine G_aload_n (K := mX4_feed) (i := 0) dX4_feed_10 rfl rfl ?_
      refine G_ldc (K := mX4_feed) dX4_feed_11 kX4_52 ?_
      refine G_call0 (K := mX4_feed) (Q' := PostC (tl σ 0)) (cl_tell hR (k := 0) (by omega) (fun _ _ h => h)) vX4_tell rfl lX4_53 ⟨_, _, _, rfl, rfl, rfl⟩ (by decide) (Nat.le_of_ble_eq_true rfl) dX4_feed_13 rfl ?_
      rintro v M1 ⟨rfl, hR1⟩
      exact G_iret (st := []) (K := mX4_feed) dX4_feed_16 rfl (hQ _ _ (by rw [show opFeed σ b a = _ from (by unfold opFeed; first | exact if_pos c2 | exact (if_neg c2).trans (if_pos (Int32.not_le.mp c7)))]; exact ⟨rfl, hR1⟩))

def opCopy (σ : Mem) (s f t o n : Int32) : Int32 × Mem := if roomB 4 s = true then (if roomB 4 t = true then (if σ 44 (cut s) = 0 then tl σ 5 else if σ 44 (cut t) = 0 then tl σ 5 else if σ 44 (cut s) = σ 44 (cut t) then
  (if hasS (σ 45 (cut s)) f n = 0 then tl σ 0 else if hasS (σ 45 (cut t)) o n = 0 then tl σ 0 else (n, cpyG σ (46 + cut s) (46 + cut t) (cut f) (cut o) (cut n))) else tl σ 2) else tl σ 0) else tl σ 0
theorem RC.cp {M σ : Mem} {q p a c b : Nat} (hR : RC M σ) (hq : q < 4) (hp : p < 4) (ha : a + b ≤ 40) (hc : c + b ≤ 40) : RC (cpyG M (62 + 2 * q) (62 + 2 * p) a c b) (cpyG σ (46 + q) (46 + p) a c b) := by
  obtain ⟨-, -, r3, r4, r5, r6, r7⟩ := id hR
  have em : ∀ z, z ≠ 62 + 2 * p → cpyG M (62 + 2 * q) (62 + 2 * p) a c b z = M z := fun z h => by funext i; exact if_neg (fun w => h w.1)
  have es : ∀ z, z ≠ 46 + p → cpyG σ (46 + q) (46 + p) a c b z = σ z := fun z h => by funext i; exact if_neg (fun w => h w.1)
  refine hR.other (fun z h1 h2 => em z (by omega)) (fun z h => es z (by omega)) (by rw [em 0 (by omega), es 40 (by omega)]; exact r3) (fun i hi => by rw [em 60 (by omega), es 41 (by omega)]; exact r4 i hi) (fun i hi => by rw [em 47 (by omega), es 42 (by omega)]; exact r5 i hi) (by rw [em 46 (by omega), es 43 (by omega)]; exact r6) (fun s hs => ?_)
  rw [em (61 + 2 * s) (by omega), es 44 (by omega), es 45 (by omega)]
  refine ⟨(r7 s hs).1, (r7 s hs).2.1, fun i hi => ?_⟩
  by_cases h : s = p ∧ c ≤ i ∧ i < c + b
  · obtain ⟨rfl, h1, h2⟩ := h
    have e1 : cpyG M (62 + 2 * q) (62 + 2 * s) a c b (62 + 2 * s) i = M (62 + 2 * q) (a + (i - c)) := if_pos ⟨rfl, h1, h2⟩
    have e2 : cpyG σ (46 + q) (46 + s) a c b (46 + s) i = σ (46 + q) (a + (i - c)) := if_pos ⟨rfl, h1, h2⟩
    rw [e1, e2]
    exact (r7 q hq).2.2 _ (by omega)
  · have e1 : cpyG M (62 + 2 * q) (62 + 2 * p) a c b (62 + 2 * s) i = M (62 + 2 * s) i := if_neg (fun w => h ⟨by omega, w.2⟩)
    have e2 : cpyG σ (46 + q) (46 + p) a c b (46 + s) i = σ (46 + s) i := if_neg (fun w => h ⟨by omega, w.2⟩)
    rw [e1, e2]
    exact (r7 s hs).2.2 i hi
set_option maxRecDepth 20000 in
theorem cl_copy {M σ : Mem} {s f t o n : Int32} (hR : RC M σ) (hI : Inv σ) {Q : Option Value → Mem → Prop} (hQ : ∀ u' M', PostC (opCopy σ s f t o n) u' M' → Q u' M') : CT mX4_copy shC 8 [.ref 0, .int s, .int f, .int t, .int o, .int n] M Q := by
  refine CT.mk [some (.ref 0), some (.int s), some (.int f), some (.int t), some (.int o), some (.int n), none, none] (by decide) (Nat.le_of_ble_eq_true rfl) rfl rfl ?_
  refine G_iload_n (K := mX4_copy) (i := 1) dX4_copy_0 rfl rfl ?_
  refine G_sv (K := mX4_copy) (cl_isSheet (x := s) ⟨rfl, rfl⟩) sX4_isSheet rfl lX4_236 dX4_copy_1 (by decide) rfl (Nat.le_of_ble_eq_true rfl) ?_
  refine G_if_eq (K := mX4_copy) (tgt := 14) dX4_copy_4 (by decide) (fun c4 => ?_) (fun c4 => ?_)
  · skip
    refine G_aload_n (K := mX4_copy) (i := 0) dX4_copy_14 rfl rfl ?_
    refine G_ldc (K := mX4_copy) dX4_copy_15 kX4_52 ?_
    refine G_call0 (K := mX4_copy) (Q' := PostC (tl σ 0)) (cl_tell hR (k := 0) (by omega) (fun _ _ h => h)) vX4_tell rfl lX4_53 ⟨_, _, _, rfl, rfl, rfl⟩ (by decide) (Nat.le_of_ble_eq_true rfl) dX4_copy_17 rfl ?_
    rintro v M1 ⟨rfl, hR1⟩
    first
      | exact G_iret (st := []) (K := mX4_copy) dX4_copy_20 rfl (hQ _ _ (by rw [show opCopy σ s f t o n = _ from (by unfold opCopy; exact if_neg (by rw [bI_0 c4]; decide))]; exact ⟨rfl, hR1⟩))
      | exact G_iret (st := []) (K := mX4_copy) dX4_copy_20 rfl (hQ _ _ (by rw [show opCopy σ (nI q) f t o n = _ from (by unfold opCopy; exact (if_pos (bI_1 c4)).trans (if_neg (by rw [bI_0 c11]; decide)))]; exact ⟨rfl, hR1⟩))
  · skip
    obtain ⟨q, hq, rfl⟩ := roomB_t (by decide) (bI_1 c4)
    refine G_iload_n (K := mX4_copy) (i := 3) dX4_copy_7 rfl rfl ?_
    refine G_sv (K := mX4_copy) (cl_isSheet (x := t) ⟨rfl, rfl⟩) sX4_isSheet rfl lX4_236 dX4_copy_8 (by decide) rfl (Nat.le_of_ble_eq_true rfl) ?_
    refine G_if_ne (K := mX4_copy) (tgt := 21) dX4_copy_11 (by decide) (fun c11 => ?_) (fun c11 => ?_)
    · skip
      obtain ⟨p, hp, rfl⟩ := roomB_t (by decide) (bI_1 c11)
      refine G_aload_n (K := mX4_copy) (i := 0) dX4_copy_21 rfl rfl ?_
      refine G_getr (K := mX4_copy) fX4_39 dX4_copy_22 rfl rfl ?_
      refine G_iload_n (K := mX4_copy) (i := 1) dX4_copy_25 rfl rfl ?_
      refine G_aald (K := mX4_copy) q dX4_copy_26 rfl (fun _ => ⟨_, rfl⟩) rfl (sh_r hq) (by decide) ?_
      refine G_astore (K := mX4_copy) dX4_copy_27 (by decide) ?_
      refine G_aload_n (K := mX4_copy) (i := 0) dX4_copy_29 rfl rfl ?_
      refine G_getr (K := mX4_copy) fX4_39 dX4_copy_30 rfl rfl ?_
      refine G_iload_n (K := mX4_copy) (i := 3) dX4_copy_33 rfl rfl ?_
      refine G_aald (K := mX4_copy) p dX4_copy_34 rfl (fun _ => ⟨_, rfl⟩) rfl (sh_r hp) (by decide) ?_
      refine G_astore (K := mX4_copy) dX4_copy_35 (by decide) ?_
      refine G_aload (K := mX4_copy) dX4_copy_37 rfl ?_
      refine G_geti (K := mX4_copy) fX4_251 dX4_copy_39 (sh_o hq) rfl ?_
      rw [hR.s0 hq]
      refine G_if_eq (K := mX4_copy) (tgt := 53) dX4_copy_42 (by decide) (fun c42 => ?_) (fun c42 => ?_)
      · skip
        refine G_aload_n (K := mX4_copy) (i := 0) dX4_copy_53 rfl rfl ?_
        refine G_ldc (K := mX4_copy) dX4_copy_54 kX4_230 ?_
        refine G_call0 (K := mX4_copy) (Q' := PostC (tl σ 5)) (cl_tell hR (k := 5) (by omega) (fun _ _ h => h)) vX4_tell rfl lX4_53 ⟨_, _, _, rfl, rfl, rfl⟩ (by decide) (Nat.le_of_ble_eq_true rfl) dX4_copy_56 rfl ?_
        rintro v M1 ⟨rfl, hR1⟩
        first
          | exact G_iret (st := []) (K := mX4_copy) dX4_copy_59 rfl (hQ _ _ (by rw [show opCopy σ (nI q) f (nI p) o n = _ from (by unfold opCopy; exact (if_pos (bI_1 c4)).trans ((if_pos (bI_1 c11)).trans (if_pos (by rw [cut_nI (by omega)]; exact c42))))]; exact ⟨rfl, hR1⟩))
          | exact G_iret (st := []) (K := mX4_copy) dX4_copy_59 rfl (hQ _ _ (by rw [show opCopy σ (nI q) f (nI p) o n = _ from (by unfold opCopy; exact (if_pos (bI_1 c4)).trans ((if_pos (bI_1 c11)).trans ((if_neg (by rw [cut_nI (by omega)]; exact c42)).trans (if_pos (by rw [cut_nI (by omega)]; exact c50)))))]; exact ⟨rfl, hR1⟩))
      · skip
        refine G_aload (K := mX4_copy) dX4_copy_45 rfl ?_
        refine G_geti (K := mX4_copy) fX4_251 dX4_copy_47 (sh_o hp) rfl ?_
        rw [hR.s0 hp]
        refine G_if_ne (K := mX4_copy) (tgt := 60) dX4_copy_50 (by decide) (fun c50 => ?_) (fun c50 => ?_)
        · skip
          have h44q : ¬ σ 44 (cut (nI q)) = 0 := by rw [cut_nI (by omega)]; exact c42
          have h44p : ¬ σ 44 (cut (nI p)) = 0 := by rw [cut_nI (by omega)]; exact c50
          refine G_aload (K := mX4_copy) dX4_copy_60 rfl ?_
          refine G_geti (K := mX4_copy) fX4_251 dX4_copy_62 (sh_o hq) rfl ?_
          refine G_aload (K := mX4_copy) dX4_copy_65 rfl ?_
          refine G_geti (K := mX4_copy) fX4_251 dX4_copy_67 (sh_o hp) rfl ?_
          rw [hR.s0 hq, hR.s0 hp]
          refine G_icmp_eq (K := mX4_copy) (tgt := 80) dX4_copy_70 (by decide) (fun c70 => ?_) (fun c70 => ?_)
          · skip
            refine G_aload (K := mX4_copy) dX4_copy_80 rfl ?_
            refine G_iload_n (K := mX4_copy) (i := 2) dX4_copy_82 rfl rfl ?_
            refine G_iload (K := mX4_copy) dX4_copy_83 rfl ?_
            refine G_call0 (K := mX4_copy) (as := [.int f, .int n]) (r := 61 + 2 * q) (Q' := fun v M' => v = some (.int (hasS (σ 45 q) f n)) ∧ M' = M) (c_X1_has (f := f) (n := n) hq ⟨by rw [hR.s1 hq], rfl⟩) vX1_has rfl lX4_246 ⟨1, _, _, sh_o hq, rfl, rfl⟩ (by decide) (Nat.le_of_ble_eq_true rfl) dX4_copy_85 rfl ?_
            rintro v' M' ⟨rfl, e⟩
            obtain rfl := e.symm
            refine G_if_eq (K := mX4_copy) (tgt := 103) dX4_copy_88 (by decide) (fun c88 => ?_) (fun c88 => ?_)
            · skip
              refine G_aload_n (K := mX4_copy) (i := 0) dX4_copy_103 rfl rfl ?_
              refine G_ldc (K := mX4_copy) dX4_copy_104 kX4_52 ?_
              refine G_call0 (K := mX4_copy) (Q' := PostC (tl σ 0)) (cl_tell hR (k := 0) (by omega) (fun _ _ h => h)) vX4_tell rfl lX4_53 ⟨_, _, _, rfl, rfl, rfl⟩ (by decide) (Nat.le_of_ble_eq_true rfl) dX4_copy_106 rfl ?_
              rintro v M1 ⟨rfl, hR1⟩
              first
                | exact G_iret (st := []) (K := mX4_copy) dX4_copy_109 rfl (hQ _ _ (by rw [show opCopy σ (nI q) f (nI p) o n = _ from (by unfold opCopy; exact (if_pos (bI_1 c4)).trans ((if_pos (bI_1 c11)).trans ((if_neg h44q).trans ((if_neg h44p).trans ((if_pos (by rw [cut_nI (by omega), cut_nI (by omega)]; exact c70)).trans (if_pos (by rw [cut_nI (by omega)]; exact c88)))))))]; exact ⟨rfl, hR1⟩))
                | exact G_iret (st := []) (K := mX4_copy) dX4_copy_109 rfl (hQ _ _ (by rw [show opCopy σ (nI q) f (nI p) o n = _ from (by unfold opCopy; exact (if_pos (bI_1 c4)).trans ((if_pos (bI_1 c11)).trans ((if_neg h44q).trans ((if_neg h44p).trans ((if_pos (by rw [cut_nI (by omega), cut_nI (by omega)]; exact c70)).trans ((if_neg (by rw [cut_nI (by omega)]; exact c88)).trans (if_pos (by rw [cut_nI (by omega)]; exact c100))))))))]; exact ⟨rfl, hR1⟩))
            · skip
              refine G_aload (K := mX4_copy) dX4_copy_91 rfl ?_
              refine G_iload (K := mX4_copy) dX4_copy_93 rfl ?_
              refine G_iload (K := mX4_copy) dX4_copy_95 rfl ?_
              refine G_call0 (K := mX4_copy) (as := [.int o, .int n]) (r := 61 + 2 * p) (Q' := fun v M' => v = some (.int (hasS (σ 45 p) o n)) ∧ M' = M) (c_X1_has (f := o) (n := n) hp ⟨by rw [hR.s1 hp], rfl⟩) vX1_has rfl lX4_246 ⟨1, _, _, sh_o hp, rfl, rfl⟩ (by decide) (Nat.le_of_ble_eq_true rfl) dX4_copy_97 rfl ?_
              rintro v' M' ⟨rfl, e⟩
              obtain rfl := e.symm
              refine G_if_ne (K := mX4_copy) (tgt := 110) dX4_copy_100 (by decide) (fun c100 => ?_) (fun c100 => ?_)
              · skip
                obtain ⟨f1, n1, rfl, rfl, hf1, -, hf2, hn2⟩ := hasS_1 (m := 40) (hI.len hq) c88
                obtain ⟨o1, n2, rfl, en2, ho1, -, ho2, hn3⟩ := hasS_1 (m := 40) (hI.len hp) c100
                obtain rfl : n1 = n2 := (nI_eq hn2 hn3).mp en2
                refine G_aload (K := mX4_copy) dX4_copy_110 rfl ?_
                refine G_getr (K := mX4_copy) fX4_254 dX4_copy_112 (sh_o hq) rfl ?_
                refine G_iload_n (K := mX4_copy) (i := 2) dX4_copy_115 rfl rfl ?_
                refine G_aload (K := mX4_copy) dX4_copy_116 rfl ?_
                refine G_getr (K := mX4_copy) fX4_254 dX4_copy_118 (sh_o hp) rfl ?_
                refine G_iload (K := mX4_copy) dX4_copy_121 rfl ?_
                refine G_iload (K := mX4_copy) dX4_copy_123 rfl ?_
                refine G_copyG (K := mX4_copy) qX4_257 dX4_copy_125 (sh_n hq) (sh_n hp) hf1 ho1 (by decide) (by decide) (by decide) (Nat.le_of_ble_eq_true rfl) ?_
                refine G_iload (K := mX4_copy) dX4_copy_128 rfl ?_
                exact G_iret (st := []) (K := mX4_copy) dX4_copy_130 rfl (hQ _ _ (by rw [show opCopy σ (nI q) (nI f1) (nI p) (nI o1) (nI n1) = (nI n1, cpyG σ (46 + cut (nI q)) (46 + cut (nI p)) (cut (nI f1)) (cut (nI o1)) (cut (nI n1))) from (if_pos (bI_1 c4)).trans ((if_pos (bI_1 c11)).trans ((if_neg h44q).trans ((if_neg h44p).trans ((if_pos (by rw [cut_nI (by omega), cut_nI (by omega)]; exact c70)).trans ((if_neg (by rw [cut_nI (by omega)]; exact c88)).trans (if_neg (by rw [cut_nI (by omega)]; exact c100))))))), cut_nI (by omega), cut_nI (by omega), cut_nI hf2, cut_nI ho2, cut_nI hn2]; exact ⟨rfl, hR.cp hq hp hf1 ho1⟩))
              · skip
                refine G_aload_n (K := mX4_copy) (i := 0) dX4_copy_103 rfl rfl ?_
                refine G_ldc (K := mX4_copy) dX4_copy_104 kX4_52 ?_
                refine G_call0 (K := mX4_copy) (Q' := PostC (tl σ 0)) (cl_tell hR (k := 0) (by omega) (fun _ _ h => h)) vX4_tell rfl lX4_53 ⟨_, _, _, rfl, rfl, rfl⟩ (by decide) (Nat.le_of_ble_eq_true rfl) dX4_copy_106 rfl ?_
                rintro v M1 ⟨rfl, hR1⟩
                first
                  | exact G_iret (st := []) (K := mX4_copy) dX4_copy_109 rfl (hQ _ _ (by rw [show opCopy σ (nI q) f (nI p) o n = _ from (by unfold opCopy; exact (if_pos (bI_1 c4)).trans ((if_pos (bI_1 c11)).trans ((if_neg h44q).trans ((if_neg h44p).trans ((if_pos (by rw [cut_nI (by omega), cut_nI (by omega)]; exact c70)).trans (if_pos (by rw [cut_nI (by omega)]; exact c88)))))))]; exact ⟨rfl, hR1⟩))
                  | exact G_iret (st := []) (K := mX4_copy) dX4_copy_109 rfl (hQ _ _ (by rw [show opCopy σ (nI q) f (nI p) o n = _ from (by unfold opCopy; exact (if_pos (bI_1 c4)).trans ((if_pos (bI_1 c11)).trans ((if_neg h44q).trans ((if_neg h44p).trans ((if_pos (by rw [cut_nI (by omega), cut_nI (by omega)]; exact c70)).trans ((if_neg (by rw [cut_nI (by omega)]; exact c88)).trans (if_pos (by rw [cut_nI (by omega)]; exact c100))))))))]; exact ⟨rfl, hR1⟩))
          · skip
            refine G_aload_n (K := mX4_copy) (i := 0) dX4_copy_73 rfl rfl ?_
            refine G_ldc (K := mX4_copy) dX4_copy_74 kX4_235 ?_
            refine G_call0 (K := mX4_copy) (Q' := PostC (tl σ 2)) (cl_tell hR (k := 2) (by omega) (fun _ _ h => h)) vX4_tell rfl lX4_53 ⟨_, _, _, rfl, rfl, rfl⟩ (by decide) (Nat.le_of_ble_eq_true rfl) dX4_copy_76 rfl ?_
            rintro v M1 ⟨rfl, hR1⟩
            exact G_iret (st := []) (K := mX4_copy) dX4_copy_79 rfl (hQ _ _ (by rw [show opCopy σ (nI q) f (nI p) o n = _ from (by unfold opCopy; exact (if_pos (bI_1 c4)).trans ((if_pos (bI_1 c11)).trans ((if_neg h44q).trans ((if_neg h44p).trans (if_neg (by rw [cut_nI (by omega), cut_nI (by omega)]; exact c70))))))]; exact ⟨rfl, hR1⟩))
        · skip
          refine G_aload_n (K := mX4_copy) (i := 0) dX4_copy_53 rfl rfl ?_
          refine G_ldc (K := mX4_copy) dX4_copy_54 kX4_230 ?_
          refine G_call0 (K := mX4_copy) (Q' := PostC (tl σ 5)) (cl_tell hR (k := 5) (by omega) (fun _ _ h => h)) vX4_tell rfl lX4_53 ⟨_, _, _, rfl, rfl, rfl⟩ (by decide) (Nat.le_of_ble_eq_true rfl) dX4_copy_56 rfl ?_
          rintro v M1 ⟨rfl, hR1⟩
          first
            | exact G_iret (st := []) (K := mX4_copy) dX4_copy_59 rfl (hQ _ _ (by rw [show opCopy σ (nI q) f (nI p) o n = _ from (by unfold opCopy; exact (if_pos (bI_1 c4)).trans ((if_pos (bI_1 c11)).trans (if_pos (by rw [cut_nI (by omega)]; exact c42))))]; exact ⟨rfl, hR1⟩))
            | exact G_iret (st := []) (K := mX4_copy) dX4_copy_59 rfl (hQ _ _ (by rw [show opCopy σ (nI q) f (nI p) o n = _ from (by unfold opCopy; exact (if_pos (bI_1 c4)).trans ((if_pos (bI_1 c11)).trans ((if_neg (by rw [cut_nI (by omega)]; exact c42)).trans (if_pos (by rw [cut_nI (by omega)]; exact c50)))))]; exact ⟨rfl, hR1⟩))
    · skip
      refine G_aload_n (K := mX4_copy) (i := 0) dX4_copy_14 rfl rfl ?_
      refine G_ldc (K := mX4_copy) dX4_copy_15 kX4_52 ?_
      refine G_call0 (K := mX4_copy) (Q' := PostC (tl σ 0)) (cl_tell hR (k := 0) (by omega) (fun _ _ h => h)) vX4_tell rfl lX4_53 ⟨_, _, _, rfl, rfl, rfl⟩ (by decide) (Nat.le_of_ble_eq_true rfl) dX4_copy_17 rfl ?_
      rintro v M1 ⟨rfl, hR1⟩
      first
        | exact G_iret (st := []) (K := mX4_copy) dX4_copy_20 rfl (hQ _ _ (by rw [show opCopy σ s f t o n = _ from (by unfold opCopy; exact if_neg (by rw [bI_0 c4]; decide))]; exact ⟨rfl, hR1⟩))
        | exact G_iret (st := []) (K := mX4_copy) dX4_copy_20 rfl (hQ _ _ (by rw [show opCopy σ (nI q) f t o n = _ from (by unfold opCopy; exact (if_pos (bI_1 c4)).trans (if_neg (by rw [bI_0 c11]; decide)))]; exact ⟨rfl, hR1⟩))
