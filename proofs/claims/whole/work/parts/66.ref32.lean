def refL (k : Nat) : Nat → Nat → List Nat → List (List Nat)
  | 0, _, l => [l]
  | j + 1, u, l => (List.range k).flatMap (fun r => if u.testBit r = true then [] else refL k j (u ||| 2 ^ r) (l ++ [r]))
def sumL (P : List Nat → Bool) : List (List Nat) → Int32
  | [] => 0
  | l :: t => (if P l = true then 1 else 0) + sumL P t
theorem sumL_app {P : List Nat → Bool} : ∀ A B, sumL P (A ++ B) = sumL P A + sumL P B
  | [], B => by show sumL P B = 0 + sumL P B; grind
  | l :: t, B => by
    show (if P l = true then 1 else 0) + sumL P (t ++ B) = ((if P l = true then 1 else 0) + sumL P t) + sumL P B
    rw [sumL_app t B]
    grind
theorem sumL_perm {P : List Nat → Bool} {A B : List (List Nat)} (h : A.Perm B) : sumL P A = sumL P B := by
  induction h with
  | nil => rfl
  | cons x _ ih => show _ + _ = _ + _; rw [ih]
  | swap x y l =>
    show (if P y = true then 1 else 0) + ((if P x = true then 1 else 0) + sumL P l) = (if P x = true then 1 else 0) + ((if P y = true then 1 else 0) + sumL P l)
    grind
  | trans _ _ h1 h2 => exact h1.trans h2
theorem sumL_congr {P P2 : List Nat → Bool} : ∀ A, (∀ l ∈ A, P l = P2 l) → sumL P A = sumL P2 A
  | [], _ => rfl
  | l :: t, h => by
    show (if P l = true then (1 : Int32) else 0) + sumL P t = (if P2 l = true then 1 else 0) + sumL P2 t
    rw [h l List.mem_cons_self, sumL_congr t (fun x hx => h x (List.mem_cons_of_mem _ hx))]
theorem cnt_sumL {P : List Nat → Bool} {f : Nat → List Nat} : ∀ m, cntN (fun o => P (f o)) m = sumL P ((List.range m).map f)
  | 0 => rfl
  | m + 1 => by
    rw [List.range_succ, List.map_append, sumL_app, ← cnt_sumL m]
    show (if P (f m) = true then cntN (fun o => P (f o)) m + 1 else cntN (fun o => P (f o)) m) = _ + ((if P (f m) = true then 1 else 0) + 0)
    by_cases h : P (f m) = true
    · rw [if_pos h, if_pos h]; grind
    · rw [if_neg h, if_neg h]; grind
theorem all_perm : ∀ k : Fin 6, 2 ≤ k.1 → (refL k.1 k.1 0 []).Perm ((List.range (facN k.1)).map (pcL k.1)) := by decide +kernel
theorem all_in : ∀ k : Fin 6, ∀ l ∈ refL k.1 k.1 0 [], ∀ i : Fin 6, i.1 < k.1 → l.getD i.1 0 < k.1 := by decide +kernel
def dOK (A : Mem) (k : Nat) (l : List Nat) (M : Mem) : Prop := toH (M 3) = A ∧ (∀ c i, ¬ (c = 1 ∧ i < k) → toH (M 1) c i = A c i) ∧ ∀ i, i < l.length → toH (M 1) 1 i = A 1 (l.getD i 0)
def ordQ (A : Mem) (n a k : Nat) (l : List Nat) : Bool := decide (coldB (hoursH n a (dL A k l)) n = 0)
theorem dOK.full {A M : Mem} {k : Nat} {l : List Nat} (h : dOK A k l M) (hl : l.length = k) : toH (M 1) = dL A k l := by
  funext c i
  by_cases hc : c = 1 ∧ i < k
  · obtain ⟨rfl, hi⟩ := hc
    exact (h.2.2 i (by omega)).trans (if_pos ⟨rfl, hi⟩).symm
  · exact (h.2.1 c i hc).trans (if_neg hc).symm
theorem getD_snoc {l : List Nat} {r i : Nat} (hi : i < l.length) : (l ++ [r]).getD i 0 = l.getD i 0 := by
  rw [List.getD_eq_getElem?_getD, List.getD_eq_getElem?_getD, List.getElem?_append_left hi]
theorem getD_last {l : List Nat} {r : Nat} : (l ++ [r]).getD l.length 0 = r := by
  rw [List.getD_eq_getElem?_getD, List.getElem?_append_right (Nat.le_refl _), Nat.sub_self]
  rfl
theorem dOK.pre {A M : Mem} {k r : Nat} {l : List Nat} (h : dOK A k (l ++ [r]) M) : dOK A k l M :=
  ⟨h.1, h.2.1, fun i hi => by rw [h.2.2 i (by rw [List.length_append]; omega), getD_snoc hi]⟩
theorem dOK.put {A M : Mem} {k r : Nat} {l : List Nat} {x : Int32} (h : dOK A k l M) (hl : l.length < k) (hk : k ≤ 5) (hx : x = A 1 r) : dOK A k (l ++ [r]) (ups M 1 (14 + 9 * l.length + 0) x) := by
  have e := toH_ups (M := M) (f := 0) (i := l.length) (x := x) (by omega) (by omega)
  refine ⟨by rw [ups_cell (by decide)]; exact h.1, fun c i hc => ?_, fun i hi => ?_⟩
  · rw [e, ups_ne (by omega)]; exact h.2.1 c i hc
  · rw [e]
    by_cases hil : i = l.length
    · subst hil
      rw [show 1 + 0 = 1 from rfl, ups_same, getD_last, hx]
    · rw [List.length_append] at hi
      have hi2 : i < l.length := by
        have e1 : [r].length = 1 := rfl
        omega
      rw [ups_ne (fun z => hil z.2), getD_snoc hi2]
      exact h.2.2 i hi2
def dR (A : Mem) (n a k j u : Nat) (l : List Nat) (M M2 : Mem) (L : List (List Nat)) : Prop := dOK A k l M2 ∧ M2 0 13 = M 0 13 + sumL (ordQ A n a k) L ∧ (∀ x, x ≠ 13 → M2 0 x = M 0 x) ∧ ∀ c, c ≠ 0 → c ≠ 1 → c ≠ 7 → c ≠ 11 → M2 c = M c
set_option maxRecDepth 20000 in
theorem rf_dealLeaf {A M : Mem} {n a k u : Nat} {l : List Nat} (hA : A 0 0 = nI n) (hn8 : n ≤ 8) (hkn : k ≤ n) (hk5 : k ≤ 5) (ha : a ≤ 24) (hJ : HJ A n) (ho : 0 ≤ (A 0 1).toInt) (hM : dOK A k l M) (hl : l.length = k) {Q : Option Value → Mem → Prop} (hQ : ∀ M2 : Mem, dR A n a k 0 u l M M2 [l] → Q none M2) : CT mX5_dealOn shR 5 [.ref 0, .int (nI k), .int (nI a), .int (nI l.length), .int (nI u)] M Q := by
  refine CT.mk [some (.ref 0), some (.int (nI k)), some (.int (nI a)), some (.int (nI l.length)), some (.int (nI u)), none] (by decide) (Nat.le_of_ble_eq_true rfl) rfl rfl ?_
  have eT := hM.full hl
  have hn : M 1 2 = nI n := by rw [← toH_n (M 1), eT]; exact (congrFun (dF_c (h := A) (k := k) (f := fun i => l.getD i 0) (c := 0) (by decide)) 0).trans hA
  have hJd : HJ (toH (M 1)) n := by rw [eT]; exact fun i hi => by unfold dL; rw [dF_c (by decide), dF_c (by decide), dF_c (by decide), dF_c (by decide), dF_c (by decide), dF_c (by decide)]; exact hJ i hi
  have hoD : 0 ≤ (toH (M 1) 0 1).toInt := by rw [eT]; unfold dL; rw [dF_c (by decide)]; exact ho
  refine G_iload_n (K := mX5_dealOn) (i := 3) dX5_dealOn_0 rfl rfl ?_
  refine G_iload_n (K := mX5_dealOn) (i := 1) dX5_dealOn_1 rfl rfl ?_
  refine G_icmp_ne (K := mX5_dealOn) (tgt := 61) dX5_dealOn_2 (by decide) (fun c2 => ?_) (fun c2 => ?_)
  · skip
    exact absurd (by rw [hl]) c2
  · skip
    refine G_aload_n (K := mX5_dealOn) (i := 0) dX5_dealOn_5 rfl rfl ?_
    refine G_getr (K := mX5_dealOn) fX5_9 dX5_dealOn_6 rfl rfl ?_
    refine G_aload_n (K := mX5_dealOn) (i := 0) dX5_dealOn_9 rfl rfl ?_
    refine G_getr (K := mX5_dealOn) fX5_40 dX5_dealOn_10 rfl rfl ?_
    refine G_sn (K := mX5_dealOn) (c_X5_copyRow (a := 1) (b := 11) rfl rfl (by decide) ⟨rfl, rfl⟩) sX5_copyRow rfl lX5_93 dX5_dealOn_13 (by decide) rfl (Nat.le_of_ble_eq_true rfl) ?_
    refine G_aload_n (K := mX5_dealOn) (i := 0) dX5_dealOn_16 rfl rfl ?_
    refine G_iload_n (K := mX5_dealOn) (i := 2) dX5_dealOn_17 rfl rfl ?_
    refine G_call0 (K := mX5_dealOn) (as := [.int (nI a)]) (r := 0) (Q' := fun v Mz => v = some (.int (hoursSum n a (toH (cpyM M 1 11 86 1)))) ∧ toH (Mz 1) = hoursH n a (toH (cpyM M 1 11 86 1)) ∧ ∀ c, c ≠ 1 → c ≠ 7 → Mz c = cpyM M 1 11 86 c) (c_X5_hoursGo (n := n) (k := a) (by rw [cpyM_c (by decide)]; exact hn) hn8 (by omega) (fun i hi => by rw [cpyM_c (by decide)]; have h := (hJd i hi).2.2.1; unfold rg at h; rw [i32_lt]; show (0 : Int) < _; omega) (fun Mz h1 h2 => ⟨rfl, h1, h2⟩)) vX5_hoursGo rfl lX5_164 ⟨_, _, _, rfl, rfl, rfl⟩ (by decide) (Nat.le_of_ble_eq_true rfl) dX5_dealOn_18 rfl ?_
    rintro v M2 ⟨rfl, h21, h22⟩
    rw [cpyM_c (by decide)] at h21
    rw [cpyM_c (by decide)]
    have hn2 : M2 1 2 = nI n := by rw [← toH_n (M2 1), h21, hoursH_0]; exact hn
    refine G_istore (K := mX5_dealOn) dX5_dealOn_21 (by decide) ?_
    refine G_aload_n (K := mX5_dealOn) (i := 0) dX5_dealOn_23 rfl rfl ?_
    refine G_dup (K := mX5_dealOn) dX5_dealOn_24 rfl ?_
    refine G_geti (K := mX5_dealOn) fX5_227 dX5_dealOn_25 rfl rfl ?_
    refine G_iload (K := mX5_dealOn) dX5_dealOn_28 rfl ?_
    refine G_if_lt (K := mX5_dealOn) (tgt := 44) dX5_dealOn_30 (by decide) (fun c30 => ?_) (fun c30 => ?_)
    · skip
      exact absurd c30 (by
          have h := hoursSum_rg hJd hn8 hoD a (by omega)
          unfold rg at h
          rw [i32_lt]
          exact Int.not_lt.mpr h.1)
    · skip
      refine G_aload_n (K := mX5_dealOn) (i := 0) dX5_dealOn_33 rfl rfl ?_
      refine G_cv (K := mX5_dealOn) (c_X5_colds (M := M2) (n := n) hn2 hn8 ⟨rfl, rfl⟩) vX5_colds rfl lX5_170 dX5_dealOn_34 ⟨_, _, _, rfl, rfl, rfl⟩ (by decide) rfl (Nat.le_of_ble_eq_true rfl) ?_
      rw [h21, eT, show bits (fun i => decide (hoursH n a (dL A k l) 2 i < 60)) n = coldB (hoursH n a (dL A k l)) n from rfl]
      refine G_if_ne (K := mX5_dealOn) (tgt := 44) dX5_dealOn_37 (by decide) (fun c37 => ?_) (fun c37 => ?_)
      · skip
        have hP : ordQ A n a k l = false := decide_eq_false c37
        refine G_iconst (K := mX5_dealOn) (v := 0) dX5_dealOn_44 (by decide) ?_
        refine G_iadd (K := mX5_dealOn) dX5_dealOn_45 ?_
        refine G_puti (K := mX5_dealOn) fX5_227 w5_13 dX5_dealOn_46 rfl rfl ?_
        refine G_aload_n (K := mX5_dealOn) (i := 0) dX5_dealOn_49 rfl rfl ?_
        refine G_getr (K := mX5_dealOn) fX5_40 dX5_dealOn_50 rfl rfl ?_
        refine G_aload_n (K := mX5_dealOn) (i := 0) dX5_dealOn_53 rfl rfl ?_
        refine G_getr (K := mX5_dealOn) fX5_9 dX5_dealOn_54 rfl rfl ?_
        refine G_sn (K := mX5_dealOn) (c_X5_copyRow (a := 11) (b := 1) rfl rfl (by decide) ⟨rfl, rfl⟩) sX5_copyRow rfl lX5_93 dX5_dealOn_57 (by decide) rfl (Nat.le_of_ble_eq_true rfl) ?_
        refine G_vrm (K := mX5_dealOn) dX5_dealOn_60 rfl rfl (hQ _ ⟨?_, ?_, fun x hx => ?_, fun c h0 h1 h7 h11 => ?_⟩)
        · have e1 : ∀ x : Int32, toH (cpyM (ups M2 0 13 x) 11 1 86 1) = toH (M 1) := fun x => toH_cpy.trans (by rw [ups_cell (by decide), h22 11 (by decide) (by decide)]; exact toH_cpy)
          refine ⟨?_, fun c i hc => by rw [e1]; exact hM.2.1 c i hc, fun i hi => by rw [e1]; exact hM.2.2 i hi⟩
          rw [cpyM_c (by decide), ups_cell (by decide), h22 3 (by decide) (by decide), cpyM_c (by decide)]
          exact hM.1
        · rw [cpyM_c (by decide), ups_same, h22 0 (by decide) (by decide), cpyM_c (by decide)]
          show _ = _ + ((if ordQ A n a k l = true then 1 else 0) + 0)
          rw [hP]
          show _ = _ + (0 + 0)
          grind
        · rw [cpyM_c (by decide), ups_ne (fun z => hx z.2), h22 0 (by decide) (by decide), cpyM_c (by decide)]
        · rw [cpyM_c h1, ups_cell h0, h22 c h1 h7, cpyM_c h11]
      · skip
        have hP : ordQ A n a k l = true := decide_eq_true c37
        refine G_iconst (K := mX5_dealOn) (v := 1) dX5_dealOn_40 (by decide) ?_
        refine G_goto (K := mX5_dealOn) (tgt := 45) dX5_dealOn_41 (by decide) ?_
        refine G_iadd (K := mX5_dealOn) dX5_dealOn_45 ?_
        refine G_puti (K := mX5_dealOn) fX5_227 w5_13 dX5_dealOn_46 rfl rfl ?_
        refine G_aload_n (K := mX5_dealOn) (i := 0) dX5_dealOn_49 rfl rfl ?_
        refine G_getr (K := mX5_dealOn) fX5_40 dX5_dealOn_50 rfl rfl ?_
        refine G_aload_n (K := mX5_dealOn) (i := 0) dX5_dealOn_53 rfl rfl ?_
        refine G_getr (K := mX5_dealOn) fX5_9 dX5_dealOn_54 rfl rfl ?_
        refine G_sn (K := mX5_dealOn) (c_X5_copyRow (a := 11) (b := 1) rfl rfl (by decide) ⟨rfl, rfl⟩) sX5_copyRow rfl lX5_93 dX5_dealOn_57 (by decide) rfl (Nat.le_of_ble_eq_true rfl) ?_
        refine G_vrm (K := mX5_dealOn) dX5_dealOn_60 rfl rfl (hQ _ ⟨?_, ?_, fun x hx => ?_, fun c h0 h1 h7 h11 => ?_⟩)
        · have e1 : ∀ x : Int32, toH (cpyM (ups M2 0 13 x) 11 1 86 1) = toH (M 1) := fun x => toH_cpy.trans (by rw [ups_cell (by decide), h22 11 (by decide) (by decide)]; exact toH_cpy)
          refine ⟨?_, fun c i hc => by rw [e1]; exact hM.2.1 c i hc, fun i hi => by rw [e1]; exact hM.2.2 i hi⟩
          rw [cpyM_c (by decide), ups_cell (by decide), h22 3 (by decide) (by decide), cpyM_c (by decide)]
          exact hM.1
        · rw [cpyM_c (by decide), ups_same, h22 0 (by decide) (by decide), cpyM_c (by decide)]
          show _ = _ + ((if ordQ A n a k l = true then 1 else 0) + 0)
          rw [hP]
          show _ = _ + (1 + 0)
          grind
        · rw [cpyM_c (by decide), ups_ne (fun z => hx z.2), h22 0 (by decide) (by decide), cpyM_c (by decide)]
        · rw [cpyM_c h1, ups_cell h0, h22 c h1 h7, cpyM_c h11]

set_option maxRecDepth 20000 in
theorem rf_dealStep {A M : Mem} {n a k u j : Nat} {l : List Nat} (hA : A 0 0 = nI n) (hn8 : n ≤ 8) (hkn : k ≤ n) (hk5 : k ≤ 5) (ha : a ≤ 24) (hJ : HJ A n) (ho : 0 ≤ (A 0 1).toInt) (hM : dOK A k l M) (hl : l.length + (j + 1) = k) (hu : u < 256) (ih : ∀ (l2 : List Nat) (u2 : Nat) (M : Mem), l2.length + j = k → u2 < 256 → dOK A k l2 M → CT mX5_dealOn shR (5 + j) [.ref 0, .int (nI k), .int (nI a), .int (nI l2.length), .int (nI u2)] M (fun v M2 => v = none ∧ dR A n a k j u2 l2 M M2 (refL k j u2 l2))) {Q : Option Value → Mem → Prop} (hQ : ∀ M2 : Mem, dR A n a k (j + 1) u l M M2 (refL k (j + 1) u l) → Q none M2) : CT mX5_dealOn shR (5 + j + 1) [.ref 0, .int (nI k), .int (nI a), .int (nI l.length), .int (nI u)] M Q := by
  refine CT.mk [some (.ref 0), some (.int (nI k)), some (.int (nI a)), some (.int (nI l.length)), some (.int (nI u)), none] (by decide) (Nat.le_of_ble_eq_true rfl) rfl rfl ?_
  refine G_iload_n (K := mX5_dealOn) (i := 3) dX5_dealOn_0 rfl rfl ?_
  refine G_iload_n (K := mX5_dealOn) (i := 1) dX5_dealOn_1 rfl rfl ?_
  refine G_icmp_ne (K := mX5_dealOn) (tgt := 61) dX5_dealOn_2 (by decide) (fun c2 => ?_) (fun c2 => ?_)
  · skip
    refine G_iconst (K := mX5_dealOn) (v := 0) dX5_dealOn_61 (by decide) ?_
    refine G_istore (K := mX5_dealOn) dX5_dealOn_62 (by decide) ?_
    have loop64 : ∀ r, r ≤ k → ∀ M3 : Mem, dR A n a k (j + 1) u l M M3 ((List.range r).flatMap (fun r => if u.testBit r = true then [] else refL k j (u ||| 2 ^ r) (l ++ [r]))) → G mX5_dealOn shR (5 + j + 1) Q 64 [some (.ref 0), some (.int (nI k)), some (.int (nI a)), some (.int (nI l.length)), some (.int (nI u)), some (.int (nI r))] [] M3 := by
      refine upto k (fun r hr rh => ?_)
      intro M3 hd
      refine G_iload (K := mX5_dealOn) dX5_dealOn_64 rfl ?_
      refine G_iload_n (K := mX5_dealOn) (i := 1) dX5_dealOn_66 rfl rfl ?_
      refine G_icmp_ge (K := mX5_dealOn) (tgt := 123) dX5_dealOn_67 (by decide) (fun c67 => ?_) (fun c67 => ?_)
      · skip
        rw [le_nn (by omega) (by omega)] at c67
        have hrk : r = k := by omega
        subst hrk
        exact G_vrm (K := mX5_dealOn) dX5_dealOn_123 rfl rfl (hQ M3 hd)
      · skip
        rw [le_nn (by omega) (by omega)] at c67
        refine G_iload (K := mX5_dealOn) dX5_dealOn_70 rfl ?_
        refine G_iload (K := mX5_dealOn) dX5_dealOn_72 rfl ?_
        refine G_sv (K := mX5_dealOn) (c_X5_has (M := M3) (s := nI u) (k := nI r) ⟨rfl, rfl⟩) sX5_has rfl lX5_140 dX5_dealOn_74 (by omega) rfl (Nat.le_of_ble_eq_true rfl) ?_
        refine G_if_ne (K := mX5_dealOn) (tgt := 117) dX5_dealOn_77 (by decide) (fun c77 => ?_) (fun c77 => ?_)
        · skip
          have hB : u.testBit r = true := (mask_has ⟨u, hu⟩ ⟨r, by omega⟩).mp (of_decide_eq_true (bI_1 c77))
          refine G_iincN (K := mX5_dealOn) dX5_dealOn_117 (by decide) rfl ?_
          refine G_goto (K := mX5_dealOn) (tgt := 64) dX5_dealOn_120 (by decide) ?_
          refine rh (r + 1) (by omega) (by omega) M3 ?_
          unfold dR
          rw [List.range_succ, List.flatMap_append, List.flatMap_singleton, if_pos hB, List.append_nil]
          exact hd
        · skip
          have hB : ¬ u.testBit r = true := fun z => of_decide_eq_false (bI_0 c77) ((mask_has ⟨u, hu⟩ ⟨r, by omega⟩).mpr z)
          refine G_aload_n (K := mX5_dealOn) (i := 0) dX5_dealOn_80 rfl rfl ?_
          refine G_getr (K := mX5_dealOn) fX5_9 dX5_dealOn_81 rfl rfl ?_
          refine G_iload_n (K := mX5_dealOn) (i := 3) dX5_dealOn_84 rfl rfl ?_
          refine G_iconst (K := mX5_dealOn) (v := 0) dX5_dealOn_85 (by decide) ?_
          refine G_sv (K := mX5_dealOn) (c_X5_at (M := M3) (i := l.length) (f := 0) (by omega) (by omega) ⟨rfl, rfl⟩) sX5_at rfl lX5_101 dX5_dealOn_86 (by omega) rfl (Nat.le_of_ble_eq_true rfl) ?_
          refine G_aload_n (K := mX5_dealOn) (i := 0) dX5_dealOn_89 rfl rfl ?_
          refine G_getr (K := mX5_dealOn) fX5_16 dX5_dealOn_90 rfl rfl ?_
          refine G_iload (K := mX5_dealOn) dX5_dealOn_93 rfl ?_
          refine G_iconst (K := mX5_dealOn) (v := 0) dX5_dealOn_95 (by decide) ?_
          refine G_sv (K := mX5_dealOn) (c_X5_at (M := M3) (i := r) (f := 0) (by omega) (by omega) ⟨rfl, rfl⟩) sX5_at rfl lX5_101 dX5_dealOn_96 (by omega) rfl (Nat.le_of_ble_eq_true rfl) ?_
          refine G_ld (K := mX5_dealOn) (14 + 9 * r + 0) dX5_dealOn_99 rfl rfl (by omega) (by decide) ?_
          refine G_sto (K := mX5_dealOn) (14 + 9 * l.length + 0) dX5_dealOn_100 rfl rfl (by omega) (by decide) ?_
          refine G_aload_n (K := mX5_dealOn) (i := 0) dX5_dealOn_101 rfl rfl ?_
          refine G_iload_n (K := mX5_dealOn) (i := 1) dX5_dealOn_102 rfl rfl ?_
          refine G_iload_n (K := mX5_dealOn) (i := 2) dX5_dealOn_103 rfl rfl ?_
          refine G_iload_n (K := mX5_dealOn) (i := 3) dX5_dealOn_104 rfl rfl ?_
          refine G_iconst (K := mX5_dealOn) (v := 1) dX5_dealOn_105 (by decide) ?_
          refine G_iadd (K := mX5_dealOn) dX5_dealOn_106 ?_
          rw [nI_1]
          refine G_iload (K := mX5_dealOn) dX5_dealOn_107 rfl ?_
          refine G_iconst (K := mX5_dealOn) (v := 1) dX5_dealOn_109 (by decide) ?_
          refine G_iload (K := mX5_dealOn) dX5_dealOn_110 rfl ?_
          refine G_ishl (K := mX5_dealOn) dX5_dealOn_112 ?_
          refine G_ior (K := mX5_dealOn) dX5_dealOn_113 ?_
          have hl2 : (l ++ [r]).length = l.length + 1 := by rw [List.length_append]; rfl
          have hmo := mask_or ⟨u, hu⟩ ⟨r, by omega⟩
          have ex : M3 3 (14 + 9 * r + 0) = A 1 r := by rw [← toH_f (M3 3) (f := 0) (i := r) (by omega) (by omega), hd.1.1]
          have hP2 := hd.1.put (r := r) (x := M3 3 (14 + 9 * r + 0)) (by omega) hk5 ex
          rw [show nI u ||| 1 <<< (nI r &&& 31) = nI (u ||| 2 ^ r) from hmo.1, ← hl2]
          refine G_call0 (K := mX5_dealOn) (as := [.int (nI k), .int (nI a), .int (nI (l ++ [r]).length), .int (nI (u ||| 2 ^ r))]) (r := 0) (ih (l ++ [r]) (u ||| 2 ^ r) _ (by omega) hmo.2 hP2) vX5_dealOn rfl lX5_230 ⟨_, _, _, rfl, rfl, rfl⟩ (by omega) (Nat.le_of_ble_eq_true rfl) dX5_dealOn_114 rfl ?_
          rintro v M5 ⟨rfl, h5⟩
          show G mX5_dealOn shR (5 + j + 1) Q 117 _ [] M5
          refine G_iincN (K := mX5_dealOn) dX5_dealOn_117 (by decide) rfl ?_
          refine G_goto (K := mX5_dealOn) (tgt := 64) dX5_dealOn_120 (by decide) ?_
          refine rh (r + 1) (by omega) (by omega) M5 ⟨h5.1.pre, ?_, fun x hx => ?_, fun c h0 h1 h7 h11 => ?_⟩
          · rw [List.range_succ, List.flatMap_append, List.flatMap_singleton, if_neg hB, sumL_app, h5.2.1, ups_cell (by decide), hd.2.1]
            grind
          · rw [h5.2.2.1 x hx, ups_cell (by decide)]; exact hd.2.2.1 x hx
          · rw [h5.2.2.2 c h0 h1 h7 h11, ups_cell h1]; exact hd.2.2.2 c h0 h1 h7 h11
    exact loop64 0 (by omega) M ⟨hM, by show M 0 13 = M 0 13 + 0; grind, fun _ _ => rfl, fun _ _ _ _ _ => rfl⟩
  · skip
    exact absurd ((nI_eqI (by omega) (by omega)).mp c2) (by omega)

theorem rf_dealOn {A : Mem} {n a k : Nat} (hA : A 0 0 = nI n) (hn8 : n ≤ 8) (hkn : k ≤ n) (hk5 : k ≤ 5) (ha : a ≤ 24) (hJ : HJ A n) (ho : 0 ≤ (A 0 1).toInt) : ∀ (j : Nat) (l : List Nat) (u : Nat) (M : Mem), l.length + j = k → u < 256 → dOK A k l M → CT mX5_dealOn shR (5 + j) [.ref 0, .int (nI k), .int (nI a), .int (nI l.length), .int (nI u)] M (fun v M2 => v = none ∧ dR A n a k j u l M M2 (refL k j u l))
  | 0, l, u, M, hl, _, hM => rf_dealLeaf hA hn8 hkn hk5 ha hJ ho hM hl (fun M2 h => ⟨rfl, h⟩)
  | j + 1, l, u, M, hl, hu, hM => rf_dealStep hA hn8 hkn hk5 ha hJ ho hM hl hu (fun l2 u2 M2 h1 h2 h3 => rf_dealOn hA hn8 hkn hk5 ha hJ ho j l2 u2 M2 h1 h2 h3) (fun M2 h => ⟨rfl, h⟩)