/-! what is given at the law's entry -/
theorem tw_1 {w : Cond} (i : Nat) (h : tables_1_1[i]? = some w) : w ∈ lw_tbl := List.mem_append_right _ (List.mem_append_left _ (List.mem_of_getElem? h))
theorem tw_2 {w : Cond} (i : Nat) (h : tables_1_2[i]? = some w) : w ∈ lw_tbl := List.mem_append_right _ (List.mem_append_right _ (List.mem_append_left _ (List.mem_of_getElem? h)))
theorem tw_3 {w : Cond} (i : Nat) (h : tables_1_3[i]? = some w) : w ∈ lw_tbl := List.mem_append_right _ (List.mem_append_right _ (List.mem_append_right _ (List.mem_append_left _ (List.mem_of_getElem? h))))
theorem tw_4 {w : Cond} (i : Nat) (h : tables_1_4[i]? = some w) : w ∈ lw_tbl := List.mem_append_right _ (List.mem_append_right _ (List.mem_append_right _ (List.mem_append_right _ (List.mem_append_left _ (List.mem_of_getElem? h)))))
theorem tw_5 {w : Cond} (i : Nat) (h : tables_1_5[i]? = some w) : w ∈ lw_tbl := List.mem_append_right _ (List.mem_append_right _ (List.mem_append_right _ (List.mem_append_right _ (List.mem_append_right _ (List.mem_append_left _ (List.mem_of_getElem? h))))))
theorem tw_6 {w : Cond} (i : Nat) (h : tables_1_6[i]? = some w) : w ∈ lw_tbl := List.mem_append_right _ (List.mem_append_right _ (List.mem_append_right _ (List.mem_append_right _ (List.mem_append_right _ (List.mem_append_right _ (List.mem_of_getElem? h))))))
abbrev gvn : List Cond := flatC (Cond.and given_1 narrow_1)
def tix (i : Nat) : Nat := [107, 109, 111, 113, 115, 117, 119, 121, 123, 125, 127, 83, 63, 54].getD i 0
abbrev tmS (i : Nat) : Term := .string "WarmWalls$TextReader" (tix i)
abbrev tmV (i : Nat) : Term := .field (tmS i) "java/lang/String" "value" "[B"
theorem gv_ex : ∀ i : Fin 14, Cond.exactly (tmS i) "java/lang/String" ∈ gvn := by decide +kernel
theorem gv_co : ∀ i : Fin 14, Cond.eq (.field (tmS i) "java/lang/String" "coder" "B") (.int 0) ∈ gvn := by decide +kernel
theorem gv_ar : ∀ i : Fin 14, Cond.arrayOf (tmV i) .byte ∈ gvn := by decide +kernel
theorem gv_le : ∀ i : Fin 14, Cond.eq (.length (tmV i)) (.int (Int32.ofNat (strLen.getD i 0))) ∈ gvn := by decide +kernel
theorem gv_el : ∀ i : Fin 14, ∀ j : Fin 9, j.1 < strLen.getD i 0 → Cond.eq (.elem (tmV i) (.int (Int32.ofNat j))) (.int ((strByt.getD i []).getD j 0)) ∈ gvn := by decide +kernel
theorem len9 : ∀ i : Fin 14, strLen.getD i 0 < 9 := by decide
abbrev tmT (t : Nat) : Term := .static "WarmWalls" (tnm t) "[I"
theorem gt_ar : ∀ t : Fin 3, Cond.arrayOf (tmT t) .int ∈ gvn := by decide +kernel
theorem gt_le : ∀ t : Fin 3, Cond.eq (.length (tmT t)) (.int (Int32.ofNat (tvl t).length)) ∈ gvn := by decide +kernel
theorem gt_el : ∀ t : Fin 3, ∀ j : Fin 9, j.1 < (tvl t).length → Cond.eq (.elem (tmT t) (.int (Int32.ofNat j))) (.int ((tvl t).getD j 0)) ∈ gvn := by decide +kernel
theorem gt_9 : ∀ t : Fin 3, (tvl t).length ≤ 9 := by decide
theorem gc_s : Cond.eq (.static "java/lang/String" "COMPACT_STRINGS" "Z") (.int 1) ∈ gvn := by decide +kernel
theorem gc_f : Cond.isRef (.static "jdk/internal/util/Preconditions" "SIOOBE_FORMATTER" "Ljava/util/function/BiFunction;") ∈ gvn := by decide +kernel
/-- the reference's names of the same constants -/
def mixS (i : Nat) : Nat := [48, 50, 52, 54, 56, 58, 60, 66, 68, 70, 72, 318, 320, 325].getD i 0
theorem gs_eq : ∀ i : Fin 14, Cond.eq (tmS i) (.string "WarmWallsModel" (mixS i)) ∈ gvn := by decide +kernel
theorem str_dec : ∀ i j : Fin 14, Int32.ofNat (strLen.getD i 0) = Int32.ofNat (strLen.getD j 0) → (∀ k : Fin 9, k.1 < strLen.getD i 0 → k.1 < strLen.getD j 0 → (strByt.getD i []).getD k 0 = (strByt.getD j []).getD k 0) → i = j := by decide +kernel
theorem str_inj {A : Nat → Prop} {s : State} {H : Heap} {i j aK aV bK bV : Nat} (hi : i < 14) (hj : j < 14)
    (h1 : va_OF "java/lang/String" "value" "[B" (.ref aV) aK A s H) (h2 : va_T .byte aV (strLen.getD i 0) (fun k => .int ((strByt.getD i []).getD k 0)) A s H)
    (g1 : va_OF "java/lang/String" "value" "[B" (.ref bV) bK A s H) (g2 : va_T .byte bV (strLen.getD j 0) (fun k => .int ((strByt.getD j []).getD k 0)) A s H) (e : aK = bK) : i = j := by
  subst e
  obtain ⟨cf, k, fi, f, cell, p1, p2, p3, p4, p5, p6⟩ := h1
  obtain ⟨cf', k', fi', f', cell', q1, q2, q3, q4, q5, q6⟩ := g1
  cases p1.symm.trans q1
  cases p3.symm.trans q3
  cases p5.symm.trans q5
  obtain ⟨c1, a1, a2, a3, a4, a5, a6, a7⟩ := h2
  obtain ⟨c2, b1, b2, b3, b4, b5, b6, b7⟩ := g2
  cases a1.symm.trans b1
  have h := str_dec ⟨i, hi⟩ ⟨j, hj⟩ (a5.symm.trans b5) (fun k hk1 hk2 => by
    have := (a6 k.1 hk1).symm.trans (b6 k.1 hk2)
    injection this with this
    injection this)
  exact congrArg Fin.val h
theorem strs {args : Array Value} {s : State} {A : Nat → Prop} (hg : ∀ w ∈ gvn, w.before args s = true) (hA : ∀ a : Nat, a < s.heap.size → ¬ A a) :
    ∃ adK adV : Nat → Nat, vk_S 14 strLen strByt adK adV A s s.heap ∧ ∀ i : Nat, i < 14 → (tmS i).eval args s none [] s = some (.ref (adK i)) := by
  have h0 : ∀ i : Nat, ∃ q : Nat × Nat, i < 14 → (tmS i).eval args s none [] s = some (.ref q.1) ∧ va_O "java/lang/String" q.1 A s s.heap ∧ va_OF "java/lang/String" "coder" "B" (.int 0) q.1 A s s.heap ∧ va_OF "java/lang/String" "value" "[B" (.ref q.2) q.1 A s s.heap ∧ va_T .byte q.2 (strLen.getD i 0) (fun j => .int ((strByt.getD i []).getD j 0)) A s s.heap := by
    intro i
    by_cases hi : i < 14
    · have h9 := len9 ⟨i, hi⟩
      have h9' : strLen.getD i 0 < 9 := h9
      obtain ⟨a, c, cA, kA, q1, q2, q3, q4, q5, q6, -⟩ := Cond.exactly_spec (args := args) (first := s) (o := none) (s := s) (idx := []) (t := tmS i) (cls := "java/lang/String") (hg _ (gv_ex ⟨i, hi⟩))
      obtain ⟨t, ht, hT⟩ := va_Tof (tm := tmV i) (ty := .byte) (N := strLen.getD i 0) (f := fun j => .int ((strByt.getD i []).getD j 0)) (A := A) (by omega) (hg _ (gv_ar ⟨i, hi⟩)) (va_eqt (hg _ (gv_le ⟨i, hi⟩))) (fun j hj => va_eqt (hg _ (gv_el ⟨i, hi⟩ ⟨j, by omega⟩ hj))) hA
      exact ⟨(a, t), fun _ => ⟨q1, ⟨cA, q3, q5, by rw [q6]; exact q2, hA a (Array.getElem?_eq_some_iff.mp q3).1⟩, vk_OFof q1 (va_eqt (hg _ (gv_co ⟨i, hi⟩))) hA, vk_OFof q1 ht hA, hT⟩⟩
    · exact ⟨(0, 0), fun h => absurd h hi⟩
  obtain ⟨ad, had⟩ := Classical.axiomOfChoice h0
  refine ⟨fun i => (ad i).1, fun i => (ad i).2, ⟨fun i hi => (had i hi).2, fun i j hi hj e => ?_⟩, fun i hi => (had i hi).1⟩
  exact str_inj hi hj (had i hi).2.2.2.1 (had i hi).2.2.2.2 (had j hj).2.2.2.1 (had j hj).2.2.2.2 e
theorem tabs3 {args : Array Value} {s : State} {A : Nat → Prop} (hg : ∀ w ∈ gvn, w.before args s = true) (hw : ∀ w ∈ lw_tbl, w.before args s = true) (hA : ∀ a : Nat, a < s.heap.size → ¬ A a) :
    ∃ tb : Nat → Nat, ∀ t, t < 3 → va_Z "WarmWalls" (tnm t) "[I" (.ref (tb t)) A s s.heap ∧ va_T .int (tb t) (tvl t).length (fun j => .int ((tvl t).getD j 0)) A s s.heap := by
  have h0 : ∀ t : Nat, ∃ q : Nat, t < 3 → va_Z "WarmWalls" (tnm t) "[I" (.ref q) A s s.heap ∧ va_T .int q (tvl t).length (fun j => .int ((tvl t).getD j 0)) A s s.heap := by
    intro t
    by_cases ht : t < 3
    · have h9 : (tvl t).length ≤ 9 := gt_9 ⟨t, ht⟩
      obtain ⟨q, hq, hT⟩ := va_Tof (tm := tmT t) (ty := .int) (N := (tvl t).length) (f := fun j => .int ((tvl t).getD j 0)) (A := A) (by omega) (hg _ (gt_ar ⟨t, ht⟩)) (va_eqt (hg _ (gt_le ⟨t, ht⟩))) (fun j hj => va_eqt (hg _ (gt_el ⟨t, ht⟩ ⟨j, by omega⟩ hj))) hA
      refine ⟨q, fun _ => ⟨va_Zof (hw _ ?_) (hw _ (tw_1 1 (by decide +kernel))) hq hA, hT⟩⟩
      have h3 : t = 0 ∨ t = 1 ∨ t = 2 := by omega
      rcases h3 with rfl | rfl | rfl
      · exact (tw_1 225 (by decide +kernel))
      · exact (tw_1 227 (by decide +kernel))
      · exact (tw_3 163 (by decide +kernel))
    · exact ⟨0, fun h => absurd h ht⟩
  obtain ⟨tb, h⟩ := Classical.axiomOfChoice h0
  exact ⟨tb, h⟩
def adS (tb adK adV : Nat → Nat) (f b : Nat) : Nat → Nat := fun j => if j < 1003 then tb (j - 1000) else if j < 1200 then adK (j - 1100) else if j < 1300 then adV (j - 1200) else if j = 1300 then f else b
theorem str_ref : ∀ q ∈ strRefs, ∃ i : Fin 14, q.2.2.2 = i.1 ∧ ((q.1 = "WarmWalls$TextReader" ∧ q.2.1 = tix i) ∨ (q.1 = "WarmWallsModel" ∧ q.2.1 = mixS i)) := by decide +kernel
theorem sr_w : ∀ q ∈ strRefs, Cond.stringRef q.1 q.2.1 q.2.2.1 ∈ lw_tbl := by
  intro q hq
  rcases List.mem_cons.mp hq with rfl | hq
  · exact (tw_3 135 (by decide +kernel))
  rcases List.mem_cons.mp hq with rfl | hq
  · exact (tw_3 140 (by decide +kernel))
  rcases List.mem_cons.mp hq with rfl | hq
  · exact (tw_3 133 (by decide +kernel))
  rcases List.mem_cons.mp hq with rfl | hq
  · exact (tw_3 56 (by decide +kernel))
  rcases List.mem_cons.mp hq with rfl | hq
  · exact (tw_3 57 (by decide +kernel))
  rcases List.mem_cons.mp hq with rfl | hq
  · exact (tw_3 58 (by decide +kernel))
  rcases List.mem_cons.mp hq with rfl | hq
  · exact (tw_3 59 (by decide +kernel))
  rcases List.mem_cons.mp hq with rfl | hq
  · exact (tw_3 60 (by decide +kernel))
  rcases List.mem_cons.mp hq with rfl | hq
  · exact (tw_3 61 (by decide +kernel))
  rcases List.mem_cons.mp hq with rfl | hq
  · exact (tw_3 62 (by decide +kernel))
  rcases List.mem_cons.mp hq with rfl | hq
  · exact (tw_3 123 (by decide +kernel))
  rcases List.mem_cons.mp hq with rfl | hq
  · exact (tw_3 124 (by decide +kernel))
  rcases List.mem_cons.mp hq with rfl | hq
  · exact (tw_3 125 (by decide +kernel))
  rcases List.mem_cons.mp hq with rfl | hq
  · exact (tw_3 126 (by decide +kernel))
  rcases List.mem_cons.mp hq with rfl | hq
  · exact (tw_4 0 (by decide +kernel))
  rcases List.mem_cons.mp hq with rfl | hq
  · exact (tw_4 1 (by decide +kernel))
  rcases List.mem_cons.mp hq with rfl | hq
  · exact (tw_4 2 (by decide +kernel))
  rcases List.mem_cons.mp hq with rfl | hq
  · exact (tw_4 3 (by decide +kernel))
  rcases List.mem_cons.mp hq with rfl | hq
  · exact (tw_4 4 (by decide +kernel))
  rcases List.mem_cons.mp hq with rfl | hq
  · exact (tw_4 5 (by decide +kernel))
  rcases List.mem_cons.mp hq with rfl | hq
  · exact (tw_4 6 (by decide +kernel))
  rcases List.mem_cons.mp hq with rfl | hq
  · exact (tw_4 7 (by decide +kernel))
  rcases List.mem_cons.mp hq with rfl | hq
  · exact (tw_4 8 (by decide +kernel))
  rcases List.mem_cons.mp hq with rfl | hq
  · exact (tw_4 9 (by decide +kernel))
  rcases List.mem_cons.mp hq with rfl | hq
  · exact (tw_4 10 (by decide +kernel))
  rcases List.mem_cons.mp hq with rfl | hq
  · exact (tw_5 209 (by decide +kernel))
  rcases List.mem_cons.mp hq with rfl | hq
  · exact (tw_5 210 (by decide +kernel))
  rcases List.mem_cons.mp hq with rfl | hq
  · exact (tw_5 215 (by decide +kernel))
  cases hq
theorem start_SF {args : Array Value} {s : State} {b : Nat} (hg : ∀ w ∈ gvn, w.before args s = true) (hw : ∀ w ∈ lw_tbl, w.before args s = true) :
    ∃ ad0 : Nat → Nat, SF2 ad0 (fun q => s.heap.size ≤ q) s s.heap ∧ ad0 2000 = b := by
  have hA : ∀ a : Nat, a < s.heap.size → ¬ (s.heap.size ≤ a) := fun a h1 h2 => by omega
  obtain ⟨tb, h1⟩ := tabs3 (A := fun q => s.heap.size ≤ q) hg hw hA
  obtain ⟨adK, adV, h2, h3⟩ := strs (A := fun q => s.heap.size ≤ q) hg hA
  have hZ := va_Zqof (C := "jdk/internal/util/Preconditions") (n := "SIOOBE_FORMATTER") (d := "Ljava/util/function/BiFunction;") (A := fun q => s.heap.size ≤ q) (hw _ (tw_3 92 (by decide +kernel))) (hw _ (tw_1 12 (by decide +kernel))) (hg _ gc_f) hA
  obtain ⟨f, hf⟩ : ∃ f : Nat, va_Z "jdk/internal/util/Preconditions" "SIOOBE_FORMATTER" "Ljava/util/function/BiFunction;" .null (fun q => s.heap.size ≤ q) s s.heap ∨ va_Z "jdk/internal/util/Preconditions" "SIOOBE_FORMATTER" "Ljava/util/function/BiFunction;" (.ref f) (fun q => s.heap.size ≤ q) s s.heap := by
    rcases hZ with h | ⟨t, h⟩
    · exact ⟨0, Or.inl h⟩
    · exact ⟨t, Or.inr h⟩
  have eT : ∀ t, t < 3 → adS tb adK adV f b (1000 + t) = tb t := fun t ht => by
    unfold adS
    rw [if_pos (by omega), Nat.add_sub_cancel_left]
  have eK : ∀ i, i < 14 → adS tb adK adV f b (1100 + i) = adK i := fun i hi => by
    unfold adS
    rw [if_neg (by omega), if_pos (by omega), Nat.add_sub_cancel_left]
  have eV : ∀ i, i < 14 → adS tb adK adV f b (1200 + i) = adV i := fun i hi => by
    unfold adS
    rw [if_neg (by omega), if_neg (by omega), if_pos (by omega), Nat.add_sub_cancel_left]
  refine ⟨adS tb adK adV f b, ⟨⟨fun t ht => ?_, va_Zof (hw _ (tw_3 76 (by decide +kernel))) (hw _ (tw_1 10 (by decide +kernel))) (va_eqi (hg _ gc_s)) hA, ?_, ⟨fun i hi => ?_, fun i j hi hj e => ?_⟩, fun q hq => ?_, fun t ht => ?_, ?_⟩, ?_, ?_, ?_, ?_, ?_⟩, ?_⟩
  · rw [eT t ht]
    exact h1 t ht
  · rw [show adS tb adK adV f b 1300 = f from rfl]
    exact hf
  · show va_O _ (adS tb adK adV f b (1100 + i)) _ s s.heap ∧ va_OF _ _ _ _ (adS tb adK adV f b (1100 + i)) _ s s.heap ∧ va_OF _ _ _ (.ref (adS tb adK adV f b (1200 + i))) (adS tb adK adV f b (1100 + i)) _ s s.heap ∧ va_T .byte (adS tb adK adV f b (1200 + i)) _ _ _ s s.heap
    rw [eK i hi, eV i hi]
    exact h2.1 i hi
  · have e2 : adS tb adK adV f b (1100 + i) = adS tb adK adV f b (1100 + j) := e
    rw [eK i hi, eK j hj] at e2
    exact h2.2 i j hi hj e2
  · obtain ⟨i, e1, e2⟩ := str_ref q hq
    refine vk_R.of (hw _ (sr_w q hq)) ?_
    rw [e1, eK i.1 i.2]
    rcases e2 with ⟨e2, e3⟩ | ⟨e2, e3⟩
    · rw [e2, e3]
      exact h3 i.1 i.2
    · rw [e2, e3]
      exact va_eqR (hg _ (gs_eq i)) (h3 i.1 i.2)
  · have h3 : t = 0 ∨ t = 1 ∨ t = 2 := by omega
    rcases h3 with rfl | rfl | rfl
    · exact va_Nw.of rfl (hw _ (tw_1 224 (by decide +kernel)))
    · exact va_Nw.of rfl (hw _ (tw_1 226 (by decide +kernel)))
    · exact va_Nw.of rfl (hw _ (tw_3 162 (by decide +kernel)))
  · exact va_Nw.of rfl (hw _ (tw_3 164 (by decide +kernel)))
  · exact va_Nw.of rfl (hw _ (tw_1 96 (by decide +kernel)))
  · exact va_Nw.of rfl (hw _ (tw_1 90 (by decide +kernel)))
  · exact va_Nw.of rfl (hw _ (tw_1 134 (by decide +kernel)))
  · exact va_AO.of (hw _ (tw_1 132 (by decide +kernel)))
  · exact va_AO.of (hw _ (tw_3 239 (by decide +kernel)))
  · rfl
