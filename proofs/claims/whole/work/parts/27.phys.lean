/-! the numbers of an hour stay in their bounds -/
theorem add_I {a b : Int32} (h1 : -2147483648 ≤ a.toInt + b.toInt) (h2 : a.toInt + b.toInt < 2147483648) : (a + b).toInt = a.toInt + b.toInt := by
  rw [Int32.toInt_add, Int.bmod_def]
  simp only [Nat.reducePow]
  omega
theorem sub_I {a b : Int32} (h1 : -2147483648 ≤ a.toInt - b.toInt) (h2 : a.toInt - b.toInt < 2147483648) : (a - b).toInt = a.toInt - b.toInt := by
  rw [Int32.toInt_sub, Int.bmod_def]
  simp only [Nat.reducePow]
  omega
theorem mul_I {a b : Int32} (h1 : -2147483648 ≤ a.toInt * b.toInt) (h2 : a.toInt * b.toInt < 2147483648) : (a * b).toInt = a.toInt * b.toInt := by
  rw [Int32.toInt_mul, Int.bmod_def]
  simp only [Nat.reducePow]
  generalize a.toInt * b.toInt = z at h1 h2 ⊢
  omega
theorem div_I {a b : Int32} (h1 : 0 ≤ a.toInt) (h2 : 0 < b.toInt) : (a / b).toInt = a.toInt / b.toInt := by
  rw [Int32.toInt_div, Int.tdiv_eq_ediv_of_nonneg h1]
  have h3 := Int32.toInt_lt a
  have h4 : 0 ≤ a.toInt / b.toInt := Int.ediv_nonneg h1 (Int.le_of_lt h2)
  have h5 : a.toInt / b.toInt ≤ a.toInt := Int.ediv_le_self _ h1
  rw [Int.bmod_def]
  simp only [Nat.reducePow]
  generalize a.toInt / b.toInt = z at h4 h5 ⊢
  omega
theorem minI_or (x y : Int32) : (minI x y = x ∧ x.toInt ≤ y.toInt) ∨ (minI x y = y ∧ y.toInt < x.toInt) := by
  unfold minI
  by_cases h : y < x
  · rw [if_pos h]; exact Or.inr ⟨rfl, i32_lt.mp h⟩
  · rw [if_neg h]
    rw [i32_lt] at h
    exact Or.inl ⟨rfl, by omega⟩
theorem maxI_or (x y : Int32) : (maxI x y = x ∧ y.toInt ≤ x.toInt) ∨ (maxI x y = y ∧ x.toInt < y.toInt) := by
  unfold maxI
  by_cases h : x < y
  · rw [if_pos h]; exact Or.inr ⟨rfl, i32_lt.mp h⟩
  · rw [if_neg h]
    rw [i32_lt] at h
    exact Or.inl ⟨rfl, by omega⟩
theorem rg_lit {x : Int32} {lo hi v : Int} (h : x.toInt = v) (h1 : lo ≤ v) (h2 : v ≤ hi) : rg x lo hi := ⟨by omega, by omega⟩
theorem kindlyF_rg (w : Int32) : rg (kindlyF w) 1 2 := by
  unfold kindlyF
  by_cases h : w < 120
  · rw [if_pos h]; exact rg_lit (v := 1) rfl (by omega) (by omega)
  · rw [if_neg h]; exact rg_lit (v := 2) rfl (by omega) (by omega)
theorem justF_rg {g : Int32} (h : 0 ≤ g.toInt) : rg (justF g) 0 3 := by
  unfold justF
  have e3 : (3 : Int32).toInt = 3 := rfl
  rcases minI_or 3 g with ⟨e, h2⟩ | ⟨e, h2⟩
  · rw [e]; exact ⟨by omega, by omega⟩
  · rw [e]; exact ⟨by omega, by omega⟩
theorem wantsF_rg {hour kind w g gave : Int32} (hg : 0 ≤ g.toInt) (hv : rg gave 0 3) : rg (wantsF hour kind w g gave) 0 3 := by
  have hj := justF_rg hg
  have hk := kindlyF_rg w
  unfold rg at hj hk hv ⊢
  by_cases h1 : kind = 1
  · rw [wF1 h1]; omega
  by_cases h2 : kind = 2
  · rw [wF2 h2]; omega
  by_cases h3 : kind = 3
  · rw [wF3 h3, div_I (by omega) (by decide)]
    have e2 : (2 : Int32).toInt = 2 := rfl
    rw [e2]
    omega
  by_cases h4 : kind = 4
  · have e1 : (1 : Int32).toInt = 1 := rfl
    rw [wF4 h4, add_I (by omega) (by omega)]; omega
  by_cases h5 : kind = 5
  · rw [wF5 h5]
    by_cases h : remI hour 2 = 1
    · rw [if_pos h]; exact hv
    · rw [if_neg h]; exact ⟨by decide, by decide⟩
  by_cases h6 : kind = 6
  · rw [wF6 h6]
    by_cases h : g < 2
    · rw [if_pos h]; exact ⟨by decide, by decide⟩
    · rw [if_neg h]; exact hj
  rw [wFd h1 h2 h3 h4 h5 h6]
  exact ⟨by decide, by decide⟩
/-- what the numbers of a room are, short: for the hours to go on -/
def HJ (h : Mem) (n : Nat) : Prop := ∀ i, i < n → rg (h 2 i) 0 300 ∧ rg (h 3 i) 0 999 ∧ rg (h 4 i) 1 20 ∧ rg (h 7 i) 0 3 ∧ rg (h 8 i) 0 24 ∧ rg (h 9 i) 0 3
theorem stokeH_rg {h : Mem} {n i : Nat} (H : HJ h n) (hi : i < n) : rg (stokeH h i) 0 3 ∧ (stokeH h i).toInt ≤ (h 3 i).toInt := by
  obtain ⟨-, h3, -, -, h8, h9⟩ := H i hi
  have hw : rg (wantsH h i) 0 3 := wantsF_rg h8.1 h9
  unfold rg at h3 hw ⊢
  unfold stokeH
  by_cases h6 : h 6 i = 1
  · rw [if_pos h6]
    have e0 : (0 : Int32).toInt = 0 := rfl
    rw [e0]
    omega
  · rw [if_neg h6]
    rcases minI_or (wantsH h i) (h 3 i) with ⟨e, h2⟩ | ⟨e, h2⟩
    · rw [e]; omega
    · rw [e]; omega
theorem sumN_rg {f : Nat → Int32} {m : Int} (n : Nat) (hn : n ≤ 8) (hm : 0 ≤ m) (hm2 : m ≤ 100000000) (h : ∀ i, i < n → rg (f i) 0 m) : rg (sumN f n) 0 (m * n) := by
  induction n with
  | zero => exact ⟨Int.le_refl _, by show (0 : Int) ≤ m * 0; omega⟩
  | succ n ih =>
    have h1 := ih (by omega) (fun i hi => h i (by omega))
    have h2 := h n (by omega)
    unfold rg at h1 h2 ⊢
    have h3 : m * (n : Int) ≤ m * 8 := Int.mul_le_mul_of_nonneg_left (by omega) hm
    have e : m * ((n + 1 : Nat) : Int) = m * n + m := by rw [Int.natCast_succ, Int.mul_add, Int.mul_one]
    show 0 ≤ (sumN f n + f n).toInt ∧ (sumN f n + f n).toInt ≤ _
    rw [e, add_I (by omega) (by omega)]
    omega
theorem give_rg {h : Mem} {n r : Nat} (H : HJ h n) (hr : r < n) (j : Nat) : rg (if h 5 r = nI j then maxI 0 (stokeH h r - h 7 r) else 0) 0 3 := by
  have h1 := (stokeH_rg H hr).1
  have h7 := (H r hr).2.2.2.1
  unfold rg at h1 h7
  by_cases h5 : h 5 r = nI j
  · rw [if_pos h5]
    have e0 : (0 : Int32).toInt = 0 := rfl
    have e := sub_I (a := stokeH h r) (b := h 7 r) (by omega) (by omega)
    unfold rg
    rcases maxI_or 0 (stokeH h r - h 7 r) with ⟨e1, h2⟩ | ⟨e1, h2⟩
    · rw [e1]; omega
    · rw [e1]; omega
  · rw [if_neg h5]; exact ⟨by decide, by decide⟩
theorem gotH_rg {h : Mem} {n : Nat} (H : HJ h n) (hn : n ≤ 8) (j : Nat) : rg (gotH h n j) 0 24 := by
  have := sumN_rg (m := 3) (f := fun r => if h 5 r = nI j then maxI 0 (stokeH h r - h 7 r) else 0) n hn (by omega) (by omega) (fun i hi => give_rg H hi j)
  unfold rg at this ⊢
  unfold gotH
  omega
theorem lossF_rg {out w wall : Int32} (ho : 0 ≤ out.toInt) (hw : 0 ≤ w.toInt) (h1 : 1 ≤ wall.toInt) : 0 ≤ (lossF out w wall).toInt ∧ (lossF out w wall).toInt ≤ w.toInt := by
  unfold lossF
  by_cases h : out < w
  · rw [if_pos h]
    rw [i32_lt] at h
    have hl := Int32.toInt_lt w
    have e := sub_I (a := w) (b := out) (by omega) (by omega)
    rw [div_I (by omega) (by omega), e]
    have h5 : (w.toInt - out.toInt) / wall.toInt ≤ w.toInt - out.toInt := Int.ediv_le_self _ (by omega)
    have h6 : 0 ≤ (w.toInt - out.toInt) / wall.toInt := Int.ediv_nonneg (by omega) (by omega)
    omega
  · rw [if_neg h]
    have e0 : (0 : Int32).toInt = 0 := rfl
    omega
theorem warmH_rg {h : Mem} {n i : Nat} (H : HJ h n) (hn : n ≤ 8) (ho : 0 ≤ (h 0 1).toInt) (hi : i < n) : rg (warmH h n i) 0 300 := by
  have hg := gotH_rg H hn i
  obtain ⟨h2, -, h4, -⟩ := H i hi
  unfold rg at hg h2 h4
  unfold warmH
  have e15 : (15 : Int32).toInt = 15 := rfl
  have e300 : (300 : Int32).toInt = 300 := rfl
  have em := mul_I (a := 15) (b := gotH h n i) (by rw [e15]; omega) (by rw [e15]; omega)
  rw [e15] at em
  have ea := add_I (a := h 2 i) (b := 15 * gotH h n i) (by omega) (by omega)
  have hw : 0 ≤ (minI 300 (h 2 i + 15 * gotH h n i)).toInt ∧ (minI 300 (h 2 i + 15 * gotH h n i)).toInt ≤ 300 := by
    rcases minI_or 300 (h 2 i + 15 * gotH h n i) with ⟨e, h2⟩ | ⟨e, h2⟩
    · rw [e]; omega
    · rw [e]; omega
  generalize minI 300 (h 2 i + 15 * gotH h n i) = w at hw ⊢
  have hl := lossF_rg (out := h 0 1) (w := w) (wall := h 4 i) ho hw.1 h4.1
  unfold rg
  rw [sub_I (by omega) (by omega)]
  omega
theorem HJ.hour {h : Mem} {n : Nat} (H : HJ h n) (hn : n ≤ 8) (ho : 0 ≤ (h 0 1).toInt) : HJ (hourH h n) n := by
  intro i hi
  have hs := stokeH_rg H hi
  obtain ⟨h2, h3, h4, h7, h8, h9⟩ := H i hi
  refine ⟨?_, ?_, h4, h7, ?_, ?_⟩
  · show rg (if i < n then warmH h n i else h 2 i) 0 300
    rw [if_pos hi]; exact warmH_rg H hn ho hi
  · show rg (if i < n then h 3 i - stokeH h i else h 3 i) 0 999
    rw [if_pos hi]
    unfold rg at hs h3 ⊢
    rw [sub_I (by omega) (by omega)]
    omega
  · show rg (if i < n then gotH h n i else h 8 i) 0 24
    rw [if_pos hi]; exact gotH_rg H hn i
  · show rg (if i < n then stokeH h i else h 9 i) 0 3
    rw [if_pos hi]; exact hs.1
theorem HJ.hours {h : Mem} {n : Nat} (H : HJ h n) (hn : n ≤ 8) (ho : 0 ≤ (h 0 1).toInt) (k : Nat) : HJ (hoursH n k h) n := by
  induction k with
  | zero => exact H
  | succ k ih => exact ih.hour hn (by rw [hoursH_out]; exact ho)
theorem HI.j {h : Mem} {n : Nat} (H : HI h n) : HJ h n := fun i hi => by
  obtain ⟨-, h2, h3, h4, -, -, h7, h8, h9⟩ := H.2.2.2.2 i hi
  exact ⟨h2, h3, h4, h7, h8, h9⟩
theorem HI.hour {h : Mem} {n : Nat} (H : HI h n) : HI (hourH h n) n := by
  have hj := H.j.hour H.2.1 H.2.2.1.1
  refine ⟨H.1, H.2.1, H.2.2.1, H.2.2.2.1, fun i hi => ?_⟩
  obtain ⟨h1, -, -, h4, h5, h6, h7, -, -⟩ := H.2.2.2.2 i hi
  obtain ⟨j2, j3, j4, j7, j8, j9⟩ := hj i hi
  exact ⟨h1, j2, j3, h4, h5, h6, h7, j8, j9⟩
theorem HI.hours {h : Mem} {n : Nat} (H : HI h n) (k : Nat) : HI (hoursH n k h) n := by
  induction k with
  | zero => exact H
  | succ k ih => exact ih.hour
/-! coal that is enough does as well as more -/
def sameBut (A B : Mem) (r : Nat) : Prop := (∀ c, c ≠ 3 → A c = B c) ∧ ∀ i, i ≠ r → A 3 i = B 3 i
theorem stoke_enough {A B : Mem} {n r i : Nat} (h : sameBut A B r) (HA : HJ A n) (HB : HJ B n) (hi : i < n) (ca : i = r → 3 ≤ (A 3 r).toInt) (cb : i = r → 3 ≤ (B 3 r).toInt) : stokeH A i = stokeH B i := by
  have hw : wantsH A i = wantsH B i := by
    unfold wantsH
    rw [h.1 0 (by omega), h.1 1 (by omega), h.1 2 (by omega), h.1 8 (by omega), h.1 9 (by omega)]
  unfold stokeH
  rw [h.1 6 (by omega), hw]
  by_cases h6 : B 6 i = 1
  · rw [if_pos h6, if_pos h6]
  · rw [if_neg h6, if_neg h6]
    by_cases hir : i = r
    · subst hir
      have ha := ca rfl
      have hb := cb rfl
      obtain ⟨-, -, -, -, h8, h9⟩ := HB i hi
      have hW : rg (wantsH B i) 0 3 := wantsF_rg h8.1 h9
      unfold rg at hW
      rcases minI_or (wantsH B i) (A 3 i) with ⟨e1, q1⟩ | ⟨e1, q1⟩ <;> rcases minI_or (wantsH B i) (B 3 i) with ⟨e2, q2⟩ | ⟨e2, q2⟩
      · rw [e1, e2]
      · omega
      · omega
      · omega
    · rw [h.2 i hir]
theorem hour_enough {A B : Mem} {n r : Nat} (h : sameBut A B r) (HA : HJ A n) (HB : HJ B n) (ca : 3 ≤ (A 3 r).toInt) (cb : 3 ≤ (B 3 r).toInt) : sameBut (hourH A n) (hourH B n) r := by
  have hs : ∀ i, i < n → stokeH A i = stokeH B i := fun i hi => stoke_enough h HA HB hi (fun _ => ca) (fun _ => cb)
  have hg : ∀ j, gotH A n j = gotH B n j := fun j => sumN_congr n (fun q hq => by
    show (if A 5 q = nI j then maxI 0 (stokeH A q - A 7 q) else 0) = (if B 5 q = nI j then maxI 0 (stokeH B q - B 7 q) else 0)
    rw [hs q hq, h.1 5 (by omega), h.1 7 (by omega)])
  refine ⟨fun c hc => ?_, fun i hir => ?_⟩
  · funext i
    unfold hourH
    by_cases h0 : c = 0
    · rw [if_pos h0, if_pos h0, h.1 0 (by omega)]
    rw [if_neg h0, if_neg h0]
    by_cases h2 : c = 2
    · rw [if_pos h2, if_pos h2]
      unfold warmH
      rw [hg, h.1 2 (by omega), h.1 0 (by omega), h.1 4 (by omega)]
    rw [if_neg h2, if_neg h2, if_neg hc, if_neg hc]
    by_cases h8 : c = 8
    · rw [if_pos h8, if_pos h8, hg, h.1 8 (by omega)]
    rw [if_neg h8, if_neg h8]
    by_cases h9 : c = 9
    · rw [if_pos h9, if_pos h9, h.1 9 (by omega)]
      by_cases hi : i < n
      · rw [if_pos hi, if_pos hi, hs i hi]
      · rw [if_neg hi, if_neg hi]
    rw [if_neg h9, if_neg h9, h.1 c hc]
  · show (if i < n then A 3 i - stokeH A i else A 3 i) = (if i < n then B 3 i - stokeH B i else B 3 i)
    rw [h.2 i hir]
    by_cases hi : i < n
    · rw [if_pos hi, if_pos hi, hs i hi]
    · rw [if_neg hi, if_neg hi]
theorem hours_enough {A B : Mem} {n r : Nat} (hn : n ≤ 8) (hr : r < n) (oA : 0 ≤ (A 0 1).toInt) (oB : 0 ≤ (B 0 1).toInt) : ∀ k : Nat, sameBut A B r → HJ A n → HJ B n → 3 * (k : Int) ≤ (A 3 r).toInt → 3 * (k : Int) ≤ (B 3 r).toInt → sameBut (hoursH n k A) (hoursH n k B) r := by
  have step : ∀ (C : Mem) (k j : Nat), HJ C n → 0 ≤ (C 0 1).toInt → 3 * (k : Int) ≤ (C 3 r).toInt → j ≤ k → 3 * ((k : Int) - j) ≤ (hoursH n j C 3 r).toInt := by
    intro C k j HC oC hc
    induction j with
    | zero => intro _; show 3 * ((k : Int) - (0 : Nat)) ≤ (C 3 r).toInt; omega
    | succ j ih =>
      intro hj
      have h1 := ih (by omega)
      have hJ := HC.hours hn oC j
      have hs := stokeH_rg hJ hr
      have h3 := (hJ r hr).2.1
      unfold rg at hs h3
      show _ ≤ (if r < n then hoursH n j C 3 r - stokeH (hoursH n j C) r else hoursH n j C 3 r).toInt
      rw [if_pos hr, sub_I (by omega) (by omega)]
      omega
  intro k hs HA HB ca cb
  have key : ∀ j : Nat, j ≤ k → sameBut (hoursH n j A) (hoursH n j B) r := by
    intro j
    induction j with
    | zero => intro _; exact hs
    | succ j ih =>
      intro hj
      have a1 := step A k j HA oA ca (by omega)
      have b1 := step B k j HB oB cb (by omega)
      exact hour_enough (ih (by omega)) (HA.hours hn oA j) (HB.hours hn oB j) (by omega) (by omega)
  exact key k (Nat.le_refl k)
