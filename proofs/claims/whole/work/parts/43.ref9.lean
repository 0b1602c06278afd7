theorem mnT_spec {w : Nat → Int32} : ∀ n : Nat, (mnT w n).toInt ≤ 300 ∧ (∀ i, i < n → (mnT w n).toInt ≤ (w i).toInt) ∧ (mnT w n = 300 ∨ ∃ i, i < n ∧ mnT w n = w i)
  | 0 => ⟨show (300 : Int32).toInt ≤ 300 by decide, fun i hi => absurd hi (by omega), Or.inl rfl⟩
  | n + 1 => by
    obtain ⟨h1, h2, h3⟩ := mnT_spec (w := w) n
    have e : mnT w (n + 1) = if w n < mnT w n then w n else mnT w n := rfl
    by_cases c : w n < mnT w n
    · rw [if_pos c] at e
      rw [i32_lt] at c
      rw [e]
      refine ⟨by omega, fun i hi => ?_, Or.inr ⟨n, by omega, rfl⟩⟩
      by_cases hin : i = n
      · rw [hin]; exact Int.le_refl _
      · have := h2 i (by omega); omega
    · rw [if_neg c] at e
      rw [i32_lt] at c
      rw [e]
      refine ⟨h1, fun i hi => ?_, h3.elim Or.inl (fun ⟨i, hi, ei⟩ => Or.inr ⟨i, by omega, ei⟩)⟩
      by_cases hin : i = n
      · rw [hin]; omega
      · exact h2 i (by omega)
theorem mnT_least {w : Nat → Int32} {n : Nat} (hw : ∀ i, i < n → rg (w i) 0 300) (hn : n ≤ 8) : mnT w n = leastN w n := by
  rcases Nat.eq_zero_or_pos n with h0 | h0
  · subst h0; rfl
  obtain ⟨j, ej, hj⟩ := coldN_fm w n (by omega) h0
  obtain ⟨s1, s2, s3⟩ := mnT_spec (w := w) n
  have hjn : j < n := hj.2.1
  have hneg : ¬ nI j < 0 := nI_pos (by omega)
  have e : leastN w n = w j := by
    unfold leastN
    rw [ej, if_neg hneg, nI_clamp (by omega)]
  rw [e]
  have hle : ∀ i, i < n → (w j).toInt ≤ (w i).toInt := fun i hi => hj.2.2.1 i (by omega) hi
  apply Int32.toInt_inj.mp
  have a1 := s2 j hjn
  have a2 : (w j).toInt ≤ (mnT w n).toInt := by
    rcases s3 with h | ⟨i, hi, h⟩
    · rw [h]; exact (hw j hjn).2
    · rw [h]; exact hle i hi
  omega
