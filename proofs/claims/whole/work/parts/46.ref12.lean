theorem HJ.up {h : Mem} {n c r : Nat} {x : Int32} (H : HJ h n) (b2 : c = 2 → rg x 0 300) (b3 : c = 3 → rg x 0 999) (b4 : c = 4 → rg x 1 20) (b7 : c = 7 → rg x 0 3) (b8 : c = 8 → rg x 0 24) (b9 : c = 9 → rg x 0 3) : HJ (ups h c r x) n := fun i hi => by
  obtain ⟨a2, a3, a4, a7, a8, a9⟩ := H i hi
  have key : ∀ (q : Nat) (lo m : Int), (c = q → rg x lo m) → rg (h q i) lo m → rg (ups h c r x q i) lo m := fun q lo m hb ha => by
    by_cases hq : q = c ∧ i = r
    · obtain ⟨h1, h2⟩ := hq
      rw [h1, h2, ups_same]
      exact hb h1.symm
    · rw [ups_ne hq]; exact ha
  exact ⟨key 2 _ _ b2 a2, key 3 _ _ b3 a3, key 4 _ _ b4 a4, key 7 _ _ b7 a7, key 8 _ _ b8 a8, key 9 _ _ b9 a9⟩
theorem refH_24 {σ : Mem} {k : Nat} (hk : k < 2147483648) (h : refH σ (nI k) 24 = 0) : k ≤ 24 := by
  have h2 : ¬ nI 24 < nI k := (refH_0 h).2.1
  rw [lt_nn (by omega) hk] at h2
  omega
