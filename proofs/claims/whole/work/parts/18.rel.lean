/-! the state that both sides picture: cells 0 to 10 the house, 20 to 30 the one that is kept, 40 whether, 41 what was told, 42 the tape, 43 its length, 44 the sheets' bits, 45 their lengths, 46 to 49 their numbers -/
def nOf (σ : Mem) : Nat := (σ 0 0).toNatClampNeg
def rg (x : Int32) (lo hi : Int) : Prop := lo ≤ x.toInt ∧ x.toInt ≤ hi
/-- what holds in a house at all times -/
def HI (h : Mem) (n : Nat) : Prop := h 0 0 = nI n ∧ n ≤ 8 ∧ rg (h 0 1) 0 100 ∧ (∀ k, k < 10 → rg (h 10 k) (-1) ((n : Int) - 1)) ∧
  ∀ i, i < n → rg (h 1 i) 0 6 ∧ rg (h 2 i) 0 300 ∧ rg (h 3 i) 0 999 ∧ rg (h 4 i) 1 20 ∧ rg (h 5 i) 0 7 ∧ rg (h 6 i) 0 1 ∧ rg (h 7 i) 0 3 ∧ rg (h 8 i) 0 24 ∧ rg (h 9 i) 0 3
def keptH (σ : Mem) : Mem := fun c => σ (20 + c)
def Inv (σ : Mem) : Prop := HI σ (nOf σ) ∧ rg (σ 0 2) 0 9999 ∧ HI (keptH σ) (nOf (keptH σ)) ∧ rg (σ 20 2) 0 9999 ∧ rg (σ 40 0) 0 1 ∧ rg (σ 43 0) 0 120 ∧ (∀ i, i < 120 → rg (σ 42 i) 0 255) ∧
  ∀ s, s < 4 → (σ 44 s = 0 ∨ σ 44 s = 8 ∨ σ 44 s = 16 ∨ σ 44 s = 32) ∧ rg (σ 45 s) 0 40 ∧ (σ 44 s = 0 → σ 45 s = 0)
/-- the class's memory is as the state -/
def RC (M σ : Mem) : Prop := HR (hof M 1) σ (nOf σ) ∧ HR (hof M 34) (keptH σ) (nOf (keptH σ)) ∧ M 0 4 = σ 40 0 ∧ (∀ i, i < 7 → M 60 i = σ 41 i) ∧ (∀ i, i < 120 → M 47 i = σ 42 i) ∧ M 46 1 = σ 43 0 ∧
  ∀ s, s < 4 → M (61 + 2 * s) 0 = σ 44 s ∧ M (61 + 2 * s) 1 = σ 45 s ∧ ∀ i, i < 40 → M (62 + 2 * s) i = σ (46 + s) i
def PostC (r : Int32 × Mem) : Option Value → Mem → Prop := fun v M' => v = some (.int r.1) ∧ RC M' r.2
theorem HI.n8 {h : Mem} {n : Nat} (H : HI h n) : n ≤ 8 := H.2.1
theorem HI.nn {h : Mem} {n : Nat} (H : HI h n) : nOf h = n := by
  unfold nOf
  rw [H.1, nI_clamp (by have := H.2.1; omega)]
theorem HI.wall {h : Mem} {n : Nat} (H : HI h n) {i : Nat} (hi : i < n) : 0 < h 4 i := by
  have := (H.2.2.2.2 i hi).2.2.2.1
  rw [i32_lt]
  show (0 : Int) < _
  exact Int.lt_of_lt_of_le (by decide) this.1
theorem RC.n {M σ : Mem} (hR : RC M σ) : M 1 0 = σ 0 0 := hR.1.1 0 (by omega)
theorem RC.out {M σ : Mem} (hR : RC M σ) : M 1 1 = σ 0 1 := hR.1.1 1 (by omega)
theorem RC.hour {M σ : Mem} (hR : RC M σ) : M 1 2 = σ 0 2 := hR.1.1 2 (by omega)
theorem RC.z {M σ : Mem} (hR : RC M σ) : M 1 3 = σ 0 3 := hR.1.1 3 (by omega)
/-- scratch: trial, asItGoes, draft -/
theorem RC.scr {M σ h : Mem} {b : Nat} (hR : RC M σ) (hb : b = 12 ∨ b = 23 ∨ b = 48) : RC (hput M b h) σ := by
  have e : ∀ c, (c < b ∨ b + 11 ≤ c) → hput M b h c = M c := fun c hc => hput_out hc
  obtain ⟨r1, r2, r3, r4, r5, r6, r7⟩ := hR
  have e1 : ∀ j, j < 11 → hof (hput M b h) 1 j = hof M 1 j := fun j hj => e (1 + j) (by omega)
  have e2 : ∀ j, j < 11 → hof (hput M b h) 34 j = hof M 34 j := fun j hj => e (34 + j) (by omega)
  have tr : ∀ {x y z : Mem} {n : Nat}, (∀ j, j < 11 → x j = y j) → HR y z n → HR x z n := fun hxy H =>
    ⟨fun i hi => by rw [hxy 0 (by omega)]; exact H.1 i hi, fun k hk => by rw [hxy 10 (by omega)]; exact H.2.1 k hk, fun c h1 h2 i hi => by rw [hxy c (by omega)]; exact H.2.2 c h1 h2 i hi⟩
  refine ⟨tr e1 r1, tr e2 r2, by rw [e 0 (by omega)]; exact r3, fun i hi => by rw [e 60 (by omega)]; exact r4 i hi, fun i hi => by rw [e 47 (by omega)]; exact r5 i hi, by rw [e 46 (by omega)]; exact r6, fun s hs => ?_⟩
  rw [e (61 + 2 * s) (by omega), e (62 + 2 * s) (by omega)]
  exact r7 s hs
theorem HR.ofEq {x y z : Mem} {n : Nat} (hxy : ∀ j, j < 11 → x j = y j) (H : HR y z n) : HR x z n :=
  ⟨fun i hi => by rw [hxy 0 (by omega)]; exact H.1 i hi, fun k hk => by rw [hxy 10 (by omega)]; exact H.2.1 k hk, fun c h1 h2 i hi => by rw [hxy c (by omega)]; exact H.2.2 c h1 h2 i hi⟩
theorem hof_hput (M h : Mem) (b : Nat) : ∀ j, j < 11 → hof (hput M b h) b j = h j := fun j hj => hput_in hj
theorem hof_hput_ne {M h : Mem} {b c : Nat} (hbc : apart b c) : ∀ j, j < 11 → hof (hput M b h) c j = hof M c j := fun j hj => hput_out (by unfold apart at hbc; omega)
/-- the house itself -/
theorem RC.house {M σ σ' h : Mem} (hR : RC M σ) (he : ∀ c, 11 ≤ c → σ' c = σ c) (H : HR h σ' (nOf σ')) : RC (hput M 1 h) σ' := by
  have e : ∀ c, (c < 1 ∨ 12 ≤ c) → hput M 1 h c = M c := fun c hc => hput_out hc
  obtain ⟨r1, r2, r3, r4, r5, r6, r7⟩ := hR
  have ek : keptH σ' = keptH σ := funext fun c => he _ (by omega)
  refine ⟨HR.ofEq (hof_hput M h 1) H, ?_, by rw [e 0 (by omega), he 40 (by omega)]; exact r3, fun i hi => by rw [e 60 (by omega), he 41 (by omega)]; exact r4 i hi, fun i hi => by rw [e 47 (by omega), he 42 (by omega)]; exact r5 i hi, by rw [e 46 (by omega), he 43 (by omega)]; exact r6, fun s hs => ?_⟩
  · rw [ek]
    exact HR.ofEq (hof_hput_ne (by unfold apart; omega)) r2
  · rw [e (61 + 2 * s) (by omega), e (62 + 2 * s) (by omega), he 44 (by omega), he 45 (by omega), he (46 + s) (by omega)]
    exact r7 s hs
/-! the findings -/
def finI (k : Nat) : Int32 := -1000001 - nI k
def tl (σ : Mem) (k : Nat) : Int32 × Mem := (finI k, ups σ 41 k (σ 41 k + 1))
theorem nOf_ups {σ : Mem} {c i : Nat} {x : Int32} (hc : c ≠ 0) : nOf (ups σ c i x) = nOf σ := by
  unfold nOf
  rw [ups_cell (Ne.symm hc)]
theorem RC.tell {M σ : Mem} (hR : RC M σ) {k : Nat} (hk : k < 7) : RC (ups M 60 k (M 60 k + 1)) (ups σ 41 k (σ 41 k + 1)) := by
  obtain ⟨r1, r2, r3, r4, r5, r6, r7⟩ := hR
  have em : ∀ c, c ≠ 60 → ups M 60 k (M 60 k + 1) c = M c := fun c hc => ups_cell hc
  have es : ∀ c, c ≠ 41 → ups σ 41 k (σ 41 k + 1) c = σ c := fun c hc => ups_cell hc
  have hn : nOf (ups σ 41 k (σ 41 k + 1)) = nOf σ := nOf_ups (by decide)
  have hk2 : ∀ j, j < 11 → keptH (ups σ 41 k (σ 41 k + 1)) j = keptH σ j := fun j hj => es (20 + j) (by omega)
  have hn2 : nOf (keptH (ups σ 41 k (σ 41 k + 1))) = nOf (keptH σ) := by unfold nOf; rw [hk2 0 (by omega)]
  refine ⟨?_, ?_, by rw [em 0 (by omega), es 40 (by omega)]; exact r3, fun i hi => ?_, fun i hi => by rw [em 47 (by omega), es 42 (by omega)]; exact r5 i hi, by rw [em 46 (by omega), es 43 (by omega)]; exact r6, fun s hs => ?_⟩
  · rw [hn]
    exact (HR.ofEq (fun j hj => em (1 + j) (by omega)) r1).tr (HR.ofEq (fun j hj => (es j (by omega)).symm) (HR.rf _ _))
  · rw [hn2]
    exact (HR.ofEq (fun j hj => em (34 + j) (by omega)) r2).tr (HR.ofEq (fun j hj => (hk2 j hj).symm) (HR.rf _ _))
  · by_cases h : i = k
    · subst h; rw [ups_same, ups_same, r4 i hi]
    · rw [ups_ne (fun z => h z.2), ups_ne (fun z => h z.2)]; exact r4 i hi
  · rw [em (61 + 2 * s) (by omega), em (62 + 2 * s) (by omega), es 44 (by omega), es 45 (by omega), es (46 + s) (by omega)]
    exact r7 s hs
theorem finI_sub {k : Nat} : (-1000001 : Int32) - finI k = nI k := by
  unfold finI
  grind
def roomB (n : Nat) (r : Int32) : Bool := decide (0 ≤ r.toInt ∧ r.toInt < (n : Int))
theorem roomB_t {n : Nat} {r : Int32} (hn : n < 2147483648) (h : roomB n r = true) : ∃ k, k < n ∧ r = nI k := by
  obtain ⟨h0, h1⟩ := of_decide_eq_true h
  refine ⟨r.toInt.toNat, by omega, i32_ext ?_⟩
  rw [nI_toI (by omega)]
  omega
theorem roomB_nI {n k : Nat} (hn : n < 2147483648) (hk : k < n) : roomB n (nI k) = true := by
  refine decide_eq_true ?_
  rw [nI_toI (by omega)]
  omega
theorem hasI_B {M : Mem} {n : Nat} {r : Int32} (hn : M 0 0 = nI n) (hn8 : n ≤ 8) : hasI M r = bI (roomB n r) := by
  unfold hasI bI roomB
  rw [hn]
  by_cases h1 : r < 0
  · have h1' : r.toInt < 0 := i32_lt.mp h1
    rw [if_pos h1, if_neg (by rw [decide_eq_true_iff]; omega)]
  · have h1' : ¬ r.toInt < 0 := fun z => h1 (i32_lt.mpr z)
    rw [if_neg h1]
    by_cases h2 : nI n ≤ r
    · rw [if_pos h2]
      rw [i32_le, nI_toI (by omega)] at h2
      rw [if_neg (by rw [decide_eq_true_iff]; omega)]
    · rw [if_neg h2]
      rw [i32_le, nI_toI (by omega)] at h2
      rw [if_pos (by rw [decide_eq_true_iff]; omega)]
/-- hours ahead: why not, or 0 -/
def refH (σ : Mem) (a most : Int32) : Int32 := if a < 1 then finI 0 else if most < a then finI 0 else if 9999 < σ 0 2 + a then finI 4 else 0
def tlI (σ : Mem) (f : Int32) : Int32 × Mem := tl σ ((-1000001 : Int32) - f).toNatClampNeg
theorem tlI_fin {σ : Mem} {k : Nat} (hk : k < 7) : tlI σ (finI k) = tl σ k := by
  unfold tlI
  rw [finI_sub, nI_clamp (by omega)]
def isFin (f : Int32) : Prop := ∃ k, k < 7 ∧ f = finI k
theorem refH_fin {σ : Mem} {a most : Int32} (h : ¬ refH σ a most = 0) : isFin (refH σ a most) := by
  unfold refH at h ⊢
  by_cases h1 : a < 1
  · rw [if_pos h1]; exact ⟨0, by omega, rfl⟩
  · rw [if_neg h1] at h ⊢
    by_cases h2 : most < a
    · rw [if_pos h2]; exact ⟨0, by omega, rfl⟩
    · rw [if_neg h2] at h ⊢
      by_cases h3 : 9999 < σ 0 2 + a
      · rw [if_pos h3]; exact ⟨4, by omega, rfl⟩
      · rw [if_neg h3] at h; exact absurd rfl h
theorem refH_0 {σ : Mem} {a most : Int32} (h : refH σ a most = 0) : ¬ a < 1 ∧ ¬ most < a ∧ ¬ 9999 < σ 0 2 + a := by
  unfold refH at h
  by_cases h1 : a < 1
  · rw [if_pos h1] at h; exact absurd h (by decide)
  · rw [if_neg h1] at h
    by_cases h2 : most < a
    · rw [if_pos h2] at h; exact absurd h (by decide)
    · rw [if_neg h2] at h
      by_cases h3 : 9999 < σ 0 2 + a
      · rw [if_pos h3] at h; exact absurd h (by decide)
      · exact ⟨h1, h2, h3⟩
/-- the hours asked, as a number -/
theorem refH_nat {σ : Mem} {a most : Int32} (h : refH σ a most = 0) : ∃ k, 1 ≤ k ∧ k < 2147483648 ∧ a = nI k := by
  obtain ⟨h1, -, -⟩ := refH_0 h
  rw [i32_lt] at h1
  have h1' : ¬ a.toInt < 1 := h1
  refine ⟨a.toInt.toNat, by omega, ?_, i32_ext ?_⟩
  · have := Int32.toInt_lt a; omega
  · rw [nI_toI (by have := Int32.toInt_lt a; omega)]; omega
def late (σ : Mem) : Bool := decide (9999 < σ 0 2 + 100)
def refR (σ : Mem) (r a : Int32) : Int32 := if roomB (nOf σ) r = true then refH σ a 60 else finI 0
def refP (σ : Mem) (a : Int32) : Int32 := if refH σ a 24 = 0 then (if σ 0 0 = 0 then finI 4 else 0) else refH σ a 24
