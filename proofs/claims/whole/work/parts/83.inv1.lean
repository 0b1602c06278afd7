/-! what holds at all times is kept by every call -/
theorem and_nat (x : Int32) {m : Nat} (hm : m < 2147483648) : ∃ k, k ≤ m ∧ x &&& nI m = nI k := by
  refine ⟨x.toBitVec.toNat &&& m, Nat.and_le_right, Int32.toBitVec_inj.mp (BitVec.eq_of_toNat_eq ?_)⟩
  have h1 : (x.toBitVec.toNat &&& m) ≤ m := Nat.and_le_right
  rw [Int32.toBitVec_and, BitVec.toNat_and]
  show x.toBitVec.toNat &&& (BitVec.ofNat 32 m).toNat = (BitVec.ofNat 32 (x.toBitVec.toNat &&& m)).toNat
  rw [BitVec.toNat_ofNat, BitVec.toNat_ofNat, Nat.mod_eq_of_lt (by omega), Nat.mod_eq_of_lt (by omega)]
theorem hi_eq {h τ : Mem} {n : Nat} (he : ∀ c, c < 11 → τ c = h c) (H : HI h n) : HI τ n := by
  obtain ⟨h1, h2, h3, h4, h5⟩ := H
  refine ⟨by rw [he 0 (by omega)]; exact h1, h2, by rw [he 0 (by omega)]; exact h3, fun k hk => by rw [he 10 (by omega)]; exact h4 k hk, fun i hi => ?_⟩
  rw [he 1 (by omega), he 2 (by omega), he 3 (by omega), he 4 (by omega), he 5 (by omega), he 6 (by omega), he 7 (by omega), he 8 (by omega), he 9 (by omega)]
  exact h5 i hi
theorem nOf_eq {h τ : Mem} (he : τ 0 = h 0) : nOf τ = nOf h := by unfold nOf; rw [he]
/-- the house has changed, nothing else -/
theorem inv_house {σ τ : Mem} {n : Nat} (hI : Inv σ) (H : HI τ n) (hh : rg (τ 0 2) 0 9999) (he : ∀ c, 11 ≤ c → τ c = σ c) : Inv τ := by
  obtain ⟨-, -, i3, i4, i5, i6, i7, i8⟩ := hI
  have ek : keptH τ = keptH σ := funext fun c => he _ (by omega)
  refine ⟨by rw [H.nn]; exact H, hh, by rw [ek]; exact i3, by rw [he 20 (by omega)]; exact i4, by rw [he 40 (by omega)]; exact i5, by rw [he 43 (by omega)]; exact i6, fun i hi => by rw [he 42 (by omega)]; exact i7 i hi, fun s hs => ?_⟩
  rw [he 44 (by omega), he 45 (by omega)]
  exact i8 s hs
/-- neither house has changed -/
theorem inv_oth {σ τ : Mem} (hI : Inv σ) (he : ∀ c, c < 31 → τ c = σ c) (h40 : rg (τ 40 0) 0 1) (h43 : rg (τ 43 0) 0 120) (h42 : ∀ i, i < 120 → rg (τ 42 i) 0 255)
    (hS : ∀ s, s < 4 → (τ 44 s = 0 ∨ τ 44 s = 8 ∨ τ 44 s = 16 ∨ τ 44 s = 32) ∧ rg (τ 45 s) 0 40 ∧ (τ 44 s = 0 → τ 45 s = 0)) : Inv τ := by
  obtain ⟨i1, i2, i3, i4, -⟩ := hI
  have e1 : nOf τ = nOf σ := nOf_eq (he 0 (by omega))
  have e2 : nOf (keptH τ) = nOf (keptH σ) := nOf_eq (he 20 (by omega))
  refine ⟨by rw [e1]; exact hi_eq (fun c hc => he c (by omega)) i1, by rw [he 0 (by omega)]; exact i2, by rw [e2]; exact hi_eq (fun c hc => he (20 + c) (by omega)) i3, by rw [he 20 (by omega)]; exact i4, h40, h43, h42, hS⟩
theorem inv_far {σ τ : Mem} (hI : Inv σ) (he : ∀ c, c ≤ 45 → c ≠ 41 → τ c = σ c) : Inv τ := by
  obtain ⟨-, -, -, -, i5, i6, i7, i8⟩ := id hI
  refine inv_oth hI (fun c hc => he c (by omega) (by omega)) (by rw [he 40 (by omega) (by omega)]; exact i5) (by rw [he 43 (by omega) (by omega)]; exact i6) (fun i hi => by rw [he 42 (by omega) (by omega)]; exact i7 i hi) (fun s hs => ?_)
  rw [he 44 (by omega) (by omega), he 45 (by omega) (by omega)]
  exact i8 s hs
theorem inv_tl {σ : Mem} (hI : Inv σ) (k : Nat) : Inv (tl σ k).2 := inv_far hI (fun c _ h => ups_cell h)
theorem inv_tlI {σ : Mem} (hI : Inv σ) (f : Int32) : Inv (tlI σ f).2 := inv_tl hI _
theorem inv_orN {σ : Mem} (hI : Inv σ) (o : Option Nat) (g : Nat → Int32) : Inv (orNone σ o g).2 := by
  cases o with
  | none => exact inv_tl hI 3
  | some k => exact hI
theorem inv_if {P : Prop} [Decidable P] {a b : Int32 × Mem} (ha : P → Inv a.2) (hb : ¬ P → Inv b.2) : Inv (if P then a else b).2 := by
  by_cases h : P
  · rw [if_pos h]; exact ha h
  · rw [if_neg h]; exact hb h
theorem rg_of {x : Int32} {a b : Int32} {lo hi : Int} (ea : a.toInt = lo) (eb : b.toInt = hi) (h1 : ¬ x < a) (h2 : ¬ b < x) : rg x lo hi := by
  rw [i32_lt] at h1 h2
  unfold rg
  omega
theorem kind_of {x : Int32} (h1 : ¬ x < 0) (h2 : ¬ 6 < x) : ∃ k, k < 7 ∧ x = nI k := by
  have h := rg_of (lo := 0) (hi := 6) rfl rfl h1 h2
  unfold rg at h
  refine ⟨x.toInt.toNat, by omega, i32_ext ?_⟩
  rw [nI_toI (by omega)]
  omega
theorem inv_room {σ : Mem} {kind : Int32} (hI : Inv σ) : Inv (opRoom σ kind).2 := by
  refine inv_if (fun _ => inv_tl hI 0) (fun h1 => inv_if (fun _ => inv_tl hI 0) (fun h2 => inv_if (fun _ => inv_tl hI 1) (fun h3 => ?_)))
  obtain ⟨k, hk, rfl⟩ := kind_of h1 h2
  have h8 := hI.n8
  refine inv_house (n := nOf σ + 1) hI (hI.1.add (by omega) hk) hI.2.1 (fun c hc => ?_)
  funext i
  show (if c = 0 then _ else if c ≤ 9 ∧ i = nOf σ then _ else σ c i) = σ c i
  rw [if_neg (by omega), if_neg (by omega)]
theorem inv_of {σ : Mem} {r w : Int32} (hI : Inv σ) : Inv (opOf σ r w).2 := inv_if (fun _ => inv_if (fun _ => hI) (fun _ => inv_if (fun _ => hI) (fun _ => inv_tl hI 0))) (fun _ => inv_tl hI 0)
theorem fit_two {n : Nat} {r w v : Int32} (hn : n ≤ 8) (h : fitB n r w v = true) : ∃ q p, q < n ∧ p < 9 ∧ r = nI q ∧ w = nI p := by
  unfold fitB at h
  have h1 := Bool.and_eq_true_iff.mp h
  obtain ⟨q, hq, e⟩ := roomB_t (by omega) h1.1
  obtain ⟨p, hp, e2⟩ := roomB_t (by omega) (Bool.and_eq_true_iff.mp h1.2).1
  exact ⟨q, p, hq, hp, e, e2⟩
theorem inv_change {σ : Mem} {r w v : Int32} (hI : Inv σ) : Inv (opChange σ r w v).2 := by
  refine inv_if (fun h => ?_) (fun _ => inv_tl hI 0)
  have h8 := hI.n8
  obtain ⟨q, p, hq, hp, rfl, rfl⟩ := fit_two h8 h
  show Inv (ups σ (1 + cut (nI p)) (cut (nI q)) v)
  rw [cut_nI (by omega), cut_nI (by omega)]
  exact inv_house (n := nOf σ) hI (hI.1.set hp hq h) (by rw [ups_cell (by omega)]; exact hI.2.1) (fun c hc => ups_cell (by omega))
theorem inv_out {σ : Mem} {v : Int32} (hI : Inv σ) : Inv (opOut σ v).2 := by
  refine inv_if (fun _ => inv_tl hI 0) (fun h1 => inv_if (fun _ => inv_tl hI 0) (fun h2 => ?_))
  exact inv_house (n := nOf σ) hI (hI.1.out (rg_of rfl rfl h1 h2)) (by show rg (ups σ 0 1 v 0 2) 0 9999; rw [ups_ne (by omega)]; exact hI.2.1) (fun c hc => ups_cell (by omega))
theorem inv_heaters {σ : Mem} {r : Int32} (hI : Inv σ) : Inv (opHeaters σ r).2 := inv_if (fun _ => hI) (fun _ => inv_tl hI 0)
theorem inv_reach {σ : Mem} {r : Int32} (hI : Inv σ) : Inv (opReach σ r).2 := inv_if (fun _ => hI) (fun _ => inv_tl hI 0)
theorem swM_at (M : Mem) {b i j n : Nat} (hi : i < n) (hj : j < n) (c q : Nat) (hq : q < n) : ∃ q2, q2 < n ∧ swM M b i j c q = M c q2 := by
  unfold swM
  by_cases h1 : c = b ∧ q = j
  · rw [h1.1, h1.2, ups_same]; exact ⟨i, hi, rfl⟩
  · rw [ups_ne h1]
    by_cases h2 : c = b ∧ q = i
    · rw [h2.1, h2.2, ups_same]; exact ⟨j, hj, rfl⟩
    · rw [ups_ne h2]; exact ⟨q, hq, rfl⟩
theorem chgH_at (M : Mem) {i j n : Nat} (hi : i < n) (hj : j < n) (c q : Nat) (hq : q < n) : ∃ q2, q2 < n ∧ chgH M i j c q = M c q2 := by
  unfold chgH
  obtain ⟨a, ha, ea⟩ := swM_at (swM (swM M 1 i j) 6 i j) (b := 9) hi hj c q hq
  obtain ⟨b, hb, eb⟩ := swM_at (swM M 1 i j) (b := 6) hi hj c a ha
  obtain ⟨d, hd, ed⟩ := swM_at M (b := 1) hi hj c b hb
  exact ⟨d, hd, by rw [ea, eb, ed]⟩
theorem hi_chg {h : Mem} {n i j : Nat} (H : HI h n) (hi : i < n) (hj : j < n) : HI (chgH h i j) n := by
  obtain ⟨h1, h2, h3, h4, h5⟩ := H
  have e0 : chgH h i j 0 = h 0 := chgH_cell (by omega) (by omega) (by omega)
  have e10 : chgH h i j 10 = h 10 := chgH_cell (by omega) (by omega) (by omega)
  have key : ∀ c lo hi2, (∀ q, q < n → rg (h c q) lo hi2) → ∀ q, q < n → rg (chgH h i j c q) lo hi2 := fun c lo hi2 g q hq => by
    obtain ⟨q2, hq2, e⟩ := chgH_at h hi hj c q hq
    rw [e]
    exact g q2 hq2
  refine ⟨by rw [e0]; exact h1, h2, by rw [e0]; exact h3, fun k hk => by rw [e10]; exact h4 k hk, fun q hq => ⟨key 1 0 6 (fun q hq => (h5 q hq).1) q hq, key 2 0 300 (fun q hq => (h5 q hq).2.1) q hq, key 3 0 999 (fun q hq => (h5 q hq).2.2.1) q hq, key 4 1 20 (fun q hq => (h5 q hq).2.2.2.1) q hq, key 5 0 7 (fun q hq => (h5 q hq).2.2.2.2.1) q hq, key 6 0 1 (fun q hq => (h5 q hq).2.2.2.2.2.1) q hq, key 7 0 3 (fun q hq => (h5 q hq).2.2.2.2.2.2.1) q hq, key 8 0 24 (fun q hq => (h5 q hq).2.2.2.2.2.2.2.1) q hq, key 9 0 3 (fun q hq => (h5 q hq).2.2.2.2.2.2.2.2) q hq⟩⟩
theorem inv_move {σ : Mem} {a b : Int32} (hI : Inv σ) : Inv (opMove σ a b).2 := by
  refine inv_if (fun h1 => inv_if (fun h2 => ?_) (fun _ => inv_tl hI 0)) (fun _ => inv_tl hI 0)
  have h8 := hI.n8
  obtain ⟨i, hi, rfl⟩ := roomB_t (by omega) h1
  obtain ⟨j, hj, rfl⟩ := roomB_t (by omega) h2
  show Inv (chgH σ (cut (nI i)) (cut (nI j)))
  rw [cut_nI (by omega), cut_nI (by omega)]
  exact inv_house (n := nOf σ) hI (hi_chg hI.1 hi hj) (by rw [chgH_cell (by omega) (by omega) (by omega)]; exact hI.2.1) (fun c hc => chgH_cell (by omega) (by omega) (by omega))
theorem hourH_far {h : Mem} {n c : Nat} (hc : 11 ≤ c) : hourH h n c = h c := by
  funext i
  show (if c = 0 then _ else if c = 2 then _ else if c = 3 then _ else if c = 8 then _ else if c = 9 then _ else h c i) = h c i
  rw [if_neg (by omega), if_neg (by omega), if_neg (by omega), if_neg (by omega), if_neg (by omega)]
theorem hoursH_far {h : Mem} {n c : Nat} (hc : 11 ≤ c) : ∀ k, hoursH n k h c = h c
  | 0 => rfl
  | k + 1 => (hourH_far hc).trans (hoursH_far hc k)
theorem inv_hours {σ : Mem} {a : Int32} (hI : Inv σ) : Inv (opHours σ a).2 := by
  refine inv_if (fun h => ?_) (fun _ => inv_tlI hI _)
  obtain ⟨k, k1, k2, rfl⟩ := refH_nat h
  obtain ⟨-, g2, g3⟩ := refH_0 h
  show Inv (hoursH (nOf σ) (cut (nI k)) σ)
  rw [cut_nI k2]
  have hh := hI.2.1
  unfold rg at hh
  rw [i32_lt, nI_toI k2] at g2
  have g2' : ¬ (100 : Int) < k := g2
  have e : (σ 0 2 + nI k).toInt = (σ 0 2).toInt + k := by
    rw [add_I (by rw [nI_toI k2]; omega) (by rw [nI_toI k2]; omega), nI_toI k2]
  rw [i32_lt, e] at g3
  have g3' : ¬ (9999 : Int) < (σ 0 2).toInt + k := g3
  refine inv_house (n := nOf σ) hI (hI.1.hours k) ?_ (fun c hc => hoursH_far hc k)
  rw [hoursH_hour]
  unfold rg
  rw [e]
  omega
