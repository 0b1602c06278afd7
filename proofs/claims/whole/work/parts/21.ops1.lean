/-! what each call answers, and the state behind it -/
def cut (a : Int32) : Nat := a.toNatClampNeg
theorem cut_nI {k : Nat} (h : k < 2147483648) : cut (nI k) = k := nI_clamp h
def opRoom (σ : Mem) (kind : Int32) : Int32 × Mem := if kind < 0 then tl σ 0 else if 6 < kind then tl σ 0 else if nOf σ = 8 then tl σ 1 else (nI (nOf σ), addH σ kind (nOf σ))
def opOf (σ : Mem) (r w : Int32) : Int32 × Mem := if roomB (nOf σ) r = true then (if w = 9 then (wantsH σ (cut r), σ) else if roomB 9 w = true then (σ (1 + cut w) (cut r), σ) else tl σ 0) else tl σ 0
def fitB (n : Nat) (r w v : Int32) : Bool := roomB n r && (roomB 9 w && (decide (tLeast.getD (cut w) 0 ≤ v ∧ v ≤ tMost.getD (cut w) 0) && !decide (w = 4 ∧ v = r)))
def opChange (σ : Mem) (r w v : Int32) : Int32 × Mem := if fitB (nOf σ) r w v = true then (σ (1 + cut w) (cut r), ups σ (1 + cut w) (cut r) v) else tl σ 0
def opOut (σ : Mem) (v : Int32) : Int32 × Mem := if v < 0 then tl σ 0 else if 100 < v then tl σ 0 else (σ 0 1, ups σ 0 1 v)
def opHeaters (σ : Mem) (r : Int32) : Int32 × Mem := if roomB (nOf σ) r = true then (bits (fun i => decide (σ 5 i = r)) (nOf σ), σ) else tl σ 0
def opReach (σ : Mem) (r : Int32) : Int32 × Mem := if roomB (nOf σ) r = true then ((reachN σ (nOf σ) (σ 5 (cut r)) (nOf σ)).1, σ) else tl σ 0
def opMove (σ : Mem) (a b : Int32) : Int32 × Mem := if roomB (nOf σ) a = true then (if roomB (nOf σ) b = true then (1, chgH σ (cut a) (cut b)) else tl σ 0) else tl σ 0
def opHours (σ : Mem) (a : Int32) : Int32 × Mem := if refH σ a 100 = 0 then (hoursSum (nOf σ) (cut a) σ, hoursH (nOf σ) (cut a) σ) else tlI σ (refH σ a 100)
def coldB (h : Mem) (n : Nat) : Int32 := bits (fun i => decide (h 2 i < 60)) n
def opNow (σ : Mem) (w : Int32) : Int32 × Mem := if w = 0 then (σ 0 2, σ) else if w = 1 then (coldB σ (nOf σ), σ) else if w = 2 then (sumN (σ 3) (nOf σ), σ) else if w = 3 then (sumN (σ 2) (nOf σ), σ) else if w = 4 then (σ 0 1, σ) else if w = 5 then (coldN (σ 2) (nOf σ), σ) else tl σ 0
def aheadV (σ : Mem) (a w : Int32) : Int32 :=
  if w = 0 then hoursSum (nOf σ) (cut a) σ else if w = 1 then coldB (hoursH (nOf σ) (cut a) σ) (nOf σ) else if w = 2 then sumN (hoursH (nOf σ) (cut a) σ 2) (nOf σ) else if w = 3 then leastN (hoursH (nOf σ) (cut a) σ 2) (nOf σ) else hoursH (nOf σ) (cut a) σ 2 (cut (w - 4))
def opAhead (σ : Mem) (a w : Int32) : Int32 × Mem := if a < 0 then tl σ 0 else if 100 < a then tl σ 0 else if w < 0 then tl σ 0 else if 3 < w ∧ roomB (nOf σ) (w - 4) = false then tl σ 0 else if 9999 < σ 0 2 + a then tl σ 4 else (aheadV σ a w, σ)
/-- the first from i on, f of them tried -/
def findF (p : Nat → Bool) : Nat → Nat → Option Nat
  | _, 0 => none
  | i, f + 1 => if p i = true then some i else findF p (i + 1) f
def orNone (σ : Mem) (o : Option Nat) (g : Nat → Int32) : Int32 × Mem := match o with
  | some k => (g k, σ)
  | none => tl σ 3
def opFirst (σ : Mem) (r : Int32) (c : Nat) (bound : Int32) : Int32 × Mem := if roomB (nOf σ) r = true then (if late σ = true then tl σ 4 else orNone σ (findF (fun k => decide (hoursH (nOf σ) k σ c (cut r) < bound)) 0 101) nI) else tl σ 0
theorem findF_split {p : Nat → Bool} : ∀ (f i j : Nat), j ≤ f → (∀ q, i ≤ q → q < i + j → p q = false) → findF p i f = findF p (i + j) (f - j)
  | f, i, 0, _, _ => by rw [Nat.add_zero, Nat.sub_zero]
  | 0, i, j + 1, h, _ => absurd h (by omega)
  | f + 1, i, j + 1, h, hp => by
    have h1 : p i = false := hp i (Nat.le_refl i) (by omega)
    show (if p i = true then some i else findF p (i + 1) f) = _
    rw [if_neg (by rw [h1]; decide), findF_split f (i + 1) j (by omega) (fun q h2 h3 => hp q (by omega) (by omega))]
    rw [show i + 1 + j = i + (j + 1) by omega, show f - j = f + 1 - (j + 1) by omega]
theorem findF_some {p : Nat → Bool} {i f j : Nat} (hj : j < f) (hno : ∀ q, i ≤ q → q < i + j → p q = false) (hp : p (i + j) = true) : findF p i f = some (i + j) := by
  rw [findF_split f i j (by omega) hno]
  obtain ⟨g, hg⟩ : ∃ g, f - j = g + 1 := ⟨f - j - 1, by omega⟩
  rw [hg]
  exact if_pos hp
theorem findF_none {p : Nat → Bool} {i f : Nat} (hno : ∀ q, i ≤ q → q < i + f → p q = false) : findF p i f = none := by
  rw [findF_split f i f (Nat.le_refl f) hno, Nat.sub_self]
  rfl
theorem findF_0 {p : Nat → Bool} {f j : Nat} (hj : j < f) (hno : ∀ q, q < j → p q = false) (hp : p j = true) : findF p 0 f = some j := by
  have := findF_some (p := p) (i := 0) hj (fun q _ h => hno q (by omega)) (by rw [Nat.zero_add]; exact hp)
  rwa [Nat.zero_add] at this
theorem findF_n0 {p : Nat → Bool} {f : Nat} (hno : ∀ q, q < f → p q = false) : findF p 0 f = none := findF_none (fun q _ h => hno q (by omega))
theorem fits_B {M : Mem} {n : Nat} {r w v : Int32} (hn : M 0 0 = nI n) (hn8 : n ≤ 8) : fitsI M r w v = bI (fitB n r w v) := by
  unfold fitsI fitB
  rw [hasI_B hn hn8]
  cases hB : roomB n r with
  | false => rfl
  | true =>
    rw [if_neg (by decide)]
    by_cases h1 : w < 0
    · have h1' := i32_lt.mp h1
      have h1'' : w.toInt < 0 := h1'
      have e : roomB 9 w = false := decide_eq_false (by omega)
      rw [if_pos h1, e]; rfl
    · have h1' : ¬ w.toInt < 0 := fun z => h1 (i32_lt.mpr z)
      rw [if_neg h1]
      by_cases h2 : nI 9 ≤ w
      · rw [if_pos h2]
        rw [i32_le, nI_toI (by omega)] at h2
        have e : roomB 9 w = false := decide_eq_false (by omega)
        rw [e]; rfl
      · rw [if_neg h2]
        rw [i32_le, nI_toI (by omega)] at h2
        have e : roomB 9 w = true := decide_eq_true (by omega)
        rw [e]
        show _ = bI (decide (tLeast.getD (cut w) 0 ≤ v ∧ v ≤ tMost.getD (cut w) 0) && !decide (w = 4 ∧ v = r))
        unfold cut
        by_cases h3 : v < tLeast.getD w.toNatClampNeg 0
        · rw [if_pos h3, decide_eq_false (fun z => Int32.not_le.mpr h3 z.1)]; rfl
        · rw [if_neg h3]
          by_cases h4 : tMost.getD w.toNatClampNeg 0 < v
          · rw [if_pos h4, decide_eq_false (fun z => Int32.not_le.mpr h4 z.2)]; rfl
          · rw [if_neg h4, decide_eq_true ⟨Int32.not_lt.mp h3, Int32.not_lt.mp h4⟩]
            by_cases h5 : w = 4
            · rw [if_pos h5]
              by_cases h6 : v = r
              · rw [if_pos h6, decide_eq_true ⟨h5, h6⟩]; rfl
              · rw [if_neg h6, decide_eq_false (fun z => h6 z.2)]; rfl
            · rw [if_neg h5, decide_eq_false (fun z => h5 z.1)]; rfl
theorem reachN_congr {M h : Mem} {n : Nat} (H : HR M h n) (hn : h 0 0 = nI n) (hn8 : n ≤ 8) (r0 : Int32) : ∀ k, reachN M n r0 k = reachN h n r0 k
  | 0 => rfl
  | k + 1 => by
    have e := reachN_congr H hn hn8 r0 k
    show (if hasI M (reachN M n r0 k).2 = 0 then reachN M n r0 k else _) = (if hasI h (reachN h n r0 k).2 = 0 then reachN h n r0 k else _)
    rw [e]
    have hM : M 0 0 = nI n := by rw [H.1 0 (by omega)]; exact hn
    have eh : hasI M (reachN h n r0 k).2 = hasI h (reachN h n r0 k).2 := by rw [hasI_B hM hn8, hasI_B hn hn8]
    rw [eh]
    by_cases h1 : hasI h (reachN h n r0 k).2 = 0
    · rw [if_pos h1, if_pos h1]
    · rw [if_neg h1, if_neg h1]
      obtain ⟨j, hj, ej⟩ := hasI_0 hn hn8 h1
      rw [ej, nI_clamp (by omega), H.f 5 (by omega) (by omega) hj]
theorem HR.addH {M h : Mem} {n : Nat} {k : Int32} (H : HR M h n) (hn : h 0 0 = nI n) (hn8 : n < 8) : HR (addH M k n) (addH h k n) (n + 1) := by
  refine ⟨fun i hi => ?_, fun q hq => H.2.1 q hq, fun c h1 h2 i hi => ?_⟩
  · show (if 0 = 0 then (if i = 0 then M 0 0 + 1 else M 0 i) else _) = (if 0 = 0 then (if i = 0 then h 0 0 + 1 else h 0 i) else _)
    rw [if_pos rfl, if_pos rfl, H.1 0 (by omega), H.1 i hi]
  · show (if c = 0 then _ else if c ≤ 9 ∧ i = n then addV k n c else M c i) = (if c = 0 then _ else if c ≤ 9 ∧ i = n then addV k n c else h c i)
    rw [if_neg (show ¬ c = 0 by omega), if_neg (show ¬ c = 0 by omega)]
    by_cases hin : c ≤ 9 ∧ i = n
    · rw [if_pos hin, if_pos hin]
    · rw [if_neg hin, if_neg hin, H.2.2 c h1 h2 i (by omega)]
