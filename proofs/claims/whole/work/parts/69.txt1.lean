/-! a text's TOKENS: T the bytes, L how many -/
def byt (T : Nat → Int32) (L k : Nat) : Int32 := if k < L then T k else -1
def srt (c : Int32) : Int32 := if c < 0 then 0 else if 97 ≤ c ∧ c ≤ 122 then 1 else if 48 ≤ c ∧ c ≤ 57 then 2 else if c = 59 then 3 else 4
/-- from e on, as long as p -/
def runE (p : Int32 → Bool) (T : Nat → Int32) (L : Nat) : Nat → Nat → Nat
  | 0, e => e
  | f + 1, e => if p (byt T L e) = true then runE p T L f (e + 1) else e
theorem runE_eq {p : Int32 → Bool} {T : Nat → Int32} {L : Nat} : ∀ (f e r : Nat), e ≤ r → r - e < f → (∀ k, e ≤ k → k < r → p (byt T L k) = true) → p (byt T L r) = false → runE p T L f e = r
  | 0, e, r, _, h, _, _ => absurd h (by omega)
  | f + 1, e, r, h1, h2, h3, h4 => by
    by_cases he : e = r
    · subst he
      show (if p (byt T L e) = true then _ else e) = e
      rw [if_neg (by rw [h4]; decide)]
    · show (if p (byt T L e) = true then runE p T L f (e + 1) else e) = r
      rw [if_pos (h3 e (Nat.le_refl _) (by omega))]
      exact runE_eq f (e + 1) r (by omega) (by omega) (fun k a b => h3 k (by omega) b) h4
def spP : Int32 → Bool := fun b => decide (b = 32)
def skP (s : Int32) : Int32 → Bool := fun b => decide (0 ≤ b) && decide (srt b = s)
def tB (T : Nat → Int32) (L e : Nat) : Nat := runE spP T L 121 e
def tS (T : Nat → Int32) (L e : Nat) : Int32 := srt (byt T L (tB T L e))
def tE (T : Nat → Int32) (L e : Nat) : Nat := if tS T L e = 3 then tB T L e + 1 else runE (skP (tS T L e)) T L 121 (tB T L e)
def valE (T : Nat → Int32) (L : Nat) : Nat → Nat → Int32 → Int32
  | 0, _, v => v
  | f + 1, e, v => if srt (byt T L e) = 2 then valE T L f (e + 1) (minI 10000 (10 * v + byt T L e - 48)) else v
def tV (T : Nat → Int32) (L e : Nat) : Int32 := if tS T L e = 2 then valE T L 121 (tB T L e) 0 else 0
def wordB (T : Nat → Int32) (L b i : Nat) : Bool := allB (fun k => decide (byt T L (b + k) = (strByt.getD i []).getD k 0)) (strLen.getD i 0)
def isW (T : Nat → Int32) (L e i : Nat) : Bool := decide (tS T L e = 1) && (decide (tE T L e - tB T L e = strLen.getD i 0) && wordB T L (tB T L e) i)
abbrev Row : Type := Nat × Int32 × Int32
def apRow (h : Mem) (r : Row) : Mem := if r.1 = 20 then ups h 0 1 r.2.1 else if 10 ≤ r.1 then ups h (1 + (r.1 - 10)) (cut r.2.1) r.2.2 else addH h (nI r.1) (nOf h)
def apR (h : Mem) (R : List Row) : Mem := R.foldl apRow h
theorem apR_snoc {h : Mem} {R : List Row} {r : Row} : apR h (R ++ [r]) = apRow (apR h R) r := by
  unfold apR
  rw [List.foldl_append]
  rfl
/-- whether it could be read, the TOKEN where it stands then, ROOMS, what is to be done -/
abbrev PR : Type := Bool × Nat × Nat × List Row
def pParts (T : Nat → Int32) (L own : Nat) : Nat → Nat → List Row → PR
  | 0, e, R => (true, e, own + 1, R)
  | j + 1, e, R => if isW T L e (6 + (4 - j)) = true then (if tS T L (tE T L e) = 2 ∧ fitB (own + 1) (nI own) (nI (4 - j)) (tV T L (tE T L e)) = true then pParts T L own j (tE T L (tE T L e)) (R ++ [(10 + (4 - j), nI own, tV T L (tE T L e))]) else (false, tE T L e, own + 1, R)) else pParts T L own j e R
def pAway (T : Nat → Int32) (L own : Nat) (r : PR) : PR := if r.1 = true then (if isW T L r.2.1 11 = true then (true, tE T L r.2.1, own + 1, r.2.2.2 ++ [(15, nI own, 1)]) else r) else r
def pRoom (T : Nat → Int32) (L n k e : Nat) (R : List Row) : PR := if 8 ≤ n then (false, e, n, R) else pAway T L n (pParts T L n 4 (tE T L e) (R ++ [(k, 0, 0)]))
def pOut (T : Nat → Int32) (L n e : Nat) (R : List Row) : PR := if tS T L (tE T L e) = 2 ∧ tV T L (tE T L e) ≤ 100 then (true, tE T L (tE T L e), n, R ++ [(20, tV T L (tE T L e), 0)]) else (false, tE T L e, n, R)
def pDamp (T : Nat → Int32) (L n e : Nat) (R : List Row) : PR := if tS T L (tE T L e) = 2 ∧ roomB n (tV T L (tE T L e)) = true then (if tS T L (tE T L (tE T L e)) = 2 ∧ fitB n (tV T L (tE T L e)) 6 (tV T L (tE T L (tE T L e))) = true then (true, tE T L (tE T L (tE T L e)), n, R ++ [(16, tV T L (tE T L e), tV T L (tE T L (tE T L e)))]) else (false, tE T L (tE T L e), n, R)) else (false, tE T L e, n, R)
def kindT (T : Nat → Int32) (L e : Nat) : Option Nat := findF (fun k => isW T L e k) 0 7
def pItem (T : Nat → Int32) (L n e : Nat) (R : List Row) : PR := match kindT T L e with
  | some k => pRoom T L n k e R
  | none => if isW T L e 13 = true then pOut T L n e R else if isW T L e 12 = true then pDamp T L n e R else (false, e, n, R)
/-- how many ITEMS and what is to be done, or the FAULT -/
def pText (T : Nat → Int32) (L : Nat) : Nat → Nat → Nat → Nat → List Row → Nat ⊕ (Nat × List Row)
  | 0, _, _, e, _ => .inl (tB T L e)
  | f + 1, it, n, e, R => if (pItem T L n e R).1 = true then (if tS T L (pItem T L n e R).2.1 = 0 then .inr (it, (pItem T L n e R).2.2.2) else if tS T L (pItem T L n e R).2.1 = 3 then pText T L f (it + 1) (pItem T L n e R).2.2.1 (tE T L (pItem T L n e R).2.1) (pItem T L n e R).2.2.2 else .inl (tB T L (pItem T L n e R).2.1)) else .inl (tB T L (pItem T L n e R).2.1)
def txtOf (σ : Mem) : Nat ⊕ (Nat × List Row) := pText (σ 42) (cut (σ 43 0)) 120 1 (nOf σ) 0 []
def txS (σ : Mem) (R : List Row) : Mem := fun c => if c < 11 then apR σ R c else σ c
def opText (σ : Mem) : Int32 × Mem := match txtOf σ with
  | .inl b => (-1 - nI b, ups σ 43 0 0)
  | .inr (it, R) => (nI it, ups (txS σ R) 43 0 0)
/-! about bytes -/
theorem byt_in {T : Nat → Int32} {L k : Nat} (h : k < L) : byt T L k = T k := if_pos h
theorem byt_out {T : Nat → Int32} {L k : Nat} (h : L ≤ k) : byt T L k = -1 := if_neg (by omega)
theorem srt_0 {c : Int32} (h : srt c = 0) : c < 0 := by
  unfold srt at h
  by_cases h1 : c < 0
  · exact h1
  · rw [if_neg h1] at h
    by_cases h2 : 97 ≤ c ∧ c ≤ 122
    · rw [if_pos h2] at h; exact absurd h (by decide)
    · rw [if_neg h2] at h
      by_cases h3 : 48 ≤ c ∧ c ≤ 57
      · rw [if_pos h3] at h; exact absurd h (by decide)
      · rw [if_neg h3] at h
        by_cases h4 : c = 59
        · rw [if_pos h4] at h; exact absurd h (by decide)
        · rw [if_neg h4] at h; exact absurd h (by decide)
theorem srt_5 (c : Int32) : srt c = 0 ∨ srt c = 1 ∨ srt c = 2 ∨ srt c = 3 ∨ srt c = 4 := by
  unfold srt
  by_cases h1 : c < 0
  · exact Or.inl (if_pos h1)
  · rw [if_neg h1]
    by_cases h2 : 97 ≤ c ∧ c ≤ 122
    · rw [if_pos h2]; exact Or.inr (Or.inl rfl)
    · rw [if_neg h2]
      by_cases h3 : 48 ≤ c ∧ c ≤ 57
      · rw [if_pos h3]; exact Or.inr (Or.inr (Or.inl rfl))
      · rw [if_neg h3]
        by_cases h4 : c = 59
        · rw [if_pos h4]; exact Or.inr (Or.inr (Or.inr (Or.inl rfl)))
        · rw [if_neg h4]; exact Or.inr (Or.inr (Or.inr (Or.inr rfl)))
theorem runE_ge {p : Int32 → Bool} {T : Nat → Int32} {L : Nat} : ∀ (f e : Nat), e ≤ runE p T L f e
  | 0, e => Nat.le_refl _
  | f + 1, e => by
    show e ≤ (if p (byt T L e) = true then runE p T L f (e + 1) else e)
    by_cases h : p (byt T L e) = true
    · rw [if_pos h]; have := runE_ge (p := p) (T := T) (L := L) f (e + 1); omega
    · rw [if_neg h]; exact Nat.le_refl _
theorem runE_le {p : Int32 → Bool} {T : Nat → Int32} {L : Nat} (hp : p (-1) = false) : ∀ (f e : Nat), e ≤ L → runE p T L f e ≤ L
  | 0, e, h => h
  | f + 1, e, h => by
    show (if p (byt T L e) = true then runE p T L f (e + 1) else e) ≤ L
    by_cases h1 : p (byt T L e) = true
    · rw [if_pos h1]
      refine runE_le hp f (e + 1) ?_
      by_cases h2 : e < L
      · omega
      · rw [byt_out (by omega), hp] at h1; exact absurd h1 (by decide)
    · rw [if_neg h1]; exact h
theorem tB_ge {T : Nat → Int32} {L e : Nat} : e ≤ tB T L e := runE_ge 121 e
theorem tB_le {T : Nat → Int32} {L e : Nat} (h : e ≤ L) : tB T L e ≤ L := runE_le (by decide) 121 e h
theorem tE_ge {T : Nat → Int32} {L e : Nat} : tB T L e ≤ tE T L e := by
  unfold tE
  by_cases h : tS T L e = 3
  · rw [if_pos h]; omega
  · rw [if_neg h]; exact runE_ge 121 _
theorem skP_m1 (s : Int32) : skP s (-1) = false := by
  unfold skP
  rw [decide_eq_false (by decide), Bool.false_and]
theorem tE_le {T : Nat → Int32} {L e : Nat} (h : e ≤ L) : tE T L e ≤ L := by
  unfold tE
  by_cases h3 : tS T L e = 3
  · rw [if_pos h3]
    have h1 := tB_le (T := T) h
    by_cases h2 : tB T L e < L
    · omega
    · unfold tS at h3
      rw [byt_out (by omega)] at h3
      exact absurd h3 (by decide)
  · rw [if_neg h3]
    exact runE_le (skP_m1 _) 121 _ (tB_le h)
/-- a TOKEN that isn't the END is at least one byte long -/
theorem tE_gt {T : Nat → Int32} {L e : Nat} (hb : ∀ k, k < L → 0 ≤ T k) (h : ¬ tS T L e = 0) : tB T L e < tE T L e := by
  unfold tE
  by_cases h3 : tS T L e = 3
  · rw [if_pos h3]; omega
  · rw [if_neg h3]
    have hin : tB T L e < L := by
      rcases Nat.lt_or_ge (tB T L e) L with q | q
      · exact q
      · exact absurd (by unfold tS; rw [byt_out q]; decide) h
    show tB T L e < (if skP (tS T L e) (byt T L (tB T L e)) = true then runE (skP (tS T L e)) T L 120 (tB T L e + 1) else tB T L e)
    have hp : skP (tS T L e) (byt T L (tB T L e)) = true := by
      unfold skP
      rw [decide_eq_true (show srt (byt T L (tB T L e)) = tS T L e from rfl), Bool.and_true]
      refine decide_eq_true ?_
      rw [byt_in hin]
      exact hb _ hin
    rw [if_pos hp]
    exact runE_ge 120 _
