/-! the numbers that both sides speak of -/
def minI (x y : Int32) : Int32 := if y < x then y else x
def maxI (x y : Int32) : Int32 := if x < y then y else x
def bitI (i : Nat) : Int32 := 1 <<< (nI i &&& 31)
def bits (p : Nat → Bool) : Nat → Int32
  | 0 => 0
  | n + 1 => if p n = true then bits p n ||| bitI n else bits p n
def sumN (f : Nat → Int32) : Nat → Int32
  | 0 => 0
  | n + 1 => sumN f n + f n
def remI (x y : Int32) : Int32 := x - x / y * y
theorem i32_ext {a b : Int32} (h : a.toInt = b.toInt) : a = b := Int32.toInt_inj.mp h
theorem minI_comm (x y : Int32) : minI x y = minI y x := by
  unfold minI
  by_cases h : y < x
  · rw [if_pos h]
    by_cases h2 : x < y
    · rw [i32_lt] at h h2; omega
    · rw [if_neg h2]
  · rw [if_neg h]
    by_cases h2 : x < y
    · rw [if_pos h2]
    · rw [if_neg h2]
      rw [i32_lt] at h h2
      exact i32_ext (by omega)
theorem maxI_comm (x y : Int32) : maxI x y = maxI y x := by
  unfold maxI
  by_cases h : x < y
  · rw [if_pos h]
    by_cases h2 : y < x
    · rw [i32_lt] at h h2; omega
    · rw [if_neg h2]
  · rw [if_neg h]
    by_cases h2 : y < x
    · rw [if_pos h2]
    · rw [if_neg h2]
      rw [i32_lt] at h h2
      exact i32_ext (by omega)
theorem bits_congr {p q : Nat → Bool} : ∀ n, (∀ i, i < n → p i = q i) → bits p n = bits q n
  | 0, _ => rfl
  | n + 1, h => by
    show (if p n = true then bits p n ||| bitI n else bits p n) = (if q n = true then bits q n ||| bitI n else bits q n)
    rw [h n (Nat.lt_succ_self n), bits_congr n (fun i hi => h i (Nat.lt_succ_of_lt hi))]
theorem sumN_congr {f g : Nat → Int32} : ∀ n, (∀ i, i < n → f i = g i) → sumN f n = sumN g n
  | 0, _ => rfl
  | n + 1, h => by
    show sumN f n + f n = sumN g n + g n
    rw [h n (Nat.lt_succ_self n), sumN_congr n (fun i hi => h i (Nat.lt_succ_of_lt hi))]
theorem bits_t {p : Nat → Bool} {n : Nat} (h : p n = true) : bits p (n + 1) = bits p n ||| bitI n := if_pos h
theorem bits_f {p : Nat → Bool} {n : Nat} (h : ¬ p n = true) : bits p (n + 1) = bits p n := if_neg h
def kindlyF (w : Int32) : Int32 := if w < 120 then 1 else 2
def justF (g : Int32) : Int32 := minI 3 g
def wantsF (hour kind w g gave : Int32) : Int32 :=
  if kind = 1 then kindlyF w else if kind = 2 then justF g else if kind = 3 then justF g / 2 else if kind = 4 then kindlyF w + 1
  else if kind = 5 then (if remI hour 2 = 1 then gave else 1) else if kind = 6 then (if g < 2 then 0 else justF g) else 1
theorem wF1 {hour kind w g gave : Int32} (h : kind = 1) : wantsF hour kind w g gave = kindlyF w := if_pos h
theorem wF2 {hour kind w g gave : Int32} (h : kind = 2) : wantsF hour kind w g gave = justF g := by subst h; rfl
theorem wF3 {hour kind w g gave : Int32} (h : kind = 3) : wantsF hour kind w g gave = justF g / 2 := by subst h; rfl
theorem wF4 {hour kind w g gave : Int32} (h : kind = 4) : wantsF hour kind w g gave = kindlyF w + 1 := by subst h; rfl
theorem wF5 {hour kind w g gave : Int32} (h : kind = 5) : wantsF hour kind w g gave = (if remI hour 2 = 1 then gave else 1) := by subst h; rfl
theorem wF6 {hour kind w g gave : Int32} (h : kind = 6) : wantsF hour kind w g gave = (if g < 2 then 0 else justF g) := by subst h; rfl
theorem wFd {hour kind w g gave : Int32} (h1 : ¬ kind = 1) (h2 : ¬ kind = 2) (h3 : ¬ kind = 3) (h4 : ¬ kind = 4) (h5 : ¬ kind = 5) (h6 : ¬ kind = 6) : wantsF hour kind w g gave = 1 := by
  unfold wantsF
  rw [if_neg h1, if_neg h2, if_neg h3, if_neg h4, if_neg h5, if_neg h6]
/-! a house: cells 0 (rooms, out, hour, z), 1 kind, 2 warmth, 3 coal, 4 wall, 5 heats, 6 away, 7 damper, 8 got, 9 gave, 10 spots -/
def wantsH (h : Mem) (i : Nat) : Int32 := wantsF (h 0 2) (h 1 i) (h 2 i) (h 8 i) (h 9 i)
def stokeH (h : Mem) (i : Nat) : Int32 := if h 6 i = 1 then 0 else minI (wantsH h i) (h 3 i)
def gotH (h : Mem) (n j : Nat) : Int32 := sumN (fun r => if h 5 r = nI j then maxI 0 (stokeH h r - h 7 r) else 0) n
def lossF (out w wall : Int32) : Int32 := if out < w then (w - out) / wall else 0
def warmH (h : Mem) (n i : Nat) : Int32 := minI 300 (h 2 i + 15 * gotH h n i) - lossF (h 0 1) (minI 300 (h 2 i + 15 * gotH h n i)) (h 4 i)
def hourH (h : Mem) (n : Nat) : Mem := fun c i =>
  if c = 0 then (if i = 2 then h 0 2 + 1 else h 0 i) else if c = 2 then (if i < n then warmH h n i else h 2 i) else if c = 3 then (if i < n then h 3 i - stokeH h i else h 3 i)
  else if c = 8 then (if i < n then gotH h n i else h 8 i) else if c = 9 then (if i < n then stokeH h i else h 9 i) else h c i
def stSum (h : Mem) (n : Nat) : Int32 := sumN (stokeH h) n
def hoursH (n : Nat) : Nat → Mem → Mem
  | 0, h => h
  | k + 1, h => hourH (hoursH n k h) n
def hoursSum (n k : Nat) (h : Mem) : Int32 := sumN (fun j => stSum (hoursH n j h) n) k
/-- one house is as another, as far as the rooms below n go -/
def HR (M h : Mem) (n : Nat) : Prop := (∀ i, i < 4 → M 0 i = h 0 i) ∧ (∀ k, k < 10 → M 10 k = h 10 k) ∧ ∀ c, 1 ≤ c → c ≤ 9 → ∀ i, i < n → M c i = h c i
theorem HR.rf (h : Mem) (n : Nat) : HR h h n := ⟨fun _ _ => rfl, fun _ _ => rfl, fun _ _ _ _ _ => rfl⟩
theorem HR.tr {a b c : Mem} {n : Nat} (h1 : HR a b n) (h2 : HR b c n) : HR a c n := ⟨fun i hi => (h1.1 i hi).trans (h2.1 i hi), fun k hk => (h1.2.1 k hk).trans (h2.2.1 k hk), fun q a b i hi => (h1.2.2 q a b i hi).trans (h2.2.2 q a b i hi)⟩
theorem HR.sy {a b : Mem} {n : Nat} (h1 : HR a b n) : HR b a n := ⟨fun i hi => (h1.1 i hi).symm, fun k hk => (h1.2.1 k hk).symm, fun q a b i hi => (h1.2.2 q a b i hi).symm⟩
theorem HR.f {M h : Mem} {n : Nat} (H : HR M h n) (c : Nat) (h1 : 1 ≤ c) (h2 : c ≤ 9) {i : Nat} (hi : i < n) : M c i = h c i := H.2.2 c h1 h2 i hi
theorem wantsH_congr {M h : Mem} {n : Nat} (H : HR M h n) {i : Nat} (hi : i < n) : wantsH M i = wantsH h i := by
  unfold wantsH
  rw [H.1 2 (by omega), H.f 1 (by omega) (by omega) hi, H.f 2 (by omega) (by omega) hi, H.f 8 (by omega) (by omega) hi, H.f 9 (by omega) (by omega) hi]
theorem stokeH_congr {M h : Mem} {n : Nat} (H : HR M h n) {i : Nat} (hi : i < n) : stokeH M i = stokeH h i := by
  unfold stokeH
  rw [wantsH_congr H hi, H.f 6 (by omega) (by omega) hi, H.f 3 (by omega) (by omega) hi]
theorem stSum_congr {M h : Mem} {n : Nat} (H : HR M h n) : stSum M n = stSum h n := sumN_congr n (fun _ hi => stokeH_congr H hi)
theorem gotH_congr {M h : Mem} {n : Nat} (H : HR M h n) (j : Nat) : gotH M n j = gotH h n j := by
  refine sumN_congr n (fun r hr => ?_)
  show (if M 5 r = nI j then maxI 0 (stokeH M r - M 7 r) else 0) = (if h 5 r = nI j then maxI 0 (stokeH h r - h 7 r) else 0)
  rw [stokeH_congr H hr, H.f 5 (by omega) (by omega) hr, H.f 7 (by omega) (by omega) hr]
theorem warmH_congr {M h : Mem} {n : Nat} (H : HR M h n) {i : Nat} (hi : i < n) : warmH M n i = warmH h n i := by
  unfold warmH
  rw [gotH_congr H, H.1 1 (by omega), H.f 2 (by omega) (by omega) hi, H.f 4 (by omega) (by omega) hi]
theorem hourH_congr {M h : Mem} {n : Nat} (H : HR M h n) : HR (hourH M n) (hourH h n) n := by
  refine ⟨fun i hi => ?_, fun k hk => ?_, fun c h1 h2 i hi => ?_⟩
  · show (if i = 2 then M 0 2 + 1 else M 0 i) = (if i = 2 then h 0 2 + 1 else h 0 i)
    rw [H.1 2 (by omega), H.1 i hi]
  · exact H.2.1 k hk
  · have h3 : c = 1 ∨ c = 2 ∨ c = 3 ∨ c = 4 ∨ c = 5 ∨ c = 6 ∨ c = 7 ∨ c = 8 ∨ c = 9 := by omega
    rcases h3 with rfl | rfl | rfl | rfl | rfl | rfl | rfl | rfl | rfl
    · exact H.f 1 (by omega) (by omega) hi
    · show (if i < n then warmH M n i else M 2 i) = (if i < n then warmH h n i else h 2 i)
      rw [if_pos hi, if_pos hi, warmH_congr H hi]
    · show (if i < n then M 3 i - stokeH M i else M 3 i) = (if i < n then h 3 i - stokeH h i else h 3 i)
      rw [if_pos hi, if_pos hi, stokeH_congr H hi, H.f 3 (by omega) (by omega) hi]
    · exact H.f 4 (by omega) (by omega) hi
    · exact H.f 5 (by omega) (by omega) hi
    · exact H.f 6 (by omega) (by omega) hi
    · exact H.f 7 (by omega) (by omega) hi
    · show (if i < n then gotH M n i else M 8 i) = (if i < n then gotH h n i else h 8 i)
      rw [if_pos hi, if_pos hi, gotH_congr H]
    · show (if i < n then stokeH M i else M 9 i) = (if i < n then stokeH h i else h 9 i)
      rw [if_pos hi, if_pos hi, stokeH_congr H hi]
theorem hoursH_congr {M h : Mem} {n : Nat} (H : HR M h n) : ∀ k, HR (hoursH n k M) (hoursH n k h) n
  | 0 => H
  | k + 1 => hourH_congr (hoursH_congr H k)
theorem hoursSum_congr {M h : Mem} {n : Nat} (H : HR M h n) (k : Nat) : hoursSum n k M = hoursSum n k h := sumN_congr k (fun j _ => stSum_congr (hoursH_congr H j))
theorem hourH_0 (h : Mem) (n : Nat) : hourH h n 0 0 = h 0 0 := rfl
theorem hoursH_0 (h : Mem) (n : Nat) : ∀ k, hoursH n k h 0 0 = h 0 0
  | 0 => rfl
  | k + 1 => hoursH_0 h n k
theorem hoursH_out (h : Mem) (n : Nat) : ∀ k, hoursH n k h 0 1 = h 0 1
  | 0 => rfl
  | k + 1 => hoursH_out h n k
/-- the first of the coldest -/
def coldN (w : Nat → Int32) : Nat → Int32
  | 0 => -1
  | n + 1 => if coldN w n < 0 then nI n else if w (coldN w n).toNatClampNeg ≤ w n then coldN w n else nI n
def leastN (w : Nat → Int32) (n : Nat) : Int32 := if coldN w n < 0 then 300 else w (coldN w n).toNatClampNeg
theorem coldN_pos (w : Nat → Int32) : ∀ n, n < 2147483648 → (n = 0 ∧ coldN w n = -1) ∨ ∃ j, j < n ∧ coldN w n = nI j
  | 0, _ => Or.inl ⟨rfl, rfl⟩
  | n + 1, hn => by
    refine Or.inr ?_
    show ∃ j, j < n + 1 ∧ (if coldN w n < 0 then nI n else if w (coldN w n).toNatClampNeg ≤ w n then coldN w n else nI n) = nI j
    rcases coldN_pos w n (by omega) with ⟨rfl, e⟩ | ⟨j, hj, e⟩
    · exact ⟨0, by omega, by rw [e]; rfl⟩
    · rw [e, if_neg (nI_pos (by omega)), nI_clamp (by omega)]
      by_cases h : w j ≤ w n
      · exact ⟨j, by omega, if_pos h⟩
      · exact ⟨n, by omega, if_neg h⟩
theorem coldN_congr {w v : Nat → Int32} (n : Nat) (hn : n < 2147483648) (h : ∀ i, i < n → w i = v i) : coldN w n = coldN v n := by
  induction n with
  | zero => rfl
  | succ n ih =>
    have e := ih (by omega) (fun i hi => h i (by omega))
    show (if coldN w n < 0 then nI n else if w (coldN w n).toNatClampNeg ≤ w n then coldN w n else nI n) = (if coldN v n < 0 then nI n else if v (coldN v n).toNatClampNeg ≤ v n then coldN v n else nI n)
    rw [e]
    rcases coldN_pos v n (by omega) with ⟨rfl, e2⟩ | ⟨j, hj, e2⟩
    · rw [e2, if_pos (by decide), if_pos (by decide)]
    · rw [e2, if_neg (nI_pos (by omega)), if_neg (nI_pos (by omega)), nI_clamp (by omega), h j (by omega), h n (by omega)]
theorem leastN_congr {w v : Nat → Int32} {n : Nat} (hn : n < 2147483648) (h : ∀ i, i < n → w i = v i) : leastN w n = leastN v n := by
  unfold leastN
  rw [coldN_congr n hn h]
  rcases coldN_pos v n hn with ⟨rfl, e2⟩ | ⟨j, hj, e2⟩
  · rw [e2, if_pos (by decide), if_pos (by decide)]
  · rw [e2, if_neg (nI_pos (by omega)), if_neg (nI_pos (by omega)), nI_clamp (by omega), h j hj]
