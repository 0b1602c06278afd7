/-! what a row may be; what it leaves -/
def okRow (n : Nat) (r : Row) : Prop := (r.1 < 7 ∧ n < 8) ∨ (r.1 = 20 ∧ rg r.2.1 0 100) ∨ ∃ p q, p < 9 ∧ r.1 = 10 + p ∧ q < n ∧ r.2.1 = nI q ∧ fitB n (nI q) (nI p) r.2.2 = true
def nxN (n : Nat) (r : Row) : Nat := if r.1 < 7 then n + 1 else n
def cR (n : Nat) (R : List Row) : Nat := R.foldl nxN n
def vR (n : Nat) (R : List Row) : Prop := ∀ k, k < R.length → okRow (cR n (R.take k)) (R.getD k dr0)
theorem cR_snoc {n : Nat} {R : List Row} {r : Row} : cR n (R ++ [r]) = nxN (cR n R) r := by
  unfold cR
  rw [List.foldl_append]
  rfl
theorem vR_snoc {n : Nat} {R : List Row} {r : Row} (h : vR n R) (hr : okRow (cR n R) r) : vR n (R ++ [r]) := fun k hk => by
  have hl : (R ++ [r]).length = R.length + 1 := by rw [List.length_append]; rfl
  rw [hl] at hk
  by_cases hkl : k < R.length
  · rw [List.take_append_of_le_length (by omega), List.getD_eq_getElem?_getD, List.getElem?_append_left hkl, ← List.getD_eq_getElem?_getD]
    exact h k hkl
  · have e : k = R.length := by omega
    subst e
    rw [List.take_append_of_le_length (Nat.le_refl _), List.take_length, List.getD_eq_getElem?_getD, List.getElem?_append_right (Nat.le_refl _), Nat.sub_self]
    exact hr
theorem fit_v {n q p : Nat} {v : Int32} (hp : p < 9) (h : fitB n (nI q) (nI p) v = true) : tLeast.getD p 0 ≤ v ∧ v ≤ tMost.getD p 0 := by
  unfold fitB at h
  rw [cut_nI (by omega)] at h
  have h1 := (Bool.and_eq_true_iff.mp (Bool.and_eq_true_iff.mp (Bool.and_eq_true_iff.mp h).2).2).1
  exact of_decide_eq_true h1
theorem HI.set {h : Mem} {n p q : Nat} {v : Int32} (H : HI h n) (hp : p < 9) (hq : q < n) (hf : fitB n (nI q) (nI p) v = true) : HI (ups h (1 + p) q v) n := by
  obtain ⟨h1, h2, h3, h4, h5⟩ := H
  obtain ⟨f1, f2⟩ := fit_v hp hf
  rw [i32_le] at f1 f2
  refine ⟨by rw [ups_cell (by omega)]; exact h1, h2, by rw [ups_cell (by omega)]; exact h3, fun k hk => by rw [ups_cell (by omega)]; exact h4 k hk, fun i hi => ?_⟩
  obtain ⟨a1, a2, a3, a4, a5, a6, a7, a8, a9⟩ := h5 i hi
  have key : ∀ c, 1 ≤ c → c ≤ 9 → ∀ lo hi2 : Int, (c = 1 + p → rg v lo hi2) → rg (h c i) lo hi2 → rg (ups h (1 + p) q v c i) lo hi2 := fun c _ _ lo hi2 g1 g2 => by
    by_cases hc : c = 1 + p ∧ i = q
    · rw [hc.1, hc.2, ups_same]; exact g1 hc.1
    · rw [ups_ne hc]; exact g2
  have h9 : p = 0 ∨ p = 1 ∨ p = 2 ∨ p = 3 ∨ p = 4 ∨ p = 5 ∨ p = 6 ∨ p = 7 ∨ p = 8 := by omega
  have hv : ∀ lo hi2 : Int, (tLeast.getD p 0).toInt = lo → (tMost.getD p 0).toInt = hi2 → rg v lo hi2 := fun lo hi2 e1 e2 => by unfold rg; rw [← e1, ← e2]; exact ⟨f1, f2⟩
  refine ⟨key 1 (by omega) (by omega) 0 6 (fun e => ?_) a1, key 2 (by omega) (by omega) 0 300 (fun e => ?_) a2, key 3 (by omega) (by omega) 0 999 (fun e => ?_) a3, key 4 (by omega) (by omega) 1 20 (fun e => ?_) a4, key 5 (by omega) (by omega) 0 7 (fun e => ?_) a5, key 6 (by omega) (by omega) 0 1 (fun e => ?_) a6, key 7 (by omega) (by omega) 0 3 (fun e => ?_) a7, key 8 (by omega) (by omega) 0 24 (fun e => ?_) a8, key 9 (by omega) (by omega) 0 3 (fun e => ?_) a9⟩
  · obtain rfl : p = 0 := by omega
    exact hv _ _ rfl rfl
  · obtain rfl : p = 1 := by omega
    exact hv _ _ rfl rfl
  · obtain rfl : p = 2 := by omega
    exact hv _ _ rfl rfl
  · obtain rfl : p = 3 := by omega
    exact hv _ _ rfl rfl
  · obtain rfl : p = 4 := by omega
    exact hv _ _ rfl rfl
  · obtain rfl : p = 5 := by omega
    exact hv _ _ rfl rfl
  · obtain rfl : p = 6 := by omega
    exact hv _ _ rfl rfl
  · obtain rfl : p = 7 := by omega
    exact hv _ _ rfl rfl
  · obtain rfl : p = 8 := by omega
    exact hv _ _ rfl rfl
theorem HI.out {h : Mem} {n : Nat} {v : Int32} (H : HI h n) (hv : rg v 0 100) : HI (ups h 0 1 v) n := by
  obtain ⟨h1, h2, h3, h4, h5⟩ := H
  exact ⟨by rw [ups_ne (by omega)]; exact h1, h2, by rw [ups_same]; exact hv, fun k hk => by rw [ups_cell (by omega)]; exact h4 k hk, fun i hi => by rw [ups_cell (by omega), ups_cell (by omega), ups_cell (by omega), ups_cell (by omega), ups_cell (by omega), ups_cell (by omega), ups_cell (by omega), ups_cell (by omega), ups_cell (by omega)]; exact h5 i hi⟩
theorem heat_rg : ∀ n : Fin 8, rg (remI (nI n.1 + 1) 8) 0 7 := by unfold rg; decide +kernel
theorem HI.add {h : Mem} {n k : Nat} (H : HI h n) (hn : n < 8) (hk : k < 7) : HI (addH h (nI k) n) (n + 1) := by
  obtain ⟨h1, h2, h3, h4, h5⟩ := H
  have e0 : ∀ i, addH h (nI k) n 0 i = if i = 0 then h 0 0 + 1 else h 0 i := fun i => if_pos rfl
  have ec : ∀ c i, 1 ≤ c → c ≤ 9 → addH h (nI k) n c i = if i = n then addV (nI k) n c else h c i := fun c i g1 g2 => by
    show (if c = 0 then _ else if c ≤ 9 ∧ i = n then addV (nI k) n c else h c i) = _
    rw [if_neg (by omega)]
    by_cases hi : i = n
    · rw [if_pos hi, if_pos ⟨g2, hi⟩]
    · rw [if_neg hi, if_neg (fun z => hi z.2)]
  have e10 : addH h (nI k) n 10 = h 10 := by
    funext i
    show (if 10 = 0 then _ else if 10 ≤ 9 ∧ i = n then _ else h 10 i) = _
    rw [if_neg (by omega), if_neg (by omega)]
  refine ⟨by rw [e0, if_pos rfl, h1, nI_1], by omega, by rw [e0, if_neg (by omega)]; exact h3, fun j hj => ?_, fun i hi => ?_⟩
  · rw [e10]
    have := h4 j hj
    unfold rg at this ⊢
    omega
  · rw [ec 1 i (by omega) (by omega), ec 2 i (by omega) (by omega), ec 3 i (by omega) (by omega), ec 4 i (by omega) (by omega), ec 5 i (by omega) (by omega), ec 6 i (by omega) (by omega), ec 7 i (by omega) (by omega), ec 8 i (by omega) (by omega), ec 9 i (by omega) (by omega)]
    by_cases hin : i = n
    · subst hin
      rw [if_pos rfl, if_pos rfl, if_pos rfl, if_pos rfl, if_pos rfl, if_pos rfl, if_pos rfl, if_pos rfl, if_pos rfl]
      refine ⟨?_, show rg (100 : Int32) 0 300 by unfold rg; decide, show rg (50 : Int32) 0 999 by unfold rg; decide, show rg (10 : Int32) 1 20 by unfold rg; decide, heat_rg ⟨i, hn⟩, show rg (0 : Int32) 0 1 by unfold rg; decide, show rg (0 : Int32) 0 3 by unfold rg; decide, show rg (1 : Int32) 0 24 by unfold rg; decide, show rg (1 : Int32) 0 3 by unfold rg; decide⟩
      show rg (nI k) 0 6
      unfold rg
      rw [nI_toI (by omega)]
      omega
    · rw [if_neg hin, if_neg hin, if_neg hin, if_neg hin, if_neg hin, if_neg hin, if_neg hin, if_neg hin, if_neg hin]
      exact h5 i (by omega)
theorem HI.row {h : Mem} {n : Nat} {r : Row} (H : HI h n) (hr : okRow n r) : HI (apRow h r) (nxN n r) := by
  unfold apRow nxN
  rcases hr with ⟨h1, h2⟩ | ⟨h1, h2⟩ | ⟨p, q, hp, h1, hq, h2, h3⟩
  · rw [if_neg (by omega), if_neg (by omega), if_pos h1, show nOf h = n from H.nn]
    exact H.add h2 h1
  · rw [if_pos h1, if_neg (by omega)]
    exact H.out h2
  · rw [if_neg (by omega), if_pos (by omega), if_neg (by omega), h1, h2, show 10 + p - 10 = p by omega, cut_nI (by have := H.n8; omega)]
    exact H.set hp hq h3
theorem HI.rows {h : Mem} {n : Nat} {R : List Row} (H : HI h n) (hv : vR n R) : ∀ k, k ≤ R.length → HI (apR h (R.take k)) (cR n (R.take k))
  | 0, _ => by rw [List.take_zero]; exact H
  | k + 1, hk => by
    have ih := HI.rows H hv k (by omega)
    have e : R.take (k + 1) = R.take k ++ [R.getD k dr0] := by
      rw [List.take_add_one, List.getD_eq_getElem?_getD, List.getElem?_eq_getElem (by omega)]
      rfl
    rw [e, apR_snoc, cR_snoc]
    exact ih.row (hv k (by omega))
/-! what is read is so; it goes on -/
def goodP (n0 e L : Nat) (r : PR) : Prop := r.1 = true → vR n0 r.2.2.2 ∧ cR n0 r.2.2.2 = r.2.2.1 ∧ e ≤ r.2.1 ∧ r.2.1 ≤ L
theorem tE_gt2 {T : Nat → Int32} {L e : Nat} (hH : TH T L) (h : ¬ tS T L e = 0) : e < tE T L e := Nat.lt_of_le_of_lt (tB_ge (T := T) (L := L)) (tE_gt hH.2 h)
theorem tE_ge2 {T : Nat → Int32} {L e : Nat} : e ≤ tE T L e := Nat.le_trans (tB_ge (T := T) (L := L)) tE_ge
theorem pParts_good {T : Nat → Int32} {L n0 own : Nat} (hH : TH T L) : ∀ (j e : Nat) (R : List Row), j ≤ 4 → e ≤ L → vR n0 R → cR n0 R = own + 1 → goodP n0 e L (pParts T L own j e R)
  | 0, e, R, _, he, hv, hc => fun _ => ⟨hv, hc, Nat.le_refl _, he⟩
  | j + 1, e, R, hj, he, hv, hc => by
    show goodP n0 e L (if isW T L e (6 + (4 - j)) = true then _ else pParts T L own j e R)
    by_cases h1 : isW T L e (6 + (4 - j)) = true
    · rw [if_pos h1]
      by_cases h2 : tS T L (tE T L e) = 2 ∧ fitB (own + 1) (nI own) (nI (4 - j)) (tV T L (tE T L e)) = true
      · rw [if_pos h2]
        have hr : okRow (cR n0 R) (10 + (4 - j), nI own, tV T L (tE T L e)) := Or.inr (Or.inr ⟨4 - j, own, by omega, rfl, by rw [hc]; omega, rfl, by rw [hc]; exact h2.2⟩)
        have g := pParts_good hH j (tE T L (tE T L e)) (R ++ [(10 + (4 - j), nI own, tV T L (tE T L e))]) (by omega) (tE_le (tE_le he)) (vR_snoc hv hr) (by rw [cR_snoc, hc]; exact if_neg (by show ¬ 10 + (4 - j) < 7; omega))
        intro h
        obtain ⟨a, b, c, d⟩ := g h
        exact ⟨a, b, Nat.le_trans tE_ge2 (Nat.le_trans tE_ge2 c), d⟩
      · rw [if_neg h2]
        intro h
        exact absurd (show false = true from h) (by decide)
    · rw [if_neg h1]
      exact pParts_good hH j e R (by omega) he hv hc
theorem pParts_n {T : Nat → Int32} {L own : Nat} : ∀ (j e : Nat) (R : List Row), (pParts T L own j e R).2.2.1 = own + 1
  | 0, _, _ => rfl
  | j + 1, e, R => by
    show (if isW T L e (6 + (4 - j)) = true then _ else pParts T L own j e R : PR).2.2.1 = _
    by_cases h1 : isW T L e (6 + (4 - j)) = true
    · rw [if_pos h1]
      by_cases h2 : tS T L (tE T L e) = 2 ∧ fitB (own + 1) (nI own) (nI (4 - j)) (tV T L (tE T L e)) = true
      · rw [if_pos h2]; exact pParts_n j _ _
      · rw [if_neg h2]
    · rw [if_neg h1]; exact pParts_n j _ _
theorem fit_away {n : Nat} (hn : n < 8) : fitB (n + 1) (nI n) (nI 5) 1 = true := by
  unfold fitB
  rw [roomB_nI (by omega) (by omega), roomB_nI (n := 9) (by decide) (by omega), cut_nI (by omega), decide_eq_true (show tLeast.getD 5 0 ≤ 1 ∧ 1 ≤ tMost.getD 5 0 by decide), decide_eq_false (show ¬ (nI 5 = 4 ∧ (1 : Int32) = nI n) from fun z => absurd z.1 (by decide))]
  rfl
theorem pItem_good {T : Nat → Int32} {L n0 n e : Nat} {R : List Row} (hH : TH T L) (he : e ≤ L) (hv : vR n0 R) (hc : cR n0 R = n) : goodP n0 (e + 1) L (pItem T L n e R) := by
  rcases hk : kindT T L e with _ | k
  · rw [pItem_none hk]
    by_cases h1 : isW T L e 13 = true
    · rw [if_pos h1]
      unfold pOut
      have hs := isW_s1 h1
      have hgt := tE_gt2 hH (e := e) (by rw [hs]; decide)
      by_cases h2 : tS T L (tE T L e) = 2 ∧ tV T L (tE T L e) ≤ 100
      · rw [if_pos h2]
        have hr : okRow (cR n0 R) (20, tV T L (tE T L e), 0) := by
          refine Or.inr (Or.inl ⟨rfl, ?_⟩)
          have h3 := tV_rg (T := T) (L := L) (e := tE T L e)
          have h4 := h2.2
          rw [i32_le] at h4
          have e100 : (100 : Int32).toInt = 100 := rfl
          unfold rg at h3 ⊢
          show 0 ≤ (tV T L (tE T L e)).toInt ∧ (tV T L (tE T L e)).toInt ≤ 100
          omega
        exact fun _ => ⟨vR_snoc hv hr, by rw [cR_snoc, hc]; exact if_neg (show ¬ (20 : Nat) < 7 by decide), Nat.le_trans hgt tE_ge2, tE_le (tE_le he)⟩
      · rw [if_neg h2]
        exact fun h => absurd (show false = true from h) (by decide)
    · rw [if_neg h1]
      by_cases h3 : isW T L e 12 = true
      · rw [if_pos h3]
        unfold pDamp
        have hs := isW_s1 h3
        have hgt := tE_gt2 hH (e := e) (by rw [hs]; decide)
        by_cases h2 : tS T L (tE T L e) = 2 ∧ roomB n (tV T L (tE T L e)) = true
        · rw [if_pos h2]
          by_cases h4 : tS T L (tE T L (tE T L e)) = 2 ∧ fitB n (tV T L (tE T L e)) 6 (tV T L (tE T L (tE T L e))) = true
          · rw [if_pos h4]
            have hq : ∃ q, q < n ∧ tV T L (tE T L e) = nI q := by
              have h5 := of_decide_eq_true h2.2
              refine ⟨(tV T L (tE T L e)).toInt.toNat, by omega, i32_ext ?_⟩
              have := Int32.toInt_lt (tV T L (tE T L e))
              rw [nI_toI (by omega)]
              omega
            obtain ⟨q, hq, eq⟩ := hq
            have hr : okRow (cR n0 R) (16, tV T L (tE T L e), tV T L (tE T L (tE T L e))) := Or.inr (Or.inr ⟨6, q, by omega, rfl, by rw [hc]; exact hq, eq, by rw [hc, ← eq]; exact h4.2⟩)
            exact fun _ => ⟨vR_snoc hv hr, by rw [cR_snoc, hc]; exact if_neg (show ¬ (16 : Nat) < 7 by decide), Nat.le_trans hgt (Nat.le_trans tE_ge2 tE_ge2), tE_le (tE_le (tE_le he))⟩
          · rw [if_neg h4]
            exact fun h => absurd (show false = true from h) (by decide)
        · rw [if_neg h2]
          exact fun h => absurd (show false = true from h) (by decide)
      · rw [if_neg h3]
        exact fun h => absurd (show false = true from h) (by decide)
  · rw [pItem_some hk]
    have hwk : isW T L e k = true := findF_is (p := fun k => isW T L e k) 7 0 k hk
    have hs := isW_s1 hwk
    have hgt := tE_gt2 hH (e := e) (by rw [hs]; decide)
    have hk7 : k < 7 := by
      rcases kindT_lt (T := T) (L := L) (e := e) with ⟨h, -⟩ | ⟨k2, h2, h⟩
      · rw [hk] at h; cases h
      · rw [hk] at h; rw [Option.some.inj h]; exact h2
    unfold pRoom
    by_cases h8 : 8 ≤ n
    · rw [if_pos h8]
      exact fun h => absurd (show false = true from h) (by decide)
    · rw [if_neg h8]
      have hr : okRow (cR n0 R) (k, 0, 0) := Or.inl ⟨hk7, by rw [hc]; omega⟩
      have g := pParts_good (n0 := n0) (own := n) hH 4 (tE T L e) (R ++ [(k, 0, 0)]) (by omega) (tE_le he) (vR_snoc hv hr) (by rw [cR_snoc, hc]; exact if_pos hk7)
      unfold pAway
      rcases Bool.eq_false_or_eq_true (pParts T L n 4 (tE T L e) (R ++ [(k, 0, 0)])).1 with hb | hb
      · rw [if_pos hb]
        obtain ⟨a, b, c, d⟩ := g hb
        have hrn : (pParts T L n 4 (tE T L e) (R ++ [(k, 0, 0)])).2.2.1 = n + 1 := pParts_n 4 _ _
        by_cases hw : isW T L (pParts T L n 4 (tE T L e) (R ++ [(k, 0, 0)])).2.1 11 = true
        · rw [if_pos hw]
          have hr2 : okRow (cR n0 (pParts T L n 4 (tE T L e) (R ++ [(k, 0, 0)])).2.2.2) (15, nI n, 1) := Or.inr (Or.inr ⟨5, n, by omega, rfl, by rw [b, hrn]; omega, rfl, by rw [b, hrn]; exact fit_away (by omega)⟩)
          exact fun _ => ⟨vR_snoc a hr2, by rw [cR_snoc, b, hrn]; exact if_neg (show ¬ (15 : Nat) < 7 by decide), Nat.le_trans hgt (Nat.le_trans c tE_ge2), tE_le d⟩
        · rw [if_neg hw]
          exact fun _ => ⟨a, b, Nat.le_trans hgt c, d⟩
      · rw [if_neg (by rw [hb]; decide)]
        intro h
        rw [hb] at h
        exact absurd h (by decide)
theorem pText_good {T : Nat → Int32} {L n0 : Nat} (hH : TH T L) : ∀ (f it n e : Nat) (R : List Row), e ≤ L → vR n0 R → cR n0 R = n → ∀ it2 R2, pText T L f it n e R = .inr (it2, R2) → vR n0 R2
  | 0, it, n, e, R, _, _, _, it2, R2, h => by cases h
  | f + 1, it, n, e, R, he, hv, hc, it2, R2, h => by
    have g := pItem_good (n0 := n0) hH he hv hc
    have h2 : (if (pItem T L n e R).1 = true then (if tS T L (pItem T L n e R).2.1 = 0 then .inr (it, (pItem T L n e R).2.2.2) else if tS T L (pItem T L n e R).2.1 = 3 then pText T L f (it + 1) (pItem T L n e R).2.2.1 (tE T L (pItem T L n e R).2.1) (pItem T L n e R).2.2.2 else .inl (tB T L (pItem T L n e R).2.1)) else .inl (tB T L (pItem T L n e R).2.1)) = (.inr (it2, R2) : Nat ⊕ (Nat × List Row)) := h
    by_cases h1 : (pItem T L n e R).1 = true
    · rw [if_pos h1] at h2
      obtain ⟨a, b, c, d⟩ := g h1
      by_cases h3 : tS T L (pItem T L n e R).2.1 = 0
      · rw [if_pos h3] at h2
        have h4 := Sum.inr.inj h2
        rw [← (Prod.mk.inj h4).2]
        exact a
      · rw [if_neg h3] at h2
        by_cases h5 : tS T L (pItem T L n e R).2.1 = 3
        · rw [if_pos h5] at h2
          exact pText_good hH f _ _ _ _ (tE_le d) a b it2 R2 h2
        · rw [if_neg h5] at h2
          cases h2
    · rw [if_neg h1] at h2
      cases h2
