theorem ofNat_u (y : UInt32) : y.toInt32 = nI y.toNat := by
  unfold nI
  first
    | (apply Int32.toBitVec_inj.mp; simp; done)
    | (apply Int32.toBitVec.inj; simp; done)
    | (show (⟨y⟩ : Int32) = ⟨UInt32.ofNat y.toNat⟩; rw [UInt32.ofNat_toNat]; done)
    | (ext; simp; done)
theorem ushr8_nat (x : Int32) : ∃ m, m < 16777216 ∧ ushr8 x = nI m := by
  unfold ushr8
  rw [ofNat_u]
  refine ⟨_, ?_, rfl⟩
  rw [UInt32.toNat_shiftRight]
  have h := x.toUInt32.toNat_lt
  have e : ((8 : Int32).toUInt32 &&& Int32.toUInt32 31).toNat % 32 = 8 := by decide
  rw [e, Nat.shiftRight_eq_div_pow]
  omega
theorem shl_n {n : Nat} (hn : n ≤ 8) : (1 : Int32) <<< (nI n &&& 31) = nI (2 ^ n) := by
  have h : n = 0 ∨ n = 1 ∨ n = 2 ∨ n = 3 ∨ n = 4 ∨ n = 5 ∨ n = 6 ∨ n = 7 ∨ n = 8 := by omega
  rcases h with rfl | rfl | rfl | rfl | rfl | rfl | rfl | rfl | rfl <;> decide
theorem pow_n {n : Nat} (hn : n ≤ 8) : 2 ^ n ≤ 256 := by
  have h : n = 0 ∨ n = 1 ∨ n = 2 ∨ n = 3 ∨ n = 4 ∨ n = 5 ∨ n = 6 ∨ n = 7 ∨ n = 8 := by omega
  rcases h with rfl | rfl | rfl | rfl | rfl | rfl | rfl | rfl | rfl <;> decide
theorem allCold_congr {M h : Mem} {n : Nat} (H : HR M h n) (s : Int32) : allCold M n s = allCold h n s := allB_congr n (fun r hr => by
  rw [H.f 8 (by omega) (by omega) hr]
  have e : sumN (coldBy M s (nI r)) n = sumN (coldBy h s (nI r)) n := sumN_congr n (fun q hq => by unfold coldBy; rw [H.f 5 (by omega) (by omega) hq, H.f 7 (by omega) (by omega) hq])
  rw [e])
def coldS (σ : Mem) (s : Nat) : Bool := allCold σ (nOf σ) (nI s)
def opCulprits (σ : Mem) : Int32 × Mem := (cntN (coldS σ) (2 ^ nOf σ), σ)
def surF (p : Nat → Bool) : Nat → Int32 × Int32 × Int32
  | 0 => (-1, 0, -1)
  | s + 1 => if p s = true then ((surF p s).1 &&& nI s, (surF p s).2.1 ||| nI s, if (surF p s).2.2 < 0 then nI s else (surF p s).2.2) else surF p s
def opSurely (σ : Mem) (w : Int32) : Int32 × Mem := if w < 0 then tl σ 0 else if 2 < w then tl σ 0 else if (surF (coldS σ) (2 ^ nOf σ)).2.2 < 0 then tl σ 3 else (if w = 0 then (surF (coldS σ) (2 ^ nOf σ)).1 else if w = 1 then (surF (coldS σ) (2 ^ nOf σ)).2.1 else (surF (coldS σ) (2 ^ nOf σ)).2.2, σ)
def travS (h : Mem) : Mem := ups (ups h 0 3 (drawF (h 0 3))) 6 (cut (remI (ushr8 (drawF (h 0 3))) (h 0 0))) (1 - h 6 (cut (remI (ushr8 (drawF (h 0 3))) (h 0 0))))
def travN : Nat → Mem → Mem
  | 0, h => h
  | k + 1, h => travS (travN k h)
def awayB (h : Mem) (n : Nat) : Int32 := bits (fun i => decide (h 6 i = 1)) n
def opTravel (σ : Mem) (a : Int32) : Int32 × Mem := if a < 1 then tl σ 0 else if 12 < a then tl σ 0 else if σ 0 0 = 0 then tl σ 4 else (awayB (travN (cut a) σ) (nOf σ), travN (cut a) σ)
theorem travN_n (h : Mem) (k : Nat) : travN k h 0 0 = h 0 0 := by
  induction k with
  | zero => rfl
  | succ k ih =>
    show travS (travN k h) 0 0 = _
    unfold travS
    rw [ups_cell (by decide), ups_ne (by omega)]
    exact ih
theorem travN_cell (h : Mem) (k c : Nat) (hc : 7 ≤ c) : travN k h c = h c := by
  induction k with
  | zero => rfl
  | succ k ih =>
    show travS (travN k h) c = _
    unfold travS
    rw [ups_cell (by omega), ups_cell (by omega)]
    exact ih
theorem trav_j {h : Mem} {n : Nat} (hn : h 0 0 = nI n) (h1 : 0 < n) (h8 : n ≤ 8) : ∃ j, j < n ∧ remI (ushr8 (drawF (h 0 3))) (h 0 0) = nI j := by
  obtain ⟨m, hm, e⟩ := ushr8_nat (drawF (h 0 3))
  rw [e, hn, nI_rem (by omega) h1 (by omega)]
  exact ⟨m % n, Nat.mod_lt _ h1, rfl⟩
def opSeed (σ : Mem) (v : Int32) : Int32 × Mem := (σ 0 3, ups σ 0 3 v)
def opWipe (σ : Mem) : Int32 × Mem := (σ 43 0, ups σ 43 0 0)
def opHold (σ : Mem) (s r : Int32) : Int32 × Mem := if roomB 10 s = true then (if r = -1 then (1, ups σ 10 (cut s) r) else if roomB (nOf σ) r = true then (1, ups σ 10 (cut s) r) else tl σ 0) else tl σ 0
def opAs (σ : Mem) (s w : Int32) : Int32 × Mem := if roomB 10 s = true then (if w < 0 then tl σ 0 else if 6 < w then tl σ 0 else if roomB (nOf σ) (σ 10 (cut s)) = true then (if underB (cut (σ 1 (cut (σ 10 (cut s))))) w = true then (σ 10 (cut s), σ) else tl σ 2) else tl σ 5) else tl σ 0
def imgS (σ : Mem) : Mem := fun c i => if 20 ≤ c ∧ c < 31 then σ (c - 20) i else if c = 40 ∧ i = 0 then 1 else σ c i
def opImage (σ : Mem) : Int32 × Mem := (1, imgS σ)
def unS (σ : Mem) : Mem := fun c => if c < 11 then σ (20 + c) else σ c
def opUndo (σ : Mem) : Int32 × Mem := if σ 40 0 = 0 then tl σ 3 else (σ 20 2, unS σ)
def opTear (σ : Mem) : Int32 × Mem := (if σ 40 0 = 0 then 0 else 1, ups σ 40 0 0)
def opCount (σ : Mem) (w : Int32) : Int32 × Mem := if w = 0 then (σ 0 2, σ) else if w = 1 then (σ 0 0, σ) else if w = 2 then (sumN (σ 3) (nOf σ), σ) else if w = 3 then (sumN (σ 2) (nOf σ), σ) else if w = 4 then (sumN (σ 6) (nOf σ), σ) else if w = 5 then (σ 43 0, σ) else if w = 6 then (σ 0 3, σ) else if w = 7 then (cntN (fun k => decide (0 ≤ σ 10 k)) 10, σ) else tl σ 0
def opStatus (σ : Mem) (w : Int32) : Int32 × Mem := if w < -1 then tl σ 0 else if 6 < w then tl σ 0 else if w < 0 then (sumN (σ 41) 7, σ) else (σ 41 (cut w), σ)
theorem spotI {n : Nat} {r : Int32} (hn : n ≤ 100) : (if r < 0 then (0 : Int32) else if nI n ≤ r then 0 else 1) = bI (roomB n r) := by
  unfold bI roomB
  by_cases h1 : r < 0
  · have h1' : r.toInt < 0 := i32_lt.mp h1
    rw [if_pos h1, if_neg (by rw [decide_eq_true_iff]; omega)]
  · have h1' : ¬ r.toInt < 0 := fun z => h1 (i32_lt.mpr z)
    rw [if_neg h1]
    by_cases h2 : nI n ≤ r
    · rw [if_pos h2]
      rw [i32_le, nI_toI (by omega)] at h2
      rw [if_neg (by rw [decide_eq_true_iff]; omega)]
    · rw [if_neg h2]
      rw [i32_le, nI_toI (by omega)] at h2
      rw [if_pos (by rw [decide_eq_true_iff]; omega)]
/-- the class's other cells -/
theorem RC.other {M M2 σ σ2 : Mem} (hR : RC M σ) (hm : ∀ c, 1 ≤ c → c < 45 → M2 c = M c) (hs : ∀ c, c < 31 → σ2 c = σ c) (h4 : M2 0 4 = σ2 40 0) (h60 : ∀ i, i < 7 → M2 60 i = σ2 41 i) (h47 : ∀ i, i < 120 → M2 47 i = σ2 42 i) (h46 : M2 46 1 = σ2 43 0)
    (hsh : ∀ s, s < 4 → M2 (61 + 2 * s) 0 = σ2 44 s ∧ M2 (61 + 2 * s) 1 = σ2 45 s ∧ ∀ i, i < 40 → M2 (62 + 2 * s) i = σ2 (46 + s) i) : RC M2 σ2 := by
  have hn : nOf σ2 = nOf σ := by unfold nOf; rw [hs 0 (by omega)]
  have hk : ∀ j, j < 11 → keptH σ2 j = keptH σ j := fun j hj => hs (20 + j) (by omega)
  have hnk : nOf (keptH σ2) = nOf (keptH σ) := by unfold nOf; rw [hk 0 (by omega)]
  refine ⟨?_, ?_, h4, h60, h47, h46, hsh⟩
  · rw [hn]
    exact (HR.ofEq (fun j hj => hm (1 + j) (by omega) (by omega)) hR.1).tr (HR.ofEq (fun j hj => (hs j (by omega)).symm) (HR.rf _ _))
  · rw [hnk]
    exact (HR.ofEq (fun j hj => hm (34 + j) (by omega) (by omega)) hR.2.1).tr (HR.ofEq (fun j hj => (hk j hj).symm) (HR.rf _ _))
set_option maxRecDepth 20000 in
theorem cl_isSpot {M : Mem} {x : Int32} {Q : Option Value → Mem → Prop} (hQ : Q (some (.int (bI (roomB 10 x)))) M) : CT mX4_isSpot shC 0 [.int x] M Q := by
  refine CT.mk [some (.int x)] (by decide) (Nat.le_of_ble_eq_true rfl) rfl rfl ?_
  refine G_iload_n (K := mX4_isSpot) (i := 0) dX4_isSpot_0 rfl rfl ?_
  refine G_if_lt (K := mX4_isSpot) (tgt := 14) dX4_isSpot_1 (by decide) (fun c1 => ?_) (fun c1 => ?_)
  · skip
    refine G_iconst (K := mX4_isSpot) (v := 0) dX4_isSpot_14 (by decide) ?_
    exact G_zrm (K := mX4_isSpot) dX4_isSpot_15 rfl rfl (by rw [← spotI (by omega)]; first | exact (if_pos c1).symm | exact ((if_neg c1).trans (if_pos c7)).symm | exact ((if_neg c1).trans (if_neg c7)).symm) (by rfl) hQ
  · skip
    refine G_iload_n (K := mX4_isSpot) (i := 0) dX4_isSpot_4 rfl rfl ?_
    refine G_bipush (K := mX4_isSpot) (v := 10) dX4_isSpot_5 (by decide) ?_
    refine G_icmp_ge (K := mX4_isSpot) (tgt := 14) dX4_isSpot_7 (by decide) (fun c7 => ?_) (fun c7 => ?_)
    · skip
      refine G_iconst (K := mX4_isSpot) (v := 0) dX4_isSpot_14 (by decide) ?_
      exact G_zrm (K := mX4_isSpot) dX4_isSpot_15 rfl rfl (by rw [← spotI (by omega)]; first | exact (if_pos c1).symm | exact ((if_neg c1).trans (if_pos c7)).symm | exact ((if_neg c1).trans (if_neg c7)).symm) (by rfl) hQ
    · skip
      refine G_iconst (K := mX4_isSpot) (v := 1) dX4_isSpot_10 (by decide) ?_
      refine G_goto (K := mX4_isSpot) (tgt := 15) dX4_isSpot_11 (by decide) ?_
      exact G_zrm (K := mX4_isSpot) dX4_isSpot_15 rfl rfl (by rw [← spotI (by omega)]; first | exact (if_pos c1).symm | exact ((if_neg c1).trans (if_pos c7)).symm | exact ((if_neg c1).trans (if_neg c7)).symm) (by rfl) hQ

set_option maxRecDepth 20000 in
theorem cl_isSheet {M : Mem} {x : Int32} {Q : Option Value → Mem → Prop} (hQ : Q (some (.int (bI (roomB 4 x)))) M) : CT mX4_isSheet shC 0 [.int x] M Q := by
  refine CT.mk [some (.int x)] (by decide) (Nat.le_of_ble_eq_true rfl) rfl rfl ?_
  refine G_iload_n (K := mX4_isSheet) (i := 0) dX4_isSheet_0 rfl rfl ?_
  refine G_if_lt (K := mX4_isSheet) (tgt := 13) dX4_isSheet_1 (by decide) (fun c1 => ?_) (fun c1 => ?_)
  · skip
    refine G_iconst (K := mX4_isSheet) (v := 0) dX4_isSheet_13 (by decide) ?_
    exact G_zrm (K := mX4_isSheet) dX4_isSheet_14 rfl rfl (by rw [← spotI (by omega)]; first | exact (if_pos c1).symm | exact ((if_neg c1).trans (if_pos c6)).symm | exact ((if_neg c1).trans (if_neg c6)).symm) (by rfl) hQ
  · skip
    refine G_iload_n (K := mX4_isSheet) (i := 0) dX4_isSheet_4 rfl rfl ?_
    refine G_iconst (K := mX4_isSheet) (v := 4) dX4_isSheet_5 (by decide) ?_
    refine G_icmp_ge (K := mX4_isSheet) (tgt := 13) dX4_isSheet_6 (by decide) (fun c6 => ?_) (fun c6 => ?_)
    · skip
      refine G_iconst (K := mX4_isSheet) (v := 0) dX4_isSheet_13 (by decide) ?_
      exact G_zrm (K := mX4_isSheet) dX4_isSheet_14 rfl rfl (by rw [← spotI (by omega)]; first | exact (if_pos c1).symm | exact ((if_neg c1).trans (if_pos c6)).symm | exact ((if_neg c1).trans (if_neg c6)).symm) (by rfl) hQ
    · skip
      refine G_iconst (K := mX4_isSheet) (v := 1) dX4_isSheet_9 (by decide) ?_
      refine G_goto (K := mX4_isSheet) (tgt := 14) dX4_isSheet_10 (by decide) ?_
      exact G_zrm (K := mX4_isSheet) dX4_isSheet_14 rfl rfl (by rw [← spotI (by omega)]; first | exact (if_pos c1).symm | exact ((if_neg c1).trans (if_pos c6)).symm | exact ((if_neg c1).trans (if_neg c6)).symm) (by rfl) hQ

set_option maxRecDepth 20000 in
theorem cl_culprits {M σ : Mem}  (hR : RC M σ) (hI : Inv σ) {Q : Option Value → Mem → Prop} (hQ : ∀ u' M', PostC (opCulprits σ) u' M' → Q u' M') : CT mX4_culprits shC 8 [.ref 0] M Q := by
  refine CT.mk [some (.ref 0), none, none] (by decide) (Nat.le_of_ble_eq_true rfl) rfl rfl ?_
  have hn8 := hI.n8
  have hp := pow_n hn8
  refine G_iconst (K := mX4_culprits) (v := 0) dX4_culprits_0 (by decide) ?_
  refine G_istore_n (K := mX4_culprits) (i := 1) dX4_culprits_1 rfl (by decide) ?_
  refine G_iconst (K := mX4_culprits) (v := 0) dX4_culprits_2 (by decide) ?_
  refine G_istore_n (K := mX4_culprits) (i := 2) dX4_culprits_3 rfl (by decide) ?_
  have loop4 : ∀ i, i ≤ 2 ^ nOf σ → ∀ s, s = cntN (coldS σ) i → G mX4_culprits shC 8 Q 4 [some (.ref 0), some (.int s), some (.int (nI i))] [] M := by
    refine upto (2 ^ nOf σ) (fun i hi ih => ?_)
    intro s hs2
    refine G_iload_n (K := mX4_culprits) (i := 2) dX4_culprits_4 rfl rfl ?_
    refine G_iconst (K := mX4_culprits) (v := 1) dX4_culprits_5 (by decide) ?_
    refine G_aload_n (K := mX4_culprits) (i := 0) dX4_culprits_6 rfl rfl ?_
    refine G_getr (K := mX4_culprits) fX4_12 dX4_culprits_7 rfl rfl ?_
    refine G_geti (K := mX4_culprits) fX4_57 dX4_culprits_10 rfl rfl ?_
    rw [hR.n, hI.nI]
    refine G_ishl (K := mX4_culprits) dX4_culprits_13 ?_
    rw [shl_n hn8]
    refine G_icmp_ge (K := mX4_culprits) (tgt := 37) dX4_culprits_14 (by decide) (fun c14 => ?_) (fun c14 => ?_)
    · skip
      rw [le_nn (by omega) (by omega)] at c14
      have hin : i = 2 ^ nOf σ := by omega
      refine G_iload_n (K := mX4_culprits) (i := 1) dX4_culprits_37 rfl rfl ?_
      exact G_iret (st := []) (K := mX4_culprits) dX4_culprits_38 rfl (hQ _ _ ⟨by rw [hs2, hin]; rfl, hR⟩)
    · skip
      rw [le_nn (by omega) (by omega)] at c14
      have hin : i < 2 ^ nOf σ := by omega
      refine G_aload_n (K := mX4_culprits) (i := 0) dX4_culprits_17 rfl rfl ?_
      refine G_getr (K := mX4_culprits) fX4_12 dX4_culprits_18 rfl rfl ?_
      refine G_iload_n (K := mX4_culprits) (i := 2) dX4_culprits_21 rfl rfl ?_
      refine G_hp (K := mX4_culprits) (b := 1) (by unfold isH; omega) (c_X0_gotAsIfColdBy (M := hof M 1) (set := nI i) (n := nOf σ) (hR.nI hI) hI.n8 ⟨rfl, rfl⟩) vX0_gotAsIfColdBy rfl lX4_198 dX4_culprits_22 rfl (by decide) rfl (Nat.le_of_ble_eq_true rfl) ?_
      rw [allCold_congr hR.1]
      refine G_if_eq (K := mX4_culprits) (tgt := 31) dX4_culprits_25 (by decide) (fun c25 => ?_) (fun c25 => ?_)
      · skip
        refine G_iincN (K := mX4_culprits) dX4_culprits_31 (by decide) rfl ?_
        refine G_goto (K := mX4_culprits) (tgt := 4) dX4_culprits_34 (by decide) ?_
        refine ih (i + 1) (by omega) (by omega) _ ?_
        first
          | (rw [hs2, cntN_t (show coldS σ i = true from bI_1 c25)]; done)
          | exact hs2.trans (cntN_f (by rw [show coldS σ i = false from bI_0 c25]; decide)).symm
      · skip
        refine G_iinc (K := mX4_culprits) (v := s + 1) dX4_culprits_28 (by decide) rfl rfl ?_
        refine G_iincN (K := mX4_culprits) dX4_culprits_31 (by decide) rfl ?_
        refine G_goto (K := mX4_culprits) (tgt := 4) dX4_culprits_34 (by decide) ?_
        refine ih (i + 1) (by omega) (by omega) _ ?_
        first
          | (rw [hs2, cntN_t (show coldS σ i = true from bI_1 c25)]; done)
          | exact hs2.trans (cntN_f (by rw [show coldS σ i = false from bI_0 c25]; decide)).symm
  exact loop4 0 (Nat.zero_le _) _ rfl

set_option maxRecDepth 20000 in
theorem cl_surely {M σ : Mem} {w : Int32} (hR : RC M σ) (hI : Inv σ) {Q : Option Value → Mem → Prop} (hQ : ∀ u' M', PostC (opSurely σ w) u' M' → Q u' M') : CT mX4_surely shC 8 [.ref 0, .int w] M Q := by
  refine CT.mk [some (.ref 0), some (.int w), none, none, none, none] (by decide) (Nat.le_of_ble_eq_true rfl) rfl rfl ?_
  have hn8 := hI.n8
  have hp := pow_n hn8
  refine G_iload_n (K := mX4_surely) (i := 1) dX4_surely_0 rfl rfl ?_
  refine G_if_lt (K := mX4_surely) (tgt := 9) dX4_surely_1 (by decide) (fun c1 => ?_) (fun c1 => ?_)
  · skip
    refine G_aload_n (K := mX4_surely) (i := 0) dX4_surely_9 rfl rfl ?_
    refine G_ldc (K := mX4_surely) dX4_surely_10 kX4_52 ?_
    refine G_call0 (K := mX4_surely) (Q' := PostC (tl σ 0)) (cl_tell hR (k := 0) (by omega) (fun _ _ h => h)) vX4_tell rfl lX4_53 ⟨_, _, _, rfl, rfl, rfl⟩ (by decide) (Nat.le_of_ble_eq_true rfl) dX4_surely_12 rfl ?_
    rintro v M1 ⟨rfl, hR1⟩
    exact G_iret (st := []) (K := mX4_surely) dX4_surely_15 rfl (hQ _ _ (by rw [show opSurely σ w = _ from (by unfold opSurely; first | exact if_pos c1 | exact (if_neg c1).trans (if_pos (Int32.not_le.mp c6)))]; exact ⟨rfl, hR1⟩))
  · skip
    refine G_iload_n (K := mX4_surely) (i := 1) dX4_surely_4 rfl rfl ?_
    refine G_iconst (K := mX4_surely) (v := 2) dX4_surely_5 (by decide) ?_
    refine G_icmp_le (K := mX4_surely) (tgt := 16) dX4_surely_6 (by decide) (fun c6 => ?_) (fun c6 => ?_)
    · skip
      refine G_iconst (K := mX4_surely) (v := -1) dX4_surely_16 (by decide) ?_
      refine G_istore_n (K := mX4_surely) (i := 2) dX4_surely_17 rfl (by decide) ?_
      refine G_iconst (K := mX4_surely) (v := 0) dX4_surely_18 (by decide) ?_
      refine G_istore_n (K := mX4_surely) (i := 3) dX4_surely_19 rfl (by decide) ?_
      refine G_iconst (K := mX4_surely) (v := -1) dX4_surely_20 (by decide) ?_
      refine G_istore (K := mX4_surely) dX4_surely_21 (by decide) ?_
      refine G_iconst (K := mX4_surely) (v := 0) dX4_surely_23 (by decide) ?_
      refine G_istore (K := mX4_surely) dX4_surely_24 (by decide) ?_
      have loop26 : ∀ i, i ≤ 2 ^ nOf σ → ∀ s t u, (s, t, u) = surF (coldS σ) i → G mX4_surely shC 8 Q 26 [some (.ref 0), some (.int w), some (.int s), some (.int t), some (.int u), some (.int (nI i))] [] M := by
        refine upto (2 ^ nOf σ) (fun i hi ih => ?_)
        intro s t u hst
        refine G_iload (K := mX4_surely) dX4_surely_26 rfl ?_
        refine G_iconst (K := mX4_surely) (v := 1) dX4_surely_28 (by decide) ?_
        refine G_aload_n (K := mX4_surely) (i := 0) dX4_surely_29 rfl rfl ?_
        refine G_getr (K := mX4_surely) fX4_12 dX4_surely_30 rfl rfl ?_
        refine G_geti (K := mX4_surely) fX4_57 dX4_surely_33 rfl rfl ?_
        rw [hR.n, hI.nI]
        refine G_ishl (K := mX4_surely) dX4_surely_36 ?_
        rw [shl_n hn8]
        refine G_icmp_ge (K := mX4_surely) (tgt := 82) dX4_surely_37 (by decide) (fun c37 => ?_) (fun c37 => ?_)
        · skip
          rw [le_nn (by omega) (by omega)] at c37
          have hin : i = 2 ^ nOf σ := by omega
          rw [hin] at hst
          refine G_iload (K := mX4_surely) dX4_surely_82 rfl ?_
          refine G_if_ge (K := mX4_surely) (tgt := 94) dX4_surely_84 (by decide) (fun c84 => ?_) (fun c84 => ?_)
          · skip
            refine G_iload_n (K := mX4_surely) (i := 1) dX4_surely_94 rfl rfl ?_
            refine G_if_ne (K := mX4_surely) (tgt := 102) dX4_surely_95 (by decide) (fun c95 => ?_) (fun c95 => ?_)
            · skip
              refine G_iload_n (K := mX4_surely) (i := 1) dX4_surely_102 rfl rfl ?_
              refine G_iconst (K := mX4_surely) (v := 1) dX4_surely_103 (by decide) ?_
              refine G_icmp_ne (K := mX4_surely) (tgt := 111) dX4_surely_104 (by decide) (fun c104 => ?_) (fun c104 => ?_)
              · skip
                refine G_iload (K := mX4_surely) dX4_surely_111 rfl ?_
                exact G_iret (st := []) (K := mX4_surely) dX4_surely_113 rfl (hQ _ _ (by rw [show opSurely σ w = _ from (if_neg c1).trans ((if_neg (Int32.not_lt.mpr c6)).trans (if_neg (by rw [← hst]; exact Int32.not_lt.mpr c84))), ← hst]; exact ⟨congrArg (fun z => some (Value.int z)) (by first | exact (if_pos c95).symm | exact ((if_neg c95).trans (if_pos c104)).symm | exact ((if_neg c95).trans (if_neg c104)).symm), hR⟩))
              · skip
                refine G_iload_n (K := mX4_surely) (i := 3) dX4_surely_107 rfl rfl ?_
                refine G_goto (K := mX4_surely) (tgt := 113) dX4_surely_108 (by decide) ?_
                exact G_iret (st := []) (K := mX4_surely) dX4_surely_113 rfl (hQ _ _ (by rw [show opSurely σ w = _ from (if_neg c1).trans ((if_neg (Int32.not_lt.mpr c6)).trans (if_neg (by rw [← hst]; exact Int32.not_lt.mpr c84))), ← hst]; exact ⟨congrArg (fun z => some (Value.int z)) (by first | exact (if_pos c95).symm | exact ((if_neg c95).trans (if_pos c104)).symm | exact ((if_neg c95).trans (if_neg c104)).symm), hR⟩))
            · skip
              refine G_iload_n (K := mX4_surely) (i := 2) dX4_surely_98 rfl rfl ?_
              refine G_goto (K := mX4_surely) (tgt := 113) dX4_surely_99 (by decide) ?_
              exact G_iret (st := []) (K := mX4_surely) dX4_surely_113 rfl (hQ _ _ (by rw [show opSurely σ w = _ from (if_neg c1).trans ((if_neg (Int32.not_lt.mpr c6)).trans (if_neg (by rw [← hst]; exact Int32.not_lt.mpr c84))), ← hst]; exact ⟨congrArg (fun z => some (Value.int z)) (by first | exact (if_pos c95).symm | exact ((if_neg c95).trans (if_pos c104)).symm | exact ((if_neg c95).trans (if_neg c104)).symm), hR⟩))
          · skip
            refine G_aload_n (K := mX4_surely) (i := 0) dX4_surely_87 rfl rfl ?_
            refine G_ldc (K := mX4_surely) dX4_surely_88 kX4_137 ?_
            refine G_call0 (K := mX4_surely) (Q' := PostC (tl σ 3)) (cl_tell hR (k := 3) (by omega) (fun _ _ h => h)) vX4_tell rfl lX4_53 ⟨_, _, _, rfl, rfl, rfl⟩ (by decide) (Nat.le_of_ble_eq_true rfl) dX4_surely_90 rfl ?_
            rintro v M1 ⟨rfl, hR1⟩
            exact G_iret (st := []) (K := mX4_surely) dX4_surely_93 rfl (hQ _ _ (by rw [show opSurely σ w = _ from (if_neg c1).trans ((if_neg (Int32.not_lt.mpr c6)).trans (if_pos (by rw [← hst]; exact Int32.not_le.mp c84)))]; exact ⟨rfl, hR1⟩))
        · skip
          rw [le_nn (by omega) (by omega)] at c37
          have hin : i < 2 ^ nOf σ := by omega
          refine G_aload_n (K := mX4_surely) (i := 0) dX4_surely_40 rfl rfl ?_
          refine G_getr (K := mX4_surely) fX4_12 dX4_surely_41 rfl rfl ?_
          refine G_iload (K := mX4_surely) dX4_surely_44 rfl ?_
          refine G_hp (K := mX4_surely) (b := 1) (by unfold isH; omega) (c_X0_gotAsIfColdBy (M := hof M 1) (set := nI i) (n := nOf σ) (hR.nI hI) hI.n8 ⟨rfl, rfl⟩) vX0_gotAsIfColdBy rfl lX4_198 dX4_surely_46 rfl (by decide) rfl (Nat.le_of_ble_eq_true rfl) ?_
          rw [allCold_congr hR.1]
          refine G_if_eq (K := mX4_surely) (tgt := 76) dX4_surely_49 (by decide) (fun c49 => ?_) (fun c49 => ?_)
          · skip
            refine G_iincN (K := mX4_surely) dX4_surely_76 (by decide) rfl ?_
            refine G_goto (K := mX4_surely) (tgt := 26) dX4_surely_79 (by decide) ?_
            refine ih (i + 1) (by omega) (by omega) _ _ _ ?_
            show _ = if coldS σ i = true then _ else _
            rw [if_neg (by rw [show coldS σ i = false from bI_0 c49]; decide)]; exact hst
          · skip
            refine G_iload_n (K := mX4_surely) (i := 2) dX4_surely_52 rfl rfl ?_
            refine G_iload (K := mX4_surely) dX4_surely_53 rfl ?_
            refine G_iand (K := mX4_surely) dX4_surely_55 ?_
            refine G_istore_n (K := mX4_surely) (i := 2) dX4_surely_56 rfl (by decide) ?_
            refine G_iload_n (K := mX4_surely) (i := 3) dX4_surely_57 rfl rfl ?_
            refine G_iload (K := mX4_surely) dX4_surely_58 rfl ?_
            refine G_ior (K := mX4_surely) dX4_surely_60 ?_
            refine G_istore_n (K := mX4_surely) (i := 3) dX4_surely_61 rfl (by decide) ?_
            refine G_iload (K := mX4_surely) dX4_surely_62 rfl ?_
            refine G_if_ge (K := mX4_surely) (tgt := 72) dX4_surely_64 (by decide) (fun c64 => ?_) (fun c64 => ?_)
            · skip
              refine G_iload (K := mX4_surely) dX4_surely_72 rfl ?_
              refine G_istore (K := mX4_surely) dX4_surely_74 (by decide) ?_
              refine G_iincN (K := mX4_surely) dX4_surely_76 (by decide) rfl ?_
              refine G_goto (K := mX4_surely) (tgt := 26) dX4_surely_79 (by decide) ?_
              refine ih (i + 1) (by omega) (by omega) _ _ _ ?_
              show _ = if coldS σ i = true then _ else _
              rw [if_pos (show coldS σ i = true from bI_1 c49), ← hst, if_neg (Int32.not_lt.mpr c64)]
            · skip
              refine G_iload (K := mX4_surely) dX4_surely_67 rfl ?_
              refine G_goto (K := mX4_surely) (tgt := 74) dX4_surely_69 (by decide) ?_
              refine G_istore (K := mX4_surely) dX4_surely_74 (by decide) ?_
              refine G_iincN (K := mX4_surely) dX4_surely_76 (by decide) rfl ?_
              refine G_goto (K := mX4_surely) (tgt := 26) dX4_surely_79 (by decide) ?_
              refine ih (i + 1) (by omega) (by omega) _ _ _ ?_
              show _ = if coldS σ i = true then _ else _
              rw [if_pos (show coldS σ i = true from bI_1 c49), ← hst, if_pos (Int32.not_le.mp c64)]
      exact loop26 0 (Nat.zero_le _) _ _ _ rfl
    · skip
      refine G_aload_n (K := mX4_surely) (i := 0) dX4_surely_9 rfl rfl ?_
      refine G_ldc (K := mX4_surely) dX4_surely_10 kX4_52 ?_
      refine G_call0 (K := mX4_surely) (Q' := PostC (tl σ 0)) (cl_tell hR (k := 0) (by omega) (fun _ _ h => h)) vX4_tell rfl lX4_53 ⟨_, _, _, rfl, rfl, rfl⟩ (by decide) (Nat.le_of_ble_eq_true rfl) dX4_surely_12 rfl ?_
      rintro v M1 ⟨rfl, hR1⟩
      exact G_iret (st := []) (K := mX4_surely) dX4_surely_15 rfl (hQ _ _ (by rw [show opSurely σ w = _ from (by unfold opSurely; first | exact if_pos c1 | exact (if_neg c1).trans (if_pos (Int32.not_le.mp c6)))]; exact ⟨rfl, hR1⟩))

theorem HR.trav {M h : Mem} {n : Nat} (H : HR M h n) (hn : h 0 0 = nI n) (h1 : 0 < n) (h8 : n ≤ 8) : HR (travS M) (travS h) n := by
  obtain ⟨j, hj, ej⟩ := trav_j hn h1 h8
  unfold travS
  rw [H.1 3 (by omega), H.1 0 (by omega), ej, cut_nI (by omega), H.f 6 (by omega) (by omega) hj]
  exact (HR.out H).upd1 (by omega) (by omega)
set_option maxRecDepth 20000 in
theorem cl_travel {M σ : Mem} {a : Int32} (hR : RC M σ) (hI : Inv σ) {Q : Option Value → Mem → Prop} (hQ : ∀ u' M', PostC (opTravel σ a) u' M' → Q u' M') : CT mX4_travel shC 8 [.ref 0, .int a] M Q := by
  refine CT.mk [some (.ref 0), some (.int a), none, none] (by decide) (Nat.le_of_ble_eq_true rfl) rfl rfl ?_
  have hn8 := hI.n8
  refine G_iload_n (K := mX4_travel) (i := 1) dX4_travel_0 rfl rfl ?_
  refine G_iconst (K := mX4_travel) (v := 1) dX4_travel_1 (by decide) ?_
  refine G_icmp_lt (K := mX4_travel) (tgt := 11) dX4_travel_2 (by decide) (fun c2 => ?_) (fun c2 => ?_)
  · skip
    refine G_aload_n (K := mX4_travel) (i := 0) dX4_travel_11 rfl rfl ?_
    refine G_ldc (K := mX4_travel) dX4_travel_12 kX4_52 ?_
    refine G_call0 (K := mX4_travel) (Q' := PostC (tl σ 0)) (cl_tell hR (k := 0) (by omega) (fun _ _ h => h)) vX4_tell rfl lX4_53 ⟨_, _, _, rfl, rfl, rfl⟩ (by decide) (Nat.le_of_ble_eq_true rfl) dX4_travel_14 rfl ?_
    rintro v M1 ⟨rfl, hR1⟩
    exact G_iret (st := []) (K := mX4_travel) dX4_travel_17 rfl (hQ _ _ (by rw [show opTravel σ a = _ from (by unfold opTravel; first | exact if_pos c2 | exact (if_neg c2).trans (if_pos (Int32.not_le.mp c8)))]; exact ⟨rfl, hR1⟩))
  · skip
    refine G_iload_n (K := mX4_travel) (i := 1) dX4_travel_5 rfl rfl ?_
    refine G_bipush (K := mX4_travel) (v := 12) dX4_travel_6 (by decide) ?_
    refine G_icmp_le (K := mX4_travel) (tgt := 18) dX4_travel_8 (by decide) (fun c8 => ?_) (fun c8 => ?_)
    · skip
      refine G_aload_n (K := mX4_travel) (i := 0) dX4_travel_18 rfl rfl ?_
      refine G_getr (K := mX4_travel) fX4_12 dX4_travel_19 rfl rfl ?_
      refine G_geti (K := mX4_travel) fX4_57 dX4_travel_22 rfl rfl ?_
      rw [hR.n]
      refine G_if_ne (K := mX4_travel) (tgt := 35) dX4_travel_25 (by decide) (fun c25 => ?_) (fun c25 => ?_)
      · skip
        have hn0 : 0 < nOf σ := by
          rcases Nat.eq_zero_or_pos (nOf σ) with h | h
          · exact absurd (by rw [hI.nI, h]; rfl) c25
          · exact h
        obtain ⟨k, hk2, rfl⟩ := nat_of (a := a) (fun z => c2 (by rw [i32_lt] at z ⊢; have z2 : a.toInt < 0 := z; show a.toInt < 1; omega))
        have hk12 : k ≤ 12 := (le_nn (n := k) (i := 12) (by omega) (by omega)).mp c8
        refine G_iconst (K := mX4_travel) (v := 0) dX4_travel_35 (by decide) ?_
        refine G_istore_n (K := mX4_travel) (i := 2) dX4_travel_36 rfl (by decide) ?_
        have loop37 : ∀ i, i ≤ k → ∀ M1, RC M1 (travN i σ) → HR (hof M1 1) (travN i σ) (nOf σ) → ∀ y, G mX4_travel shC 8 Q 37 [some (.ref 0), some (.int (nI k)), some (.int (nI i)), y] [] M1 := by
          refine upto k (fun i hi ih => ?_)
          intro M1 hRi hT y
          refine G_iload_n (K := mX4_travel) (i := 2) dX4_travel_37 rfl rfl ?_
          refine G_iload_n (K := mX4_travel) (i := 1) dX4_travel_38 rfl rfl ?_
          refine G_icmp_ge (K := mX4_travel) (tgt := 84) dX4_travel_39 (by decide) (fun c39 => ?_) (fun c39 => ?_)
          · skip
            rw [le_nn (by omega) (by omega)] at c39
            have hin : i = k := by omega
            refine G_aload_n (K := mX4_travel) (i := 0) dX4_travel_84 rfl rfl ?_
            refine G_getr (K := mX4_travel) fX4_12 dX4_travel_85 rfl rfl ?_
            refine G_hp (K := mX4_travel) (b := 1) (by unfold isH; omega) (c_X0_awayRooms (M := hof M1 1) (n := nOf σ) (hT.1 0 (by omega) |>.trans ((travN_n σ i).trans hI.nI)) hI.n8 ⟨rfl, rfl⟩) vX0_awayRooms rfl lX4_207 dX4_travel_88 rfl (by decide) rfl (Nat.le_of_ble_eq_true rfl) ?_
            exact G_iret (st := []) (K := mX4_travel) dX4_travel_91 rfl (hQ _ _ (by rw [show opTravel σ (nI k) = _ from (if_neg c2).trans ((if_neg (Int32.not_lt.mpr c8)).trans (if_neg c25)), cut_nI hk2, ← hin]; exact ⟨congrArg (fun z => some (Value.int z)) (bits_congr _ (fun q hq => by have e := hT.f 6 (by omega) (by omega) hq; rw [e])), hRi⟩))
          · skip
            rw [le_nn (by omega) (by omega)] at c39
            have hin : i < k := by omega
            refine G_aload_n (K := mX4_travel) (i := 0) dX4_travel_42 rfl rfl ?_
            refine G_getr (K := mX4_travel) fX4_12 dX4_travel_43 rfl rfl ?_
            refine G_hv (K := mX4_travel) (b := 1) (by unfold isH; omega) (c_X0_draw (M := hof M1 1) ⟨rfl, rfl⟩) vX0_draw rfl lX4_201 dX4_travel_46 rfl (by decide) rfl (Nat.le_of_ble_eq_true rfl) ?_
            refine G_aload_n (K := mX4_travel) (i := 0) dX4_travel_49 rfl rfl ?_
            refine G_getr (K := mX4_travel) fX4_12 dX4_travel_50 rfl rfl ?_
            refine G_geti (K := mX4_travel) fX4_57 dX4_travel_53 rfl rfl ?_
            have e10 : hput M1 1 (ups (hof M1 1) 0 3 (drawF (hof M1 1 0 3))) 1 0 = travN i σ 0 0 := (congrFun (hput_in (M := M1) (b := 1) (j := 0) (by omega)) 0).trans ((ups_ne (by omega)).trans (hT.1 0 (by omega)))
            have e03 : hof M1 1 0 3 = travN i σ 0 3 := hT.1 3 (by omega)
            rw [e10, e03]
            refine G_irem (K := mX4_travel) dX4_travel_56 (fun z => nI_z (by omega) hn0 (hI.nI.symm.trans ((travN_n σ i).symm.trans z))) ?_
            obtain ⟨j, hj, ej⟩ := trav_j (h := travN i σ) ((travN_n σ i).trans hI.nI) hn0 hn8
            rw [show ushr8 (drawF (travN i σ 0 3)) - ushr8 (drawF (travN i σ 0 3)) / travN i σ 0 0 * travN i σ 0 0 = nI j from ej]
            refine G_istore_n (K := mX4_travel) (i := 3) dX4_travel_57 rfl (by decide) ?_
            refine G_aload_n (K := mX4_travel) (i := 0) dX4_travel_58 rfl rfl ?_
            refine G_getr (K := mX4_travel) fX4_12 dX4_travel_59 rfl rfl ?_
            refine G_getr (K := mX4_travel) fX4_204 dX4_travel_62 rfl rfl ?_
            refine G_iload_n (K := mX4_travel) (i := 3) dX4_travel_65 rfl rfl ?_
            refine G_iconst (K := mX4_travel) (v := 1) dX4_travel_66 (by decide) ?_
            refine G_aload_n (K := mX4_travel) (i := 0) dX4_travel_67 rfl rfl ?_
            refine G_getr (K := mX4_travel) fX4_12 dX4_travel_68 rfl rfl ?_
            refine G_getr (K := mX4_travel) fX4_204 dX4_travel_71 rfl rfl ?_
            refine G_iload_n (K := mX4_travel) (i := 3) dX4_travel_74 rfl rfl ?_
            refine G_ld (K := mX4_travel) j dX4_travel_75 rfl rfl (by omega) (by decide) ?_
            refine G_isub (K := mX4_travel) dX4_travel_76 ?_
            refine G_sto (K := mX4_travel) j dX4_travel_77 rfl rfl (by omega) (by decide) ?_
            refine G_iincN (K := mX4_travel) dX4_travel_78 (by decide) rfl ?_
            refine G_goto (K := mX4_travel) (tgt := 37) dX4_travel_81 (by decide) ?_
            have hnT : nOf (travN (i + 1) σ) = nOf σ := by unfold nOf; rw [travN_n]
            have eM : ups (hput M1 1 (ups (hof M1 1) 0 3 (drawF (travN i σ 0 3)))) 7 j (1 - hput M1 1 (ups (hof M1 1) 0 3 (drawF (travN i σ 0 3))) 7 j) = hput M1 1 (travS (hof M1 1)) := by
              have e7 : hput M1 1 (ups (hof M1 1) 0 3 (drawF (travN i σ 0 3))) 7 j = hof M1 1 6 j := (congrFun (hput_in (M := M1) (b := 1) (j := 6) (by omega)) j).trans (congrFun (ups_cell (by decide)) j)
              have e00 : hof M1 1 0 0 = travN i σ 0 0 := hT.1 0 (by omega)
              rw [e7, show (7 : Nat) = 1 + 6 from rfl, hput_ups (by omega)]
              unfold travS
              rw [e03, e00, ej, cut_nI (by omega)]
            have hT2 := HR.trav hT ((travN_n σ i).trans hI.nI) hn0 hn8
            rw [eM]
            exact ih (i + 1) (by omega) (by omega) _ (hRi.house (σ' := travN (i + 1) σ) (fun c hc => (travN_cell σ (i + 1) c (by omega)).trans (travN_cell σ i c (by omega)).symm) (by rw [hnT]; exact hT2)) (HR.hp hT2) _
        exact loop37 0 (by omega) _ hR hR.1 _
      · skip
        refine G_aload_n (K := mX4_travel) (i := 0) dX4_travel_28 rfl rfl ?_
        refine G_ldc (K := mX4_travel) dX4_travel_29 kX4_119 ?_
        refine G_call0 (K := mX4_travel) (Q' := PostC (tl σ 4)) (cl_tell hR (k := 4) (by omega) (fun _ _ h => h)) vX4_tell rfl lX4_53 ⟨_, _, _, rfl, rfl, rfl⟩ (by decide) (Nat.le_of_ble_eq_true rfl) dX4_travel_31 rfl ?_
        rintro v M1 ⟨rfl, hR1⟩
        exact G_iret (st := []) (K := mX4_travel) dX4_travel_34 rfl (hQ _ _ (by rw [show opTravel σ a = _ from (by unfold opTravel; exact (if_neg c2).trans ((if_neg (Int32.not_lt.mpr c8)).trans (if_pos c25)))]; exact ⟨rfl, hR1⟩))
    · skip
      refine G_aload_n (K := mX4_travel) (i := 0) dX4_travel_11 rfl rfl ?_
      refine G_ldc (K := mX4_travel) dX4_travel_12 kX4_52 ?_
      refine G_call0 (K := mX4_travel) (Q' := PostC (tl σ 0)) (cl_tell hR (k := 0) (by omega) (fun _ _ h => h)) vX4_tell rfl lX4_53 ⟨_, _, _, rfl, rfl, rfl⟩ (by decide) (Nat.le_of_ble_eq_true rfl) dX4_travel_14 rfl ?_
      rintro v M1 ⟨rfl, hR1⟩
      exact G_iret (st := []) (K := mX4_travel) dX4_travel_17 rfl (hQ _ _ (by rw [show opTravel σ a = _ from (by unfold opTravel; first | exact if_pos c2 | exact (if_neg c2).trans (if_pos (Int32.not_le.mp c8)))]; exact ⟨rfl, hR1⟩))

set_option maxRecDepth 20000 in
theorem cl_seed {M σ : Mem} {v : Int32} (hR : RC M σ) (hI : Inv σ) {Q : Option Value → Mem → Prop} (hQ : ∀ u' M', PostC (opSeed σ v) u' M' → Q u' M') : CT mX4_seed shC 8 [.ref 0, .int v] M Q := by
  refine CT.mk [some (.ref 0), some (.int v), none] (by decide) (Nat.le_of_ble_eq_true rfl) rfl rfl ?_
  refine G_aload_n (K := mX4_seed) (i := 0) dX4_seed_0 rfl rfl ?_
  refine G_getr (K := mX4_seed) fX4_12 dX4_seed_1 rfl rfl ?_
  refine G_geti (K := mX4_seed) fX4_210 dX4_seed_4 rfl rfl ?_
  refine G_istore_n (K := mX4_seed) (i := 2) dX4_seed_7 rfl (by decide) ?_
  refine G_aload_n (K := mX4_seed) (i := 0) dX4_seed_8 rfl rfl ?_
  refine G_getr (K := mX4_seed) fX4_12 dX4_seed_9 rfl rfl ?_
  refine G_iload_n (K := mX4_seed) (i := 1) dX4_seed_12 rfl rfl ?_
  refine G_puti (K := mX4_seed) fX4_210 w0_3 dX4_seed_13 rfl rfl ?_
  refine G_iload_n (K := mX4_seed) (i := 2) dX4_seed_16 rfl rfl ?_
  refine G_iret (st := []) (K := mX4_seed) dX4_seed_17 rfl (hQ _ _ ⟨congrArg (fun z => some (Value.int z)) hR.z, ?_⟩)
  have e2 : ups M (1 + 0) 3 v = hput M 1 (ups (hof M 1) 0 3 v) := by rw [← hput_ups (by omega), hput_hof]
  show RC (ups M (1 + 0) 3 v) _
  rw [e2]
  exact hR.house (fun c hc => ups_cell (by omega)) (by show HR _ (ups σ 0 3 v) (nOf (ups σ 0 3 v)); rw [nOf_ups0 (by decide)]; exact HR.out hR.1)

set_option maxRecDepth 20000 in
theorem cl_wipe {M σ : Mem}  (hR : RC M σ) (hI : Inv σ) {Q : Option Value → Mem → Prop} (hQ : ∀ u' M', PostC (opWipe σ) u' M' → Q u' M') : CT mX4_wipe shC 8 [.ref 0] M Q := by
  refine CT.mk [some (.ref 0), none] (by decide) (Nat.le_of_ble_eq_true rfl) rfl rfl ?_
  refine G_aload_n (K := mX4_wipe) (i := 0) dX4_wipe_0 rfl rfl ?_
  refine G_getr (K := mX4_wipe) fX4_36 dX4_wipe_1 rfl rfl ?_
  refine G_geti (K := mX4_wipe) fX4_213 dX4_wipe_4 rfl rfl ?_
  refine G_istore_n (K := mX4_wipe) (i := 1) dX4_wipe_7 rfl (by decide) ?_
  refine G_aload_n (K := mX4_wipe) (i := 0) dX4_wipe_8 rfl rfl ?_
  refine G_getr (K := mX4_wipe) fX4_36 dX4_wipe_9 rfl rfl ?_
  refine G_iconst (K := mX4_wipe) (v := 0) dX4_wipe_12 (by decide) ?_
  refine G_puti (K := mX4_wipe) fX4_213 w2_1 dX4_wipe_13 rfl rfl ?_
  refine G_iload_n (K := mX4_wipe) (i := 1) dX4_wipe_16 rfl rfl ?_
  refine G_iret (st := []) (K := mX4_wipe) dX4_wipe_17 rfl (hQ _ _ ⟨congrArg (fun z => some (Value.int z)) hR.2.2.2.2.2.1, ?_⟩)
  obtain ⟨-, -, r3, r4, r5, r6, r7⟩ := id hR
  exact hR.other (fun q h1 h2 => ups_cell (by omega)) (fun q h => ups_cell (by omega)) r3 r4 r5 (by rw [ups_same]; exact (ups_same σ 43 0 0).symm) (fun s hs => by
    rw [show (opWipe σ).2 = ups σ 43 0 0 from rfl, ups_cell (show 61 + 2 * s ≠ 46 by omega), ups_cell (show 62 + 2 * s ≠ 46 by omega), ups_cell (show 44 ≠ 43 by omega), ups_cell (show 45 ≠ 43 by omega), ups_cell (show 46 + s ≠ 43 by omega)]
    exact r7 s hs)

theorem HR.spot {M h : Mem} {n i : Nat} {x : Int32} (H : HR M h n) : HR (ups M 10 i x) (ups h 10 i x) n := by
  refine ⟨fun k hk => by rw [ups_cell (by decide : (0 : Nat) ≠ 10), ups_cell (by decide : (0 : Nat) ≠ 10)]; exact H.1 k hk, fun k hk => ?_, fun q h1 h2 k hk => by rw [ups_cell (by omega : q ≠ 10), ups_cell (by omega : q ≠ 10)]; exact H.2.2 q h1 h2 k hk⟩
  by_cases hq : k = i
  · subst hq
    rw [ups_same, ups_same]
  · rw [ups_ne (fun z => hq z.2), ups_ne (fun z => hq z.2)]
    exact H.2.1 k hk
set_option maxRecDepth 20000 in
theorem cl_hold {M σ : Mem} {s r : Int32} (hR : RC M σ) (hI : Inv σ) {Q : Option Value → Mem → Prop} (hQ : ∀ u' M', PostC (opHold σ s r) u' M' → Q u' M') : CT mX4_hold shC 8 [.ref 0, .int s, .int r] M Q := by
  refine CT.mk [some (.ref 0), some (.int s), some (.int r)] (by decide) (Nat.le_of_ble_eq_true rfl) rfl rfl ?_
  refine G_iload_n (K := mX4_hold) (i := 1) dX4_hold_0 rfl rfl ?_
  refine G_sv (K := mX4_hold) (cl_isSpot (x := s) ⟨rfl, rfl⟩) sX4_isSpot rfl lX4_224 dX4_hold_1 (by decide) rfl (Nat.le_of_ble_eq_true rfl) ?_
  refine G_if_eq (K := mX4_hold) (tgt := 23) dX4_hold_4 (by decide) (fun c4 => ?_) (fun c4 => ?_)
  · skip
    refine G_aload_n (K := mX4_hold) (i := 0) dX4_hold_23 rfl rfl ?_
    refine G_ldc (K := mX4_hold) dX4_hold_24 kX4_52 ?_
    refine G_call0 (K := mX4_hold) (Q' := PostC (tl σ 0)) (cl_tell hR (k := 0) (by omega) (fun _ _ h => h)) vX4_tell rfl lX4_53 ⟨_, _, _, rfl, rfl, rfl⟩ (by decide) (Nat.le_of_ble_eq_true rfl) dX4_hold_26 rfl ?_
    rintro v M1 ⟨rfl, hR1⟩
    first
      | exact G_iret (st := []) (K := mX4_hold) dX4_hold_29 rfl (hQ _ _ (by rw [show opHold σ s r = _ from (by unfold opHold; exact if_neg (by rw [bI_0 c4]; decide))]; exact ⟨rfl, hR1⟩))
      | exact G_iret (st := []) (K := mX4_hold) dX4_hold_29 rfl (hQ _ _ (by rw [show opHold σ (nI q) r = _ from (by unfold opHold; exact (if_pos (bI_1 c4)).trans ((if_neg c9).trans (if_neg (by rw [bI_0 c20]; decide))))]; exact ⟨rfl, hR1⟩))
  · skip
    obtain ⟨q, hq, rfl⟩ := roomB_t (by decide) (bI_1 c4)
    refine G_iload_n (K := mX4_hold) (i := 2) dX4_hold_7 rfl rfl ?_
    refine G_iconst (K := mX4_hold) (v := -1) dX4_hold_8 (by decide) ?_
    refine G_icmp_eq (K := mX4_hold) (tgt := 30) dX4_hold_9 (by decide) (fun c9 => ?_) (fun c9 => ?_)
    · skip
      refine G_aload_n (K := mX4_hold) (i := 0) dX4_hold_30 rfl rfl ?_
      refine G_getr (K := mX4_hold) fX4_12 dX4_hold_31 rfl rfl ?_
      refine G_getr (K := mX4_hold) fX4_227 dX4_hold_34 rfl rfl ?_
      refine G_iload_n (K := mX4_hold) (i := 1) dX4_hold_37 rfl rfl ?_
      refine G_iload_n (K := mX4_hold) (i := 2) dX4_hold_38 rfl rfl ?_
      refine G_sto (K := mX4_hold) q dX4_hold_39 rfl rfl (by omega) (by decide) ?_
      refine G_iconst (K := mX4_hold) (v := 1) dX4_hold_40 (by decide) ?_
      refine G_iret (st := []) (K := mX4_hold) dX4_hold_41 rfl (hQ _ _ ?_)
      rw [show opHold σ (nI q) r = (1, ups σ 10 (cut (nI q)) r) from (if_pos (bI_1 c4)).trans (if_pos c9), cut_nI (by omega)]
      have e2 : ups M (1 + 10) q r = hput M 1 (ups (hof M 1) 10 q r) := by rw [← hput_ups (by omega), hput_hof]
      refine ⟨rfl, ?_⟩
      show RC (ups M (1 + 10) q r) _
      rw [e2]
      exact hR.house (fun c hc => ups_cell (by omega)) (by rw [nOf_ups (by decide)]; exact HR.spot hR.1)
    · skip
      refine G_aload_n (K := mX4_hold) (i := 0) dX4_hold_12 rfl rfl ?_
      refine G_getr (K := mX4_hold) fX4_12 dX4_hold_13 rfl rfl ?_
      refine G_iload_n (K := mX4_hold) (i := 2) dX4_hold_16 rfl rfl ?_
      refine G_hp (K := mX4_hold) (b := 1) (by unfold isH; omega) (c_X0_has (M := hof M 1) (r := r) ⟨rfl, rfl⟩) vX0_has rfl lX4_65 dX4_hold_17 rfl (by decide) rfl (Nat.le_of_ble_eq_true rfl) ?_
      rw [hasI_B (hR.nI hI) hI.n8]
      refine G_if_ne (K := mX4_hold) (tgt := 30) dX4_hold_20 (by decide) (fun c20 => ?_) (fun c20 => ?_)
      · skip
        refine G_aload_n (K := mX4_hold) (i := 0) dX4_hold_30 rfl rfl ?_
        refine G_getr (K := mX4_hold) fX4_12 dX4_hold_31 rfl rfl ?_
        refine G_getr (K := mX4_hold) fX4_227 dX4_hold_34 rfl rfl ?_
        refine G_iload_n (K := mX4_hold) (i := 1) dX4_hold_37 rfl rfl ?_
        refine G_iload_n (K := mX4_hold) (i := 2) dX4_hold_38 rfl rfl ?_
        refine G_sto (K := mX4_hold) q dX4_hold_39 rfl rfl (by omega) (by decide) ?_
        refine G_iconst (K := mX4_hold) (v := 1) dX4_hold_40 (by decide) ?_
        refine G_iret (st := []) (K := mX4_hold) dX4_hold_41 rfl (hQ _ _ ?_)
        rw [show opHold σ (nI q) r = (1, ups σ 10 (cut (nI q)) r) from (if_pos (bI_1 c4)).trans ((if_neg c9).trans (if_pos (bI_1 c20))), cut_nI (by omega)]
        have e2 : ups M (1 + 10) q r = hput M 1 (ups (hof M 1) 10 q r) := by rw [← hput_ups (by omega), hput_hof]
        refine ⟨rfl, ?_⟩
        show RC (ups M (1 + 10) q r) _
        rw [e2]
        exact hR.house (fun c hc => ups_cell (by omega)) (by rw [nOf_ups (by decide)]; exact HR.spot hR.1)
      · skip
        refine G_aload_n (K := mX4_hold) (i := 0) dX4_hold_23 rfl rfl ?_
        refine G_ldc (K := mX4_hold) dX4_hold_24 kX4_52 ?_
        refine G_call0 (K := mX4_hold) (Q' := PostC (tl σ 0)) (cl_tell hR (k := 0) (by omega) (fun _ _ h => h)) vX4_tell rfl lX4_53 ⟨_, _, _, rfl, rfl, rfl⟩ (by decide) (Nat.le_of_ble_eq_true rfl) dX4_hold_26 rfl ?_
        rintro v M1 ⟨rfl, hR1⟩
        first
          | exact G_iret (st := []) (K := mX4_hold) dX4_hold_29 rfl (hQ _ _ (by rw [show opHold σ s r = _ from (by unfold opHold; exact if_neg (by rw [bI_0 c4]; decide))]; exact ⟨rfl, hR1⟩))
          | exact G_iret (st := []) (K := mX4_hold) dX4_hold_29 rfl (hQ _ _ (by rw [show opHold σ (nI q) r = _ from (by unfold opHold; exact (if_pos (bI_1 c4)).trans ((if_neg c9).trans (if_neg (by rw [bI_0 c20]; decide))))]; exact ⟨rfl, hR1⟩))

set_option maxRecDepth 20000 in
theorem cl_as {M σ : Mem} {s w : Int32} (hR : RC M σ) (hI : Inv σ) {Q : Option Value → Mem → Prop} (hQ : ∀ u' M', PostC (opAs σ s w) u' M' → Q u' M') : CT mX4_as shC 8 [.ref 0, .int s, .int w] M Q := by
  refine CT.mk [some (.ref 0), some (.int s), some (.int w), none] (by decide) (Nat.le_of_ble_eq_true rfl) rfl rfl ?_
  refine G_iload_n (K := mX4_as) (i := 1) dX4_as_0 rfl rfl ?_
  refine G_sv (K := mX4_as) (cl_isSpot (x := s) ⟨rfl, rfl⟩) sX4_isSpot rfl lX4_224 dX4_as_1 (by decide) rfl (Nat.le_of_ble_eq_true rfl) ?_
  refine G_if_eq (K := mX4_as) (tgt := 14) dX4_as_4 (by decide) (fun c4 => ?_) (fun c4 => ?_)
  · skip
    refine G_aload_n (K := mX4_as) (i := 0) dX4_as_14 rfl rfl ?_
    refine G_ldc (K := mX4_as) dX4_as_15 kX4_52 ?_
    refine G_call0 (K := mX4_as) (Q' := PostC (tl σ 0)) (cl_tell hR (k := 0) (by omega) (fun _ _ h => h)) vX4_tell rfl lX4_53 ⟨_, _, _, rfl, rfl, rfl⟩ (by decide) (Nat.le_of_ble_eq_true rfl) dX4_as_17 rfl ?_
    rintro v M1 ⟨rfl, hR1⟩
    first
      | exact G_iret (st := []) (K := mX4_as) dX4_as_20 rfl (hQ _ _ (by rw [show opAs σ s w = _ from (by unfold opAs; exact if_neg (by rw [bI_0 c4]; decide))]; exact ⟨rfl, hR1⟩))
      | exact G_iret (st := []) (K := mX4_as) dX4_as_20 rfl (hQ _ _ (by rw [show opAs σ (nI q) w = _ from (by unfold opAs; rcases kind_0 c11 with h | ⟨h, h2⟩; exact (if_pos (bI_1 c4)).trans (if_pos h); exact (if_pos (bI_1 c4)).trans ((if_neg h).trans (if_pos h2)))]; exact ⟨rfl, hR1⟩))
  · skip
    obtain ⟨q, hq, rfl⟩ := roomB_t (by decide) (bI_1 c4)
    refine G_iload_n (K := mX4_as) (i := 2) dX4_as_7 rfl rfl ?_
    refine G_sv (K := mX4_as) (y := mX4_isKind) (x := if w < 0 then 0 else if 6 < w then 0 else 1) (M2 := M) (d' := 0) (as := [.int w]) (cl_isKind (M := M) (x := w) ⟨rfl, rfl⟩) sX4_isKind rfl lX4_48 dX4_as_8 (by decide) rfl (Nat.le_of_ble_eq_true rfl) ?_
    refine G_if_ne (K := mX4_as) (tgt := 21) dX4_as_11 (by decide) (fun c11 => ?_) (fun c11 => ?_)
    · skip
      refine G_aload_n (K := mX4_as) (i := 0) dX4_as_21 rfl rfl ?_
      refine G_getr (K := mX4_as) fX4_12 dX4_as_22 rfl rfl ?_
      refine G_getr (K := mX4_as) fX4_227 dX4_as_25 rfl rfl ?_
      refine G_iload_n (K := mX4_as) (i := 1) dX4_as_28 rfl rfl ?_
      refine G_ld (K := mX4_as) q dX4_as_29 rfl rfl (by omega) (by decide) ?_
      have e10 : M 11 q = σ 10 q := hR.1.2.1 q hq
      rw [e10]
      refine G_istore_n (K := mX4_as) (i := 3) dX4_as_30 rfl (by decide) ?_
      refine G_aload_n (K := mX4_as) (i := 0) dX4_as_31 rfl rfl ?_
      refine G_getr (K := mX4_as) fX4_12 dX4_as_32 rfl rfl ?_
      refine G_iload_n (K := mX4_as) (i := 3) dX4_as_35 rfl rfl ?_
      refine G_hp (K := mX4_as) (b := 1) (by unfold isH; omega) (c_X0_has (M := hof M 1) (r := σ 10 q) ⟨rfl, rfl⟩) vX0_has rfl lX4_65 dX4_as_36 rfl (by decide) rfl (Nat.le_of_ble_eq_true rfl) ?_
      rw [hasI_B (hR.nI hI) hI.n8]
      refine G_if_ne (K := mX4_as) (tgt := 49) dX4_as_39 (by decide) (fun c39 => ?_) (fun c39 => ?_)
      · skip
        obtain ⟨j, hj, ej⟩ := roomB_t (by have := hI.n8; omega) (bI_1 c39)
        rw [ej]
        obtain ⟨c, hc6, ec⟩ : ∃ c, c ≤ 6 ∧ σ 1 j = nI c := by
          have h1 := (hI.1.2.2.2.2 j hj).1
          unfold rg at h1
          refine ⟨(σ 1 j).toInt.toNat, by omega, i32_ext ?_⟩
          rw [nI_toI (by omega)]
          omega
        refine G_aload_n (K := mX4_as) (i := 0) dX4_as_49 rfl rfl ?_
        refine G_getr (K := mX4_as) fX4_12 dX4_as_50 rfl rfl ?_
        refine G_iload_n (K := mX4_as) (i := 3) dX4_as_53 rfl rfl ?_
        refine G_iload_n (K := mX4_as) (i := 2) dX4_as_54 rfl rfl ?_
        refine G_hp (K := mX4_as) (b := 1) (by unfold isH; omega) (c_X0_isOneOf (M := hof M 1) (r := j) (k := c) (w := w) (by have := hI.n8; omega) ((hR.1.f 1 (by omega) (by omega) hj).trans ec) hc6 ⟨rfl, rfl⟩) vX0_isOneOf rfl lX4_231 dX4_as_55 rfl (by decide) rfl (Nat.le_of_ble_eq_true rfl) ?_
        refine G_if_eq (K := mX4_as) (tgt := 65) dX4_as_58 (by decide) (fun c58 => ?_) (fun c58 => ?_)
        · skip
          refine G_aload_n (K := mX4_as) (i := 0) dX4_as_65 rfl rfl ?_
          refine G_ldc (K := mX4_as) dX4_as_66 kX4_235 ?_
          refine G_call0 (K := mX4_as) (Q' := PostC (tl σ 2)) (cl_tell hR (k := 2) (by omega) (fun _ _ h => h)) vX4_tell rfl lX4_53 ⟨_, _, _, rfl, rfl, rfl⟩ (by decide) (Nat.le_of_ble_eq_true rfl) dX4_as_68 rfl ?_
          rintro v M1 ⟨rfl, hR1⟩
          first
            | exact G_iret (st := []) (K := mX4_as) dX4_as_71 rfl (hQ _ _ (by rw [show opAs σ (nI q) w = _ from (if_pos (bI_1 c4)).trans ((if_neg (kind_1 c11).1).trans ((if_neg (kind_1 c11).2).trans ((if_pos (by rw [cut_nI (by omega)]; exact bI_1 c39)).trans (if_neg (by rw [cut_nI (show q < 2147483648 by omega), ej, cut_nI (by have := hI.n8; omega), ec, cut_nI (by omega), bI_0 c58]; decide)))))]; exact ⟨rfl, hR1⟩))
            | exact G_iret (st := []) (K := mX4_as) dX4_as_71 rfl (hQ _ _ (by rw [show opAs σ (nI q) w = _ from (if_pos (bI_1 c4)).trans ((if_neg (kind_1 c11).1).trans ((if_neg (kind_1 c11).2).trans ((if_pos (by rw [cut_nI (by omega)]; exact bI_1 c39)).trans (if_pos (by rw [cut_nI (show q < 2147483648 by omega), ej, cut_nI (by have := hI.n8; omega), ec, cut_nI (by omega)]; exact bI_1 c58)))))]; exact ⟨congrArg (fun z => some (Value.int z)) (by rw [cut_nI (by omega), ej]), hR⟩))
        · skip
          refine G_iload_n (K := mX4_as) (i := 3) dX4_as_61 rfl rfl ?_
          refine G_goto (K := mX4_as) (tgt := 71) dX4_as_62 (by decide) ?_
          first
            | exact G_iret (st := []) (K := mX4_as) dX4_as_71 rfl (hQ _ _ (by rw [show opAs σ (nI q) w = _ from (if_pos (bI_1 c4)).trans ((if_neg (kind_1 c11).1).trans ((if_neg (kind_1 c11).2).trans ((if_pos (by rw [cut_nI (by omega)]; exact bI_1 c39)).trans (if_neg (by rw [cut_nI (show q < 2147483648 by omega), ej, cut_nI (by have := hI.n8; omega), ec, cut_nI (by omega), bI_0 c58]; decide)))))]; exact ⟨rfl, hR1⟩))
            | exact G_iret (st := []) (K := mX4_as) dX4_as_71 rfl (hQ _ _ (by rw [show opAs σ (nI q) w = _ from (if_pos (bI_1 c4)).trans ((if_neg (kind_1 c11).1).trans ((if_neg (kind_1 c11).2).trans ((if_pos (by rw [cut_nI (by omega)]; exact bI_1 c39)).trans (if_pos (by rw [cut_nI (show q < 2147483648 by omega), ej, cut_nI (by have := hI.n8; omega), ec, cut_nI (by omega)]; exact bI_1 c58)))))]; exact ⟨congrArg (fun z => some (Value.int z)) (by rw [cut_nI (by omega), ej]), hR⟩))
      · skip
        refine G_aload_n (K := mX4_as) (i := 0) dX4_as_42 rfl rfl ?_
        refine G_ldc (K := mX4_as) dX4_as_43 kX4_230 ?_
        refine G_call0 (K := mX4_as) (Q' := PostC (tl σ 5)) (cl_tell hR (k := 5) (by omega) (fun _ _ h => h)) vX4_tell rfl lX4_53 ⟨_, _, _, rfl, rfl, rfl⟩ (by decide) (Nat.le_of_ble_eq_true rfl) dX4_as_45 rfl ?_
        rintro v M1 ⟨rfl, hR1⟩
        exact G_iret (st := []) (K := mX4_as) dX4_as_48 rfl (hQ _ _ (by rw [show opAs σ (nI q) w = _ from (if_pos (bI_1 c4)).trans ((if_neg (kind_1 c11).1).trans ((if_neg (kind_1 c11).2).trans (if_neg (by rw [cut_nI (by omega), bI_0 c39]; decide))))]; exact ⟨rfl, hR1⟩))
    · skip
      refine G_aload_n (K := mX4_as) (i := 0) dX4_as_14 rfl rfl ?_
      refine G_ldc (K := mX4_as) dX4_as_15 kX4_52 ?_
      refine G_call0 (K := mX4_as) (Q' := PostC (tl σ 0)) (cl_tell hR (k := 0) (by omega) (fun _ _ h => h)) vX4_tell rfl lX4_53 ⟨_, _, _, rfl, rfl, rfl⟩ (by decide) (Nat.le_of_ble_eq_true rfl) dX4_as_17 rfl ?_
      rintro v M1 ⟨rfl, hR1⟩
      first
        | exact G_iret (st := []) (K := mX4_as) dX4_as_20 rfl (hQ _ _ (by rw [show opAs σ s w = _ from (by unfold opAs; exact if_neg (by rw [bI_0 c4]; decide))]; exact ⟨rfl, hR1⟩))
        | exact G_iret (st := []) (K := mX4_as) dX4_as_20 rfl (hQ _ _ (by rw [show opAs σ (nI q) w = _ from (by unfold opAs; rcases kind_0 c11 with h | ⟨h, h2⟩; exact (if_pos (bI_1 c4)).trans (if_pos h); exact (if_pos (bI_1 c4)).trans ((if_neg h).trans (if_pos h2)))]; exact ⟨rfl, hR1⟩))
