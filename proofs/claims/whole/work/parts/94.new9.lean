/-- the reference, new -/
def PMR (M : Mem) : Prop := M 1 0 = 0 ∧ M 1 1 = 20 ∧ M 1 2 = 0 ∧ M 1 3 = 1 ∧ (∀ k, k < 10 → M 1 (4 + k) = -1) ∧ M 0 3 = 0 ∧ (∀ i, M 4 i = 0) ∧ (∀ i, M 12 i = 0) ∧ M 0 19 = 0 ∧ (∀ i, M 16 i = 0) ∧ (∀ i, M 17 i = 0) ∧ (∀ i, M 18 i = 0) ∧ ∀ i, i < 9 → M 5 i = tLeast.getD i 0 ∧ M 6 i = tMost.getD i 0
def fvF (ad : Nat → Nat) (M : Mem) (j : Nat) : Nat → List (Option Nat) → List Value
  | _, [] => []
  | k, f :: r => fvl ad M j k f :: fvF ad M j (k + 1) r
theorem fvF_at (ad : Nat → Nat) (M : Mem) (j : Nat) : ∀ (fs : List (Option Nat)) (i k : Nat), (fvF ad M j i fs)[k]? = (fs[k]?).map (fun f => fvl ad M j (i + k) f)
  | [], _, _ => rfl
  | f :: r, i, 0 => rfl
  | f :: r, i, k + 1 => by
    show (fvF ad M j (i + 1) r)[k]? = (r[k]?).map _
    rw [fvF_at ad M j r (i + 1) k, show i + 1 + k = i + (k + 1) by omega]
theorem cel_obj (cts : Nat → ClassId) (ad : Nat → Nat) (M : Mem) (j ci : Nat) (fs : List (Option Nat)) : cel cts ad M j (.inl (ci, fs)) = .inr (ci, fvF ad M j 0 fs) := by
  show (Sum.inr (ci, fs.mapIdx (fun k f => fvl ad M j k f)) : va_E) = _
  congr 2
  apply List.ext_getElem?
  intro k
  rw [fvF_at, List.getElem?_mapIdx, Nat.zero_add]
set_option maxRecDepth 40000 in
theorem x5_end {D : va_G} {cts : Nat → ClassId} {ad0 : Nat → Nat} {h0 q1 q2 q3 q4 q5 q6 q7 q8 q9 q10 q11 q12 q13 q14 q15 q16 q17 q18 q19 : Nat} {f1 f5 f6 : Nat → Int32} {F13 F14 : Nat → Option Nat} (e0 : F13 = fun k => (([1100, 1101, 1102, 1103, 1104, 1105, 1106] : List Nat)[k]?).map (adL [h0, q1, q2, q3, q4, q5, q6, q7, q8, q9, q10, q11, q12, q13, q14, q15, q16, q17, q18, q19] ad0)) (e1 : F14 = fun k => (([1107, 1108, 1109, 1110] : List Nat)[k]?).map (adL [h0, q1, q2, q3, q4, q5, q6, q7, q8, q9, q10, q11, q12, q13, q14, q15, q16, q17, q18, q19] ad0))
    (hf : f1 0 = 0 ∧ f1 1 = 20 ∧ f1 2 = 0 ∧ f1 3 = 1 ∧ ∀ k, k < 10 → f1 (4 + k) = -1) (hg : ∀ i, i < 9 → f5 i = tLeast.getD i 0 ∧ f6 i = tMost.getD i 0) :
    GN mX5_init shR PMR 1 19 2901 D cts ad0 h0 [(h0, .inr (5, [.ref q1, .ref q2, .ref q3, .int 0, .ref q4, .ref q5, .ref q6, .ref q7, .ref q8, .ref q9, .ref q10, .int 0, .int 0, .int 0, .ref q11, .int 0, .int 0, .int 0, .ref q12, .int 0, .int 0, .int 0, .int 0, .int 0, .int 0, .ref q13, .ref q14, .ref q15, .int 0, .int 0, .int 0, .ref q16, .ref q17, .ref q18, .ref q19])), (q1, .inl (cts 0, 86, .inl f1)), (q2, .inl (cts 0, 86, .inl fun _ => 0)), (q3, .inl (cts 0, 86, .inl fun _ => 0)), (q4, .inl (cts 0, 8, .inl fun _ => 0)), (q5, .inl (cts 0, 9, .inl f5)), (q6, .inl (cts 0, 9, .inl f6)), (q7, .inl (cts 0, 8, .inl fun _ => 0)), (q8, .inl (cts 0, 8, .inl fun _ => 0)), (q9, .inl (cts 0, 8, .inl fun _ => 0)), (q10, .inl (cts 0, 8, .inl fun _ => 0)), (q11, .inl (cts 0, 86, .inl fun _ => 0)), (q12, .inl (cts 0, 120, .inl fun _ => 0)), (q13, .inl (cts 1, 7, .inr (.inr (.inr (.inr F13))))), (q14, .inl (cts 1, 4, .inr (.inr (.inr (.inr F14))))), (q15, .inl (cts 0, 2160, .inl fun _ => 0)), (q16, .inl (cts 0, 4, .inl fun _ => 0)), (q17, .inl (cts 0, 4, .inl fun _ => 0)), (q18, .inl (cts 0, 160, .inl fun _ => 0)), (q19, .inl (cts 0, 40, .inl fun _ => 0))] 19 2901 337 [some (.ref h0), some (.int 10)] [] := by
  rw [e0, e1]
  refine N_ret dX5_init_337 rfl (by decide) (by decide) (IW_of (adL [h0, q1, q2, q3, q4, q5, q6, q7, q8, q9, q10, q11, q12, q13, q14, q15, q16, q17, q18, q19] ad0) (mL [fun _ => 0, f1, fun _ => 0, fun _ => 0, fun _ => 0, f5, f6, fun _ => 0, fun _ => 0, fun _ => 0, fun _ => 0, fun _ => 0, fun _ => 0, fun _ => 0, fun _ => 0, fun _ => 0, fun _ => 0, fun _ => 0, fun _ => 0, fun _ => 0]) (by rw [wld_eq]; unfold shR; rw [wldF, cel_obj]; rfl) (fun j hj => adL_far (by show 20 ≤ j; omega)) rfl ?_ (by decide))
  exact ⟨hf.1, hf.2.1, hf.2.2.1, hf.2.2.2.1, hf.2.2.2.2, rfl, fun _ => rfl, fun _ => rfl, rfl, fun _ => rfl, fun _ => rfl, fun _ => rfl, hg⟩

set_option maxRecDepth 40000 in
theorem new_X5 : CI mX5_init 5 [.null, .null, .null, .int 0, .null, .null, .null, .null, .null, .null, .null, .int 0, .int 0, .int 0, .null, .int 0, .int 0, .int 0, .null, .int 0, .int 0, .int 0, .int 0, .int 0, .int 0, .null, .null, .null, .int 0, .int 0, .int 0, .null, .null, .null, .null] shR PMR 1 19 2901 := by
  refine CI.of rfl rfl (by decide) (fun D cts ad0 h0 => ?_)
  refine x5_s0 (fun q1 q2 q3 q4 q5 => ?_)
  refine x5_s1 (fun q6 => ?_)
  refine x5_s2 (fun q7 q8 q9 q10 q11 q12 => ?_)
  refine x5_s3 (fun q13 q14 => ?_)
  refine x5_s4 (fun q15 q16 q17 q18 q19 => ?_)
  refine x5_s5 ?_
  refine x5_end ?_ ?_ ⟨by decide +kernel, by decide +kernel, by decide +kernel, by decide +kernel, fun k hk => ?_⟩ (fun k hk => ?_)
  · funext k
    rcases k with _ | _ | _ | _ | _ | _ | _ | k <;> rfl
  · funext k
    rcases k with _ | _ | _ | _ | k <;> rfl
  · have h : k = 0 ∨ k = 1 ∨ k = 2 ∨ k = 3 ∨ k = 4 ∨ k = 5 ∨ k = 6 ∨ k = 7 ∨ k = 8 ∨ k = 9 := by omega
    rcases h with rfl | rfl | rfl | rfl | rfl | rfl | rfl | rfl | rfl | rfl <;> decide +kernel
  · have h : k = 0 ∨ k = 1 ∨ k = 2 ∨ k = 3 ∨ k = 4 ∨ k = 5 ∨ k = 6 ∨ k = 7 ∨ k = 8 := by omega
    rcases h with rfl | rfl | rfl | rfl | rfl | rfl | rfl | rfl | rfl <;> decide +kernel
/-! the first state: nobody lives there -/
def s0 : Mem := fun c i => if c = 0 ∨ c = 20 then (if i = 1 then 20 else if i = 3 then 1 else 0) else if c = 10 ∨ c = 30 then -1 else 0
theorem s0_n : nOf s0 = 0 := by decide +kernel
theorem s0_k : ∀ j, keptH s0 j = if j < 11 then s0 j else keptH s0 j := fun j => by
  by_cases h : j < 11
  · rw [if_pos h]
    funext i
    show s0 (20 + j) i = s0 j i
    unfold s0
    by_cases h0 : j = 0
    · subst h0; rfl
    · by_cases h1 : j = 10
      · subst h1; rfl
      · rw [if_neg (by omega), if_neg (by omega), if_neg (by omega), if_neg (by omega)]
  · rw [if_neg h]
theorem s0_hi : HI s0 0 := by
  refine ⟨rfl, by omega, by show rg (20 : Int32) 0 100; unfold rg; decide, fun k hk => by show rg (-1 : Int32) (-1) ((0 : Nat) - 1); unfold rg; decide, fun i hi => absurd hi (by omega)⟩
theorem s0_inv : Inv s0 := by
  have ek : ∀ c, c < 11 → keptH s0 c = s0 c := fun c hc => by rw [s0_k c, if_pos hc]
  have en : nOf (keptH s0) = 0 := (nOf_eq (ek 0 (by omega))).trans s0_n
  have z : rg (0 : Int32) 0 1 := by unfold rg; decide
  refine ⟨by rw [s0_n]; exact s0_hi, by show rg (0 : Int32) 0 9999; unfold rg; decide, by rw [en]; exact hi_eq ek s0_hi, by show rg (0 : Int32) 0 9999; unfold rg; decide, z, by show rg (0 : Int32) 0 120; unfold rg; decide, fun i _ => by show rg (0 : Int32) 0 255; unfold rg; decide, fun s _ => ⟨Or.inl rfl, by show rg (0 : Int32) 0 40; unfold rg; decide, fun _ => rfl⟩⟩
theorem s0_hr {h : Mem} (H : PMH h) : HR h s0 0 := by
  obtain ⟨h1, h2, h3, h4, h5, h6⟩ := H
  refine ⟨fun i hi => ?_, fun k hk => by rw [h6 k hk]; rfl, fun c _ _ i hi => absurd hi (by omega)⟩
  have h : i = 0 ∨ i = 1 ∨ i = 2 ∨ i = 3 := by omega
  rcases h with rfl | rfl | rfl | rfl
  · exact h1
  · exact h2
  · exact h3
  · exact h4
theorem s0_rc {M : Mem} (H : PMC M) : RC M s0 := by
  obtain ⟨h1, h2, h3, h4, h5, h6, h7⟩ := H
  have ek : ∀ c, c < 11 → keptH s0 c = s0 c := fun c hc => by rw [s0_k c, if_pos hc]
  have en : nOf (keptH s0) = 0 := (nOf_eq (ek 0 (by omega))).trans s0_n
  refine ⟨by rw [s0_n]; exact s0_hr h1, ?_, h3, fun i _ => h4 i, fun i _ => h5 i, h6, fun s hs => ?_⟩
  · rw [en]
    exact (s0_hr h2).tr (HR.ofEq (fun j hj => (ek j hj).symm) (HR.rf _ _))
  · obtain ⟨a, b, c⟩ := h7 s hs
    refine ⟨a, b, fun i _ => (c i).trans ?_⟩
    show (0 : Int32) = s0 (46 + s) i
    unfold s0
    rw [if_neg (by omega), if_neg (by omega)]
theorem s0_rr {M : Mem} (H : PMR M) : RR M s0 := by
  obtain ⟨h1, h2, h3, h4, h5, h6, h7, h8, h9, h10, h11, h12, h13⟩ := H
  refine ⟨?_, fun h => absurd rfl h, h6, ⟨fun k _ => h7 _, (h7 0).trans (by decide +kernel)⟩, fun i _ => h8 i, h9, fun s hs => ⟨h10 s, h11 s, fun i _ => (h12 _).trans ?_⟩, h13⟩
  · rw [s0_n]
    refine ⟨fun i hi => ?_, fun k hk => ?_, fun c _ _ i hi => absurd hi (by omega)⟩
    · have h : i = 0 ∨ i = 1 ∨ i = 2 ∨ i = 3 := by omega
      rcases h with rfl | rfl | rfl | rfl
      · exact h3
      · exact h2
      · exact h1
      · exact h4
    · show (if 10 = 0 then _ else if 10 = 10 then (if k < 10 then M 1 (4 + k) else 0) else _) = s0 10 k
      rw [if_neg (by omega), if_pos rfl, if_pos hk]
      exact h5 k hk
  · show (0 : Int32) = s0 (46 + s) i
    unfold s0
    rw [if_neg (by omega), if_neg (by omega)]
