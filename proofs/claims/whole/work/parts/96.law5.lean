def refIn (s : ShE) (r : Nat) : Prop := match s with
  | .inl o => some r ∈ o.2
  | .inr (.inl _) => False
  | .inr (.inr t) => r ∈ t.2
theorem cel_congr {cts : Nat → ClassId} {ad ad' : Nat → Nat} {M M' : Mem} {j j' : Nat} {s : ShE} (hM : M j = M' j') (h : ∀ r, refIn s r → ad r = ad' r) : cel cts ad M j s = cel cts ad' M' j' s := by
  rcases s with o | n | t
  · show (Sum.inr (o.1, o.2.mapIdx (fun k f => fvl ad M j k f)) : va_E) = Sum.inr (o.1, o.2.mapIdx (fun k f => fvl ad' M' j' k f))
    congr 2
    apply List.ext_getElem?
    intro i
    rw [List.getElem?_mapIdx, List.getElem?_mapIdx]
    cases hf : o.2[i]? with
    | none => rfl
    | some f =>
      cases f with
      | none => show some (Value.int _) = some (Value.int _); rw [hM]
      | some r => show some (Value.ref _) = some (Value.ref _); rw [h r (List.mem_of_getElem? hf)]
  · show (Sum.inl (cts 0, n, .inl (M j)) : va_E) = Sum.inl (cts 0, n, .inl (M' j'))
    rw [hM]
  · show (Sum.inl (cts t.1, t.2.length, .inr (.inr (.inr (.inr (fun k => (t.2[k]?).map ad))))) : va_E) = Sum.inl (cts t.1, t.2.length, .inr (.inr (.inr (.inr (fun k => (t.2[k]?).map ad')))))
    have e : (fun k : Nat => (t.2[k]?).map ad) = fun k => (t.2[k]?).map ad' := by
      funext k
      cases hk : t.2[k]? with
      | none => rfl
      | some r => show some _ = some _; rw [h r (List.mem_of_getElem? hk)]
    rw [e]
def refsOf (s : ShE) : List Nat := match s with
  | .inl o => o.2.filterMap id
  | .inr (.inl _) => []
  | .inr (.inr t) => t.2
theorem refsOf_in {s : ShE} {r : Nat} (h : refIn s r) : r ∈ refsOf s := by
  rcases s with o | n | t
  · exact List.mem_filterMap.mpr ⟨some r, h, rfl⟩
  · exact absurd h id
  · exact h
theorem refsC : ∀ s ∈ shC, ∀ r ∈ refsOf s, r < 69 := by decide +kernel
theorem refsR : ∀ s ∈ shR, ∀ r ∈ refsOf s, r < 20 ∨ 1000 ≤ r := by decide +kernel
theorem sf_narrow {ad : Nat → Nat} {A B : Nat → Prop} {U : State} {H : Heap} (hAB : ∀ q, B q → A q) (h : SF ad A U H) : SF ad B U H := by
  obtain ⟨a, d, e, f, g, n1, n2⟩ := h
  refine ⟨fun t ht => ⟨(a t ht).1.narrow hAB, (a t ht).2.narrow hAB⟩, d.narrow hAB, ?_, f.narrow hAB, g, n1, n2⟩
  rcases e with e | e
  · exact Or.inl (e.narrow hAB)
  · exact Or.inr (e.narrow hAB)
def adW (ad1 ad2 ad0 : Nat → Nat) : Nat → Nat := fun j => if j < 69 then ad1 j else if j < 89 then ad2 (j - 69) else ad0 j
def mW (M1 M2 : Mem) : Mem := fun c => if c < 69 then M1 c else M2 (c - 69)
theorem adW_C {ad1 ad2 ad0 : Nat → Nat} {j : Nat} (h : j < 69) : adW ad1 ad2 ad0 j = ad1 j := if_pos h
theorem adW_R {ad1 ad2 ad0 : Nat → Nat} {j : Nat} (h : j < 20) : adW ad1 ad2 ad0 (69 + j) = ad2 j := by
  unfold adW
  rw [if_neg (by omega), if_pos (by omega), Nat.add_sub_cancel_left]
theorem adW_0 {ad1 ad2 ad0 : Nat → Nat} {j : Nat} (h : 89 ≤ j) : adW ad1 ad2 ad0 j = ad0 j := by
  unfold adW
  rw [if_neg (by omega), if_neg (by omega)]
/-- both worlds as one -/
theorem wld_both {cts : Nat → ClassId} {ad1 ad2 ad0 : Nat → Nat} {M1 M2 : Mem} (e2 : ∀ j, 1000 ≤ j → ad2 j = ad0 j) : wld cts (adW ad1 ad2 ad0) (mW M1 M2) shL = wld cts ad1 M1 shC ++ wld cts ad2 M2 shR := by
  apply List.ext_getElem?
  intro k
  by_cases hk : k < 69
  · rw [List.getElem?_append_left (by rw [wld_len]; exact hk)]
    have hs : shL[k]? = shC[k]? := by
      show (shC ++ shR.map (mapE iR))[k]? = _
      rw [List.getElem?_append_left (by exact hk)]
    cases hq : shC[k]? with
    | none =>
      have := List.getElem?_eq_none_iff.mp hq
      have h69 : shC.length = 69 := shC_len
      omega
    | some s =>
      rw [wld_at (hs.trans hq), wld_at hq, adW_C hk]
      congr 2
      exact cel_congr (by unfold mW; rw [if_pos hk]) (fun r hr => adW_C (refsC s (List.mem_of_getElem? hq) r (refsOf_in hr)))
  · obtain ⟨i, rfl⟩ : ∃ i, k = 69 + i := ⟨k - 69, by omega⟩
    rw [List.getElem?_append_right (by rw [wld_len, shC_len]; omega), wld_len, shC_len, Nat.add_sub_cancel_left]
    have hs : shL[69 + i]? = (shR[i]?).map (mapE iR) := by
      show (shC ++ shR.map (mapE iR))[69 + i]? = _
      rw [List.getElem?_append_right (by rw [shC_len]; omega), shC_len, Nat.add_sub_cancel_left, List.getElem?_map]
    cases hq : shR[i]? with
    | none =>
      rw [hq] at hs
      have h1 := List.getElem?_eq_none_iff.mp hs
      have h2 := List.getElem?_eq_none_iff.mp hq
      rw [List.getElem?_eq_none (by rw [wld_len]; exact h1), List.getElem?_eq_none (by rw [wld_len]; exact h2)]
    | some s =>
      have hi : i < 20 := (List.getElem?_eq_some_iff.mp hq).1
      rw [hq] at hs
      rw [wld_at hs, wld_at hq, adW_R hi]
      congr 2
      have ei : iR i = 69 + i := if_pos hi
      have h1 := cel_map (cts := cts) (ad := adW ad1 ad2 ad0) (ι := iR) (M := mW M1 M2) (M' := M2) (k := i) (by rw [ei]; unfold mW; rw [if_neg (by omega), Nat.add_sub_cancel_left]) s
      rw [ei] at h1
      rw [h1]
      refine cel_congr rfl (fun r hr => ?_)
      rcases refsR s (List.mem_of_getElem? hq) r (refsOf_in hr) with h | h
      · show adW ad1 ad2 ad0 (iR r) = ad2 r
        rw [show iR r = 69 + r from if_pos h, adW_R h]
      · show adW ad1 ad2 ad0 (iR r) = ad2 r
        rw [show iR r = r from if_neg (by omega), adW_0 (by omega), e2 r h]
theorem start_K {args : Array Value} {s : State} (hts : ∀ w ∈ lw_tbl, w.before args s = true) : ∃ (D : va_G) (cts : Nat → ClassId), va_K D vwCl (tysOf cts) s := by
  have htg : ∀ w ∈ gtbl, w.before args s = true := fun w hw => hts w (List.mem_filter.mp hw).1
  obtain ⟨c0, i0, k0⟩ := u_known (C := RX0) (T := TX0) (N := 14) (n := 14) htg inX0 (htg _ (tb_1 23 (by decide +kernel)))
  obtain ⟨c1, i1, k1⟩ := u_known (C := RX1) (T := TX1) (N := 3) (n := 3) htg inX1 (htg _ (tb_1 133 (by decide +kernel)))
  obtain ⟨c2, i2, k2⟩ := u_known (C := RX2) (T := TX2) (N := 2) (n := 2) htg inX2 (htg _ (tb_1 95 (by decide +kernel)))
  obtain ⟨c3, i3, k3⟩ := u_known (C := RX3) (T := TX3) (N := 6) (n := 6) htg inX3 (htg _ (tb_1 89 (by decide +kernel)))
  obtain ⟨c4, i4, k4⟩ := u_known (C := RX4) (T := TX4) (N := 9) (n := 9) htg inX4 (htg _ (tb_1 15 (by decide +kernel)))
  obtain ⟨c5, i5, k5⟩ := u_known (C := RX5) (T := TX5) (N := 35) (n := 35) htg inX5 (htg _ (tb_3 233 (by decide +kernel)))
  obtain ⟨t0, kA0, cm0, a1, a2, a3⟩ := Cond.arrayClass_spec (args := args) (first := s) (o := none) (s := s) (idx := []) (htg _ arrI)
  obtain ⟨cm1, t1, kA1, b1, -, b2, b3, b4⟩ := Cond.arrayOver_spec (n := "java/lang/String") (args := args) (first := s) (o := none) (s := s) (idx := []) (hts _ (tw_3 239 (by decide +kernel)))
  obtain ⟨cm2, t2, kA2, d1, -, d2, d3, d4⟩ := Cond.arrayOver_spec (n := "WarmWalls$Sheet") (args := args) (first := s) (o := none) (s := s) (idx := []) (hts _ (tw_1 132 (by decide +kernel)))
  refine ⟨(fun c => [c0, c1, c2, c3, c4, c5].getD c 0, fun c => [i0, i1, i2, i3, i4, i5].getD c (fun _ => 0)), fun t => [t0, t1, t2].getD t 0, fun c q hq => ?_, fun k q hq => ?_⟩
  · rcases c with _ | _ | _ | _ | _ | _ | c
    · cases hq; exact k0
    · cases hq; exact k1
    · cases hq; exact k2
    · cases hq; exact k3
    · cases hq; exact k4
    · cases hq; exact k5
    · cases hq
  · rcases k with _ | _ | _ | k
    · cases hq
      exact ⟨fun n z => ⟨(fun k h => by cases h), kA0, a2, cm0, a3⟩, a1⟩
    · cases hq
      exact ⟨fun n z => ⟨(fun k h => by cases h), kA1, b2, cm1, b3⟩, kA1, cm1, b2, b3, b1, b4⟩
    · cases hq
      exact ⟨fun n z => ⟨(fun k h => by cases h), kA2, d2, cm2, d3⟩, kA2, cm2, d2, d3, d1, d4⟩
    · cases hq
set_option maxRecDepth 40000 in
/-- YOUR PART: from the entry, for every script of at most 3072 ints, the law comes to its end with true ('hflags': the launch's flags, for a law that throws: no stack traces) -/
theorem whole_start {p : Program} {e : Env} {s : State} {m : MethodId} {below : List Frame} {meth : Method} {c : Code} (l : Launch) (hflags : l.flags = flags0) {b L : Nat} {xs : Nat → Int32} (hL : L ≤ 3072) (C0 : lw_At p s m meth c b L xs) : W p l e room_1 s m #[Value.ref b] below meth c s.heap [] 0 0 (lw_Z below #[Value.ref b] s) (entryFrame m ([Value.ref b] : List Value).toArray 4) := by
  obtain ⟨hx, hcode, hret, hml, hown, hts, hX, hbl, hlk, hgv⟩ := C0
  have hg := flat_of_before _ hgv
  have htg : ∀ w ∈ gtbl, w.before #[Value.ref b] s = true := fun w hw => hts w (List.mem_filter.mp hw).1
  obtain ⟨ad0, hSF, e2000⟩ := start_SF (b := b) hg hts
  obtain ⟨D, cts, hK⟩ := start_K hts
  have hl := lv_entry [Value.ref b] (n := 4) (Nat.le_of_ble_eq_true rfl)
  rw [lg_entry_eq]
  generalize (lg_sl [Value.ref b] ++ List.replicate (4 - (lg_sl [Value.ref b]).length) Slot.unset).toArray = lsA at hl ⊢
  have hl0 : LH (fun j => j) lsA 4 [some (.ref b), none, none, none] := by
    refine ⟨hl, fun k v hk => ?_⟩
    rcases k with _ | _ | _ | _ | k
    · cases hk; rfl
    all_goals cases hk
  refine W_make (D := D) (cts := cts) (ad0 := ad0) (own := "WarmWallsLaw") (nL := 4) (A := fun q => s.heap.size ≤ q) (ws := []) hx hcode hml hown htg hK hSF (fun q h => h) (fun k q hq => by cases hq) ⟨(fun i j p q hp _ _ => by cases hp), (fun k q hq => by cases hq)⟩ va_S.rf new_X4 cf4 ki4 (tb_1 14 (by decide +kernel)) (Or.inl (tb_1 16 (by decide +kernel))) ⟨show 3 + 1 ≤ 2048 by omega, show 8 + (2 + 11) + 120 * 3 ≤ 84000 by omega⟩ (show 0 + 1 + 68 ≤ 600000 by omega) (show 0 + 9 + 791 ≤ 7302250 by omega) (by decide) hl0.1.1 (by decide) dL_law_0 dL_law_3 dL_law_4 (fun ad1 M1 H1 locs1 hM1 e1 hP1 hD1 hS1 => ?_)
  refine lv_astore_n hx hcode dL_law_7 (i := 1) rfl hl0.1 (by omega) rfl (fun lsB h2 => ?_)
  have hl1 := hl0.set (i := 1) (v := .ref (ad1 0)) rfl h2
  refine W_make (D := D) (cts := cts) (ad0 := ad0) (own := "WarmWallsLaw") (nL := 4) (A := fun q => s.heap.size ≤ q) (ws := [] ++ wld cts ad1 M1 shC) hx hcode hml hown htg hK hSF (fun q h => h) hP1 hD1 hS1 new_X5 cf5 ki5 (tb_3 232 (by decide +kernel)) (Or.inl (tb_3 234 (by decide +kernel))) ⟨show 1 + 1 ≤ 2048 by omega, show 8 + (2 + 11) + 120 * 1 ≤ 84000 by omega⟩ (show 0 + 1 + 68 + 1 + 19 ≤ 600000 by omega) (show 0 + 9 + 791 + 35 + 2901 ≤ 7302250 by omega) (by decide) hl1.1.1 (by decide) dL_law_8 dL_law_11 dL_law_12 (fun ad2 M2 H2 locs2 hM2 e2 hP2 hD2 hS2 => ?_)
  refine lv_astore_n hx hcode dL_law_15 (i := 2) rfl hl1.1 (by omega) rfl (fun lsC h3 => ?_)
  have hl2 := hl1.set (i := 2) (v := .ref (ad2 0)) rfl h3
  refine lv_iconst hx hcode dL_law_16 (v := 0) (by decide) ?_
  refine lv_istore_n hx hcode dL_law_17 (i := 3) rfl hl2.1 (by omega) rfl (fun lsD h4 => ?_)
  have hl3 := hl2.set (i := 3) (v := .int 0) rfl h4
  rw [List.nil_append] at hP2 hD2
  rw [← wld_both (ad1 := ad1) (M1 := M1) e2] at hP2 hD2
  have e2k : adW ad1 ad2 ad0 2000 = b := (adW_0 (by omega)).trans e2000
  have hat : ∀ i, i < 89 → ∃ q, (wld cts (adW ad1 ad2 ad0) (mW M1 M2) shL)[i]? = some (adW ad1 ad2 ad0 i, q) := fun i hi => ⟨_, wld_at (List.getElem?_eq_getElem (show i < shL.length from hi))⟩
  have hI : Inj shL (adW ad1 ad2 ad0) := fun i j hi hj e => by
    obtain ⟨p, hp⟩ := hat i hi
    obtain ⟨q, hq⟩ := hat j hj
    exact hD2.1 i j _ _ hp hq e
  have hge : ∀ j, j < 89 → s.heap.size ≤ adW ad1 ad2 ad0 j := fun j hj => by
    obtain ⟨q, hq⟩ := hat j hj
    exact hD2.2 j _ hq
  have hSF2 : SF (adW ad1 ad2 ad0) (aset shL (adW ad1 ad2 ad0)) s s.heap := sf_narrow (fun q hq => by obtain ⟨j, hj, rfl⟩ := hq; exact hge j hj) (sf_ad (fun j hj => adW_0 (by omega)) hSF.1)
  refine va_forget (fun q hq => hS2.2.2 q hq) ?_
  refine W.widen (k := 600000) (n := 7302250) (by omega) (by omega) ?_
  have hLI : LI (mW M1 M2) s0 := by
    refine ⟨rc_congr (M := M1) (fun c hc => if_pos hc) (s0_rc hM1), ?_, s0_inv⟩
    have e : mR (mW M1 M2) = M2 := by
      funext j
      show mW M1 M2 (69 + j) = M2 j
      unfold mW
      rw [if_neg (by omega), Nat.add_sub_cancel_left]
    rw [e]
    exact s0_rr hM2
  have hlL : LH (adW ad1 ad2 ad0) lsD 4 (lsL 0) := by
    have e : lvl (adW ad1 ad2 ad0) 0 (lsL 0) = lvl (fun j => j) 0 [some (.ref b), some (.ref (ad1 0)), some (.ref (ad2 0)), some (.int 0)] := by
      show [(0, Value.ref (adW ad1 ad2 ad0 2000)), (1, Value.ref (adW ad1 ad2 ad0 0)), (2, Value.ref (adW ad1 ad2 ad0 69)), (3, Value.int 0)] = [(0, Value.ref b), (1, Value.ref (ad1 0)), (2, Value.ref (ad2 0)), (3, Value.int 0)]
      rw [e2k, show adW ad1 ad2 ad0 0 = ad1 0 from rfl, show adW ad1 ad2 ad0 69 = ad2 0 from rfl]
    refine ⟨by rw [e]; exact hl3.1, fun k v hk => ?_⟩
    rcases k with _ | _ | _ | _ | k
    · cases hk; rfl
    · cases hk; rfl
    · cases hk; rfl
    · cases hk; rfl
    · cases hk
  exact law_go (xs := xs) hL L 0 (mW M1 M2) s0 (by omega) (by omega) hLI ⟨⟨⟨hx, hcode, hml, hown, htg, hret, hlk⟩, hK, hI, hSF2⟩, hX, hbl, hge, e2k⟩ hP2 ⟨hS2.1, fun q h1 h2 => hS2.2.1 q h1 (fun z => by omega), fun q hq => by cases hq⟩ hlL
