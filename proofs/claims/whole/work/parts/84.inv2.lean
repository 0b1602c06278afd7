theorem inv_now {σ : Mem} {w : Int32} (hI : Inv σ) : Inv (opNow σ w).2 := inv_if (fun _ => hI) (fun _ => inv_if (fun _ => hI) (fun _ => inv_if (fun _ => hI) (fun _ => inv_if (fun _ => hI) (fun _ => inv_if (fun _ => hI) (fun _ => inv_if (fun _ => hI) (fun _ => inv_tl hI 0))))))
theorem inv_ahead {σ : Mem} {a w : Int32} (hI : Inv σ) : Inv (opAhead σ a w).2 := inv_if (fun _ => inv_tl hI 0) (fun _ => inv_if (fun _ => inv_tl hI 0) (fun _ => inv_if (fun _ => inv_tl hI 0) (fun _ => inv_if (fun _ => inv_tl hI 0) (fun _ => inv_if (fun _ => inv_tl hI 4) (fun _ => hI)))))
theorem inv_first {σ : Mem} {r : Int32} {c : Nat} {b : Int32} (hI : Inv σ) : Inv (opFirst σ r c b).2 := inv_if (fun _ => inv_if (fun _ => inv_tl hI 4) (fun _ => inv_orN hI _ _)) (fun _ => inv_tl hI 0)
theorem inv_rest {σ : Mem} (hI : Inv σ) : Inv (opRest σ).2 := inv_if (fun _ => inv_tl hI 4) (fun _ => inv_orN hI _ _)
theorem inv_circle {σ : Mem} (hI : Inv σ) : Inv (opCircle σ).2 := inv_if (fun _ => inv_tl hI 4) (fun _ => inv_orN hI _ _)
theorem inv_spread {σ : Mem} {r a : Int32} (hI : Inv σ) : Inv (opSpread σ r a).2 := inv_if (fun _ => hI) (fun _ => inv_tlI hI _)
theorem inv_best {σ : Mem} {r a : Int32} {w m : Nat} (hI : Inv σ) : Inv (opBest σ r a w m).2 := inv_if (fun _ => hI) (fun _ => inv_tlI hI _)
theorem inv_tempted {σ : Mem} {a : Int32} (hI : Inv σ) : Inv (opTempted σ a).2 := inv_if (fun _ => hI) (fun _ => inv_tlI hI _)
theorem inv_missed {σ : Mem} {a : Int32} (hI : Inv σ) : Inv (opMissed σ a).2 := inv_if (fun _ => inv_if (fun _ => inv_tl hI 3) (fun _ => hI)) (fun _ => inv_tlI hI _)
theorem inv_warmest {σ : Mem} {a : Int32} (hI : Inv σ) : Inv (opWarmest σ a).2 := inv_if (fun _ => hI) (fun _ => inv_tlI hI _)
theorem inv_exchange {σ : Mem} {a : Int32} (hI : Inv σ) : Inv (opExchange σ a).2 := inv_if (fun _ => inv_if (fun _ => inv_tl hI 3) (fun _ => hI)) (fun _ => inv_tlI hI _)
theorem inv_deal {σ : Mem} {a : Int32} (hI : Inv σ) : Inv (opDeal σ a).2 := inv_if (fun _ => inv_orN hI _ _) (fun _ => inv_tlI hI _)
theorem inv_orders {σ : Mem} {k a : Int32} (hI : Inv σ) : Inv (opOrders σ k a).2 := inv_if (fun _ => inv_tl hI 0) (fun _ => inv_if (fun _ => inv_tl hI 0) (fun _ => inv_if (fun _ => inv_tl hI 0) (fun _ => inv_if (fun _ => hI) (fun _ => inv_tlI hI _))))
theorem inv_coal {σ : Mem} {r a : Int32} (hI : Inv σ) : Inv (opCoal σ r a).2 := inv_if (fun _ => inv_if (fun _ => inv_orN hI _ _) (fun _ => inv_tl hI 4)) (fun _ => inv_tlI hI _)
theorem inv_wall {σ : Mem} {r a : Int32} (hI : Inv σ) : Inv (opWall σ r a).2 := inv_if (fun _ => inv_orN hI _ _) (fun _ => inv_tlI hI _)
theorem inv_turn {σ : Mem} {r a : Int32} (hI : Inv σ) : Inv (opTurn σ r a).2 := inv_if (fun _ => inv_if (fun _ => inv_tl hI 4) (fun _ => hI)) (fun _ => inv_tlI hI _)
theorem inv_own {σ : Mem} {a : Int32} (hI : Inv σ) : Inv (opOwn σ a).2 := inv_if (fun _ => hI) (fun _ => inv_tlI hI _)
theorem inv_culprits {σ : Mem} (hI : Inv σ) : Inv (opCulprits σ).2 := hI
theorem inv_surely {σ : Mem} {w : Int32} (hI : Inv σ) : Inv (opSurely σ w).2 := inv_if (fun _ => inv_tl hI 0) (fun _ => inv_if (fun _ => inv_tl hI 0) (fun _ => inv_if (fun _ => inv_tl hI 3) (fun _ => hI)))
theorem inv_judge {σ : Mem} {s r : Int32} (hI : Inv σ) : Inv (opJudge σ s r).2 := inv_if (fun _ => inv_if (fun _ => inv_if (fun _ => inv_tl hI 4) (fun _ => hI)) (fun _ => inv_tl hI 0)) (fun _ => inv_tlI hI _)
theorem inv_as {σ : Mem} {s w : Int32} (hI : Inv σ) : Inv (opAs σ s w).2 := inv_if (fun _ => inv_if (fun _ => inv_tl hI 0) (fun _ => inv_if (fun _ => inv_tl hI 0) (fun _ => inv_if (fun _ => inv_if (fun _ => hI) (fun _ => inv_tl hI 2)) (fun _ => inv_tl hI 5)))) (fun _ => inv_tl hI 0)
theorem inv_count {σ : Mem} {w : Int32} (hI : Inv σ) : Inv (opCount σ w).2 := inv_if (fun _ => hI) (fun _ => inv_if (fun _ => hI) (fun _ => inv_if (fun _ => hI) (fun _ => inv_if (fun _ => hI) (fun _ => inv_if (fun _ => hI) (fun _ => inv_if (fun _ => hI) (fun _ => inv_if (fun _ => hI) (fun _ => inv_if (fun _ => hI) (fun _ => inv_tl hI 0))))))))
theorem inv_status {σ : Mem} {w : Int32} (hI : Inv σ) : Inv (opStatus σ w).2 := inv_if (fun _ => inv_tl hI 0) (fun _ => inv_if (fun _ => inv_tl hI 0) (fun _ => inv_if (fun _ => hI) (fun _ => hI)))
theorem travN_oth (h : Mem) (c : Nat) (h0 : c ≠ 0) (h6 : c ≠ 6) : ∀ k, travN k h c = h c
  | 0 => rfl
  | k + 1 => by
    show travS (travN k h) c = h c
    unfold travS
    rw [ups_cell h6, ups_cell h0]
    exact travN_oth h c h0 h6 k
theorem travN_0 (h : Mem) (i : Nat) (hi : i ≠ 3) : ∀ k, travN k h 0 i = h 0 i
  | 0 => rfl
  | k + 1 => by
    show travS (travN k h) 0 i = h 0 i
    unfold travS
    rw [ups_cell (by omega), ups_ne (fun q => hi q.2)]
    exact travN_0 h i hi k
theorem inv_travel {σ : Mem} {a : Int32} (hI : Inv σ) : Inv (opTravel σ a).2 := by
  refine inv_if (fun _ => inv_tl hI 0) (fun _ => inv_if (fun _ => inv_tl hI 0) (fun _ => inv_if (fun _ => inv_tl hI 4) (fun h0 => ?_)))
  have hn : 0 < nOf σ := by
    rcases Nat.eq_zero_or_pos (nOf σ) with q | q
    · exact absurd (by rw [hI.1.1, q]; rfl) h0
    · exact q
  show Inv (travN (cut a) σ)
  have H := id hI.1
  obtain ⟨h1, h2, h3, h4, h5⟩ := H
  refine inv_house (n := nOf σ) hI ⟨by rw [travN_0 σ 0 (by omega)]; exact h1, h2, by rw [travN_0 σ 1 (by omega)]; exact h3, fun k hk => by rw [travN_oth σ 10 (by omega) (by omega)]; exact h4 k hk, fun i hi => ?_⟩ (by rw [travN_0 σ 2 (by omega)]; exact hI.2.1) (fun c hc => travN_oth σ c (by omega) (by omega) _)
  rw [travN_oth σ 1 (by omega) (by omega), travN_oth σ 2 (by omega) (by omega), travN_oth σ 3 (by omega) (by omega), travN_oth σ 4 (by omega) (by omega), travN_oth σ 5 (by omega) (by omega), travN_oth σ 7 (by omega) (by omega), travN_oth σ 8 (by omega) (by omega), travN_oth σ 9 (by omega) (by omega)]
  obtain ⟨a1, a2, a3, a4, a5, a6, a7, a8, a9⟩ := h5 i hi
  exact ⟨a1, a2, a3, a4, a5, travN_away h1 hn h2 (fun j hj => (h5 j hj).2.2.2.2.2.1) _ i hi, a7, a8, a9⟩
theorem inv_seed {σ : Mem} {v : Int32} (hI : Inv σ) : Inv (opSeed σ v).2 := by
  show Inv (ups σ 0 3 v)
  obtain ⟨h1, h2, h3, h4, h5⟩ := id hI.1
  refine inv_house (n := nOf σ) hI ⟨by rw [ups_ne (by omega)]; exact h1, h2, by rw [ups_ne (by omega)]; exact h3, fun k hk => by rw [ups_cell (by omega)]; exact h4 k hk, fun i hi => ?_⟩ (by rw [ups_ne (by omega)]; exact hI.2.1) (fun c hc => ups_cell (by omega))
  rw [ups_cell (by omega), ups_cell (by omega), ups_cell (by omega), ups_cell (by omega), ups_cell (by omega), ups_cell (by omega), ups_cell (by omega), ups_cell (by omega), ups_cell (by omega)]
  exact h5 i hi
theorem inv_up {σ : Mem} {c i : Nat} {x : Int32} (hI : Inv σ) (hc : 31 ≤ c) (h40 : c = 40 → rg x 0 1) (h43 : c = 43 → rg x 0 120) (h42 : c = 42 → rg x 0 255) (h44 : c ≠ 44) (h45 : c ≠ 45) : Inv (ups σ c i x) := by
  obtain ⟨-, -, -, -, i5, i6, i7, i8⟩ := id hI
  have key : ∀ c2 j lo hi, (c = c2 → rg x lo hi) → rg (σ c2 j) lo hi → rg (ups σ c i x c2 j) lo hi := fun c2 j lo hi g1 g2 => by
    by_cases h : c2 = c ∧ j = i
    · rw [h.1, h.2, ups_same]; exact g1 h.1.symm
    · rw [ups_ne h]; exact g2
  refine inv_oth hI (fun c2 hc2 => ups_cell (by omega)) (key 40 0 0 1 h40 i5) (key 43 0 0 120 h43 i6) (fun j hj => key 42 j 0 255 h42 (i7 j hj)) (fun s hs => ?_)
  rw [ups_cell (Ne.symm h44), ups_cell (Ne.symm h45)]
  exact i8 s hs
theorem inv_wipe {σ : Mem} (hI : Inv σ) : Inv (opWipe σ).2 := inv_up hI (by omega) (fun h => by omega) (fun _ => by unfold rg; decide) (fun h => by omega) (by omega) (by omega)
theorem inv_tear {σ : Mem} (hI : Inv σ) : Inv (opTear σ).2 := inv_up hI (by omega) (fun _ => by unfold rg; decide) (fun h => by omega) (fun h => by omega) (by omega) (by omega)
theorem inv_fed {b : Int32} : ∀ (m : Nat) (σ : Mem), Inv σ → (∃ L, L + m ≤ 120 ∧ σ 43 0 = nI L) → Inv (fedS b m σ)
  | 0, σ, hI, _ => hI
  | m + 1, σ, hI, ⟨L, hL, e⟩ => by
    refine inv_fed m (fed1 b m σ) ?_ ⟨L + 1, by omega, ?_⟩
    · unfold fed1
      refine inv_up (inv_up hI (by omega) (fun h => by omega) (fun h => by omega) (fun _ => ?_) (by omega) (by omega)) (by omega) (fun h => by omega) (fun _ => ?_) (fun h => by omega) (by omega) (by omega)
      · obtain ⟨k, hk, ek⟩ := and_nat (b.toUInt32 >>> (((8 : Int32) * nI m).toUInt32 &&& Int32.toUInt32 31)).toInt32 (m := 255) (by omega)
        show rg (_ &&& nI 255) 0 255
        rw [ek]
        unfold rg
        rw [nI_toI (by omega)]
        omega
      · rw [e, nI_1]
        unfold rg
        rw [nI_toI (by omega)]
        omega
    · show ups _ 43 0 (σ 43 0 + 1) 43 0 = _
      rw [ups_same, e, nI_1]
theorem inv_feed {σ : Mem} {b a : Int32} (hI : Inv σ) : Inv (opFeed σ b a).2 := by
  refine inv_if (fun _ => inv_tl hI 0) (fun h1 => inv_if (fun _ => inv_tl hI 0) (fun h2 => inv_if (fun _ => inv_tl hI 1) (fun h3 => ?_)))
  have h := rg_of (lo := 1) (hi := 4) rfl rfl h1 h2
  unfold rg at h
  obtain ⟨L, hL, e, -⟩ := inv_tape hI
  obtain ⟨k, ⟨k1, k2⟩, rfl⟩ : ∃ k : Nat, (1 ≤ k ∧ k ≤ 4) ∧ a = nI k := ⟨a.toInt.toNat, by omega, i32_ext (by rw [nI_toI (by omega)]; omega)⟩
  show Inv (fedS b (cut (nI k)) σ)
  rw [e, nI_add, i32_lt, nI_toI (by omega)] at h3
  have h3' : ¬ (120 : Int) < ((L + k : Nat) : Int) := h3
  rw [cut_nI (by omega)]
  exact inv_fed k σ hI ⟨L, by omega, e⟩
theorem inv_hold {σ : Mem} {s r : Int32} (hI : Inv σ) : Inv (opHold σ s r).2 := by
  have go : roomB 10 s = true → rg r (-1) ((nOf σ : Int) - 1) → Inv (ups σ 10 (cut s) r) := fun hs hr => by
    obtain ⟨h1, h2, h3, h4, h5⟩ := id hI.1
    refine inv_house (n := nOf σ) hI ⟨by rw [ups_cell (by omega)]; exact h1, h2, by rw [ups_cell (by omega)]; exact h3, fun k hk => ?_, fun i hi => ?_⟩ (by rw [ups_cell (by omega)]; exact hI.2.1) (fun c hc => ups_cell (by omega))
    · by_cases h : 10 = 10 ∧ k = cut s
      · rw [h.2, ups_same]; exact hr
      · rw [ups_ne h]; exact h4 k hk
    · rw [ups_cell (by omega), ups_cell (by omega), ups_cell (by omega), ups_cell (by omega), ups_cell (by omega), ups_cell (by omega), ups_cell (by omega), ups_cell (by omega), ups_cell (by omega)]
      exact h5 i hi
  refine inv_if (fun hs => inv_if (fun h => go hs ?_) (fun _ => inv_if (fun h => go hs ?_) (fun _ => inv_tl hI 0))) (fun _ => inv_tl hI 0)
  · rw [h]
    have e : (-1 : Int32).toInt = -1 := rfl
    unfold rg
    rw [e]
    omega
  · have h8 := hI.n8
    obtain ⟨k, hk, rfl⟩ := roomB_t (by omega) h
    unfold rg
    rw [nI_toI (by omega)]
    omega
theorem inv_image {σ : Mem} (hI : Inv σ) : Inv (opImage σ).2 := by
  show Inv (imgS σ)
  obtain ⟨i1, i2, i3, i4, i5, i6, i7, i8⟩ := id hI
  have e : ∀ c, c < 20 ∨ 31 ≤ c → c ≠ 40 → imgS σ c = σ c := fun c hc h40 => by
    funext i
    show (if 20 ≤ c ∧ c < 31 then _ else if c = 40 ∧ i = 0 then _ else σ c i) = σ c i
    rw [if_neg (by omega), if_neg (by omega)]
  have ek : ∀ c, c < 11 → keptH (imgS σ) c = σ c := fun c hc => by
    funext i
    show (if 20 ≤ 20 + c ∧ 20 + c < 31 then σ (20 + c - 20) i else if 20 + c = 40 ∧ i = 0 then _ else σ (20 + c) i) = σ c i
    rw [if_pos (by omega), Nat.add_sub_cancel_left]
  have en : nOf (imgS σ) = nOf σ := nOf_eq (e 0 (by omega) (by omega))
  have ekn : nOf (keptH (imgS σ)) = nOf σ := nOf_eq (ek 0 (by omega))
  refine ⟨by rw [en]; exact hi_eq (fun c hc => e c (by omega) (by omega)) i1, by rw [e 0 (by omega) (by omega)]; exact i2, by rw [ekn]; exact hi_eq ek i1, by rw [show imgS σ 20 = σ 0 from ek 0 (by omega)]; exact i2, by show rg (imgS σ 40 0) 0 1; rw [show imgS σ 40 0 = 1 from rfl]; unfold rg; decide, by rw [e 43 (by omega) (by omega)]; exact i6, fun i hi => by rw [e 42 (by omega) (by omega)]; exact i7 i hi, fun s hs => ?_⟩
  rw [e 44 (by omega) (by omega), e 45 (by omega) (by omega)]
  exact i8 s hs
theorem inv_undo {σ : Mem} (hI : Inv σ) : Inv (opUndo σ).2 := by
  refine inv_if (fun _ => inv_tl hI 3) (fun _ => ?_)
  show Inv (unS σ)
  have e : ∀ c, c < 11 → unS σ c = keptH σ c := fun c hc => if_pos hc
  refine inv_house (n := nOf (keptH σ)) hI (hi_eq e hI.2.2.1) (by rw [e 0 (by omega)]; exact hI.2.2.2.1) (fun c hc => if_neg (by omega))
theorem inv_sheet {σ : Mem} {s b n : Int32} (hI : Inv σ) : Inv (opSheet σ s b n).2 := by
  refine inv_if (fun hs => inv_if (fun hb => inv_if (fun _ => inv_tl hI 6) (fun h1 => inv_if (fun _ => inv_tl hI 0) (fun h2 => ?_))) (fun _ => inv_tl hI 0)) (fun _ => inv_tl hI 0)
  obtain ⟨q, hq, rfl⟩ := roomB_t (by omega) hs
  show Inv (newS σ (cut (nI q)) b n)
  rw [cut_nI (by omega)]
  obtain ⟨i1, i2, i3, i4, i5, i6, i7, i8⟩ := id hI
  have hb' : b = 0 ∨ b = 8 ∨ b = 16 ∨ b = 32 := of_decide_eq_true hb
  have hn := rg_of (lo := 0) (hi := 40) rfl rfl h1 h2
  have ez : ∀ c, c < 46 → newS σ q b n c = ups (ups σ 44 q b) 45 q (if b = 0 then 0 else n) c := fun c hc => by
    funext i
    show (if c = 46 + q ∧ i < 40 then 0 else _) = _
    rw [if_neg (by omega)]
  have e : ∀ c, c < 44 → newS σ q b n c = σ c := fun c hc => by rw [ez c (by omega), ups_cell (by omega), ups_cell (by omega)]
  refine inv_oth hI (fun c hc => e c (by omega)) (by rw [e 40 (by omega)]; exact i5) (by rw [e 43 (by omega)]; exact i6) (fun i hi => by rw [e 42 (by omega)]; exact i7 i hi) (fun t ht => ?_)
  rw [ez 44 (by omega), ez 45 (by omega)]
  by_cases htq : t = q
  · subst htq
    rw [ups_cell (by omega), ups_same, ups_same]
    refine ⟨hb', ?_, fun h => if_pos h⟩
    by_cases hz : b = 0
    · rw [if_pos hz]; unfold rg; decide
    · rw [if_neg hz]; exact hn
  · rw [ups_cell (by omega), ups_ne (fun z => htq z.2), ups_ne (fun z => htq z.2), ups_cell (by omega)]
    exact i8 t ht
theorem inv_write {σ : Mem} {s i v : Int32} (hI : Inv σ) : Inv (opWrite σ s i v).2 := inv_if (fun _ => inv_if (fun _ => inv_tl hI 0) (fun _ => inv_far hI (fun c h _ => ups_cell (by omega)))) (fun _ => inv_tlI hI _)
theorem cpyG_far {M : Mem} {j0 j1 a c n q : Nat} (h : q ≠ j1) : cpyG M j0 j1 a c n q = M q := by
  funext i
  show (if q = j1 ∧ _ then _ else M q i) = M q i
  rw [if_neg (fun z => h z.1)]
theorem inv_copy {σ : Mem} {s f t o n : Int32} (hI : Inv σ) : Inv (opCopy σ s f t o n).2 := inv_if (fun _ => inv_if (fun _ => inv_if (fun _ => inv_tl hI 5) (fun _ => inv_if (fun _ => inv_tl hI 5) (fun _ => inv_if (fun _ => inv_if (fun _ => inv_tl hI 0) (fun _ => inv_if (fun _ => inv_tl hI 0) (fun _ => inv_far hI (fun c h _ => cpyG_far (by omega))))) (fun _ => inv_tl hI 2)))) (fun _ => inv_tl hI 0)) (fun _ => inv_tl hI 0)
theorem findF_before {p : Nat → Bool} : ∀ (f i k : Nat), findF p i f = some k → ∀ q, i ≤ q → q < k → p q = false
  | 0, _, _, h, _, _, _ => by cases h
  | f + 1, i, k, h, q, h1, h2 => by
    have h' : (if p i = true then some i else findF p (i + 1) f) = some k := h
    by_cases hp : p i = true
    · rw [if_pos hp] at h'
      cases h'
      omega
    · rw [if_neg hp] at h'
      rcases Nat.eq_or_lt_of_le h1 with e | e
      · subst e
        exact Bool.eq_false_iff.mpr hp
      · exact findF_before f (i + 1) k h' q e h2
theorem findF_no {p : Nat → Bool} : ∀ (f i : Nat), findF p i f = none → ∀ q, i ≤ q → q < i + f → p q = false
  | 0, _, _, _, _, _ => by omega
  | f + 1, i, h, q, h1, h2 => by
    have h' : (if p i = true then some i else findF p (i + 1) f) = none := h
    by_cases hp : p i = true
    · rw [if_pos hp] at h'
      cases h'
    · rw [if_neg hp] at h'
      rcases Nat.eq_or_lt_of_le h1 with e | e
      · subst e
        exact Bool.eq_false_iff.mpr hp
      · exact findF_no f (i + 1) h' q e (by omega)
theorem ldM_ok {σ : Mem} {q i : Nat} (h : i < ldM σ q) : ldOK σ q i = true := by
  unfold ldM at h
  have key : (!ldOK σ q i) = false := by
    cases hf : findF (fun i => !ldOK σ q i) 0 9 with
    | none =>
      rw [hf] at h
      exact findF_no 9 0 hf i (by omega) (by simpa using h)
    | some k =>
      rw [hf] at h
      exact findF_before 9 0 k hf i (by omega) (by simpa using h)
  cases hz : ldOK σ q i with
  | true => rfl
  | false => rw [hz] at key; cases key
theorem inv_load {σ : Mem} {s : Int32} (hI : Inv σ) : Inv (opLoad σ s).2 := by
  refine inv_if (fun _ => ?_) (fun _ => inv_tlI hI _)
  show Inv (ldS σ (cut s) (ldM σ (cut s)))
  generalize cut s = q
  obtain ⟨h1, h2, h3, h4, h5⟩ := id hI.1
  have e : ∀ c, c ≠ 3 → ldS σ q (ldM σ q) c = σ c := fun c hc => by
    funext i
    show (if c = 3 ∧ i < _ then _ else σ c i) = σ c i
    rw [if_neg (fun z => hc z.1)]
  refine inv_house (n := nOf σ) hI ⟨by rw [e 0 (by omega)]; exact h1, h2, by rw [e 0 (by omega)]; exact h3, fun k hk => by rw [e 10 (by omega)]; exact h4 k hk, fun i hi => ?_⟩ (by rw [e 0 (by omega)]; exact hI.2.1) (fun c hc => e c (by omega))
  rw [e 1 (by omega), e 2 (by omega), e 4 (by omega), e 5 (by omega), e 6 (by omega), e 7 (by omega), e 8 (by omega), e 9 (by omega)]
  obtain ⟨a1, a2, a3, a4, a5, a6, a7, a8, a9⟩ := h5 i hi
  refine ⟨a1, a2, ?_, a4, a5, a6, a7, a8, a9⟩
  show rg (if 3 = 3 ∧ i < ldM σ q then σ (46 + q) i else σ 3 i) 0 999
  by_cases hm : i < ldM σ q
  · rw [if_pos ⟨rfl, hm⟩]
    have ok := ldM_ok hm
    unfold ldOK at ok
    obtain ⟨f1, f2⟩ := fit_v (p := 2) (by omega) (Bool.and_eq_true_iff.mp ok).2
    rw [i32_le] at f1 f2
    exact ⟨f1, f2⟩
  · rw [if_neg (fun z => hm z.2)]
    exact a3
theorem apRow_far {h : Mem} {r : Row} {i : Nat} (hi : i ≠ 0) (hi1 : i ≠ 1) : apRow h r 0 i = h 0 i := by
  unfold apRow
  by_cases h1 : r.1 = 20
  · rw [if_pos h1, ups_ne (fun z => hi1 z.2)]
  · rw [if_neg h1]
    by_cases h2 : 10 ≤ r.1
    · rw [if_pos h2, ups_cell (by omega)]
    · rw [if_neg h2]
      show (if 0 = 0 then (if i = 0 then _ else h 0 i) else _) = h 0 i
      rw [if_pos rfl, if_neg hi]
theorem apR_far {i : Nat} (hi : i ≠ 0) (hi1 : i ≠ 1) : ∀ (R : List Row) (h : Mem), apR h R 0 i = h 0 i
  | [], _ => rfl
  | r :: R, h => (apR_far hi hi1 R (apRow h r)).trans (apRow_far hi hi1)
theorem inv_txS {σ : Mem} {R : List Row} (hI : Inv σ) (hv : vR (nOf σ) R) : Inv (txS σ R) := by
  have H := hI.1.rows hv R.length (Nat.le_refl _)
  rw [List.take_length] at H
  have e : ∀ c, c < 11 → txS σ R c = apR σ R c := fun c hc => if_pos hc
  exact inv_house hI (hi_eq e H) (by rw [e 0 (by omega), apR_far (by omega) (by omega)]; exact hI.2.1) (fun c hc => if_neg (by omega))
theorem inv_text {σ : Mem} (hI : Inv σ) : Inv (opText σ).2 := by
  have go : ∀ τ, Inv τ → Inv (ups τ 43 0 0) := fun τ h => inv_up h (by omega) (fun h => by omega) (fun _ => by unfold rg; decide) (fun h => by omega) (by omega) (by omega)
  obtain ⟨L, hL, e, hT⟩ := inv_tape hI
  have ec : cut (σ 43 0) = L := by rw [e, cut_nI (by omega)]
  have hk : ∀ it R, txtOf σ = .inr (it, R) → vR (nOf σ) R := fun it R h => by
    unfold txtOf at h
    rw [ec] at h
    exact pText_good (n0 := nOf σ) hT 120 1 (nOf σ) 0 [] (Nat.zero_le _) (fun k hk => absurd hk (by show ¬ k < 0; omega)) rfl it R h
  unfold opText
  split
  · exact go σ hI
  · rename_i it R h
    exact go _ (inv_txS hI (hk it R h))
