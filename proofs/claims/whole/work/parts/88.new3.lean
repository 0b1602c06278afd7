theorem sf_ad {ad ad' : Nat → Nat} {A : Nat → Prop} {U : State} {H : Heap} (hi : ∀ j, 1000 ≤ j → ad' j = ad j) (h : SF ad A U H) : SF ad' A U H := by
  obtain ⟨a, b, c, d, e, f, g⟩ := h
  refine ⟨fun t ht => ?_, b, ?_, ?_, fun q hq => ?_, f, g⟩
  · rw [hi (1000 + t) (by omega)]
    exact a t ht
  · rcases c with c | c
    · exact Or.inl c
    · rw [hi 1300 (by omega)]
      exact Or.inr c
  · have h2 : (fun i => ad' (1100 + i)) = fun i => ad (1100 + i) := funext fun i => hi _ (by omega)
    have h3 : (fun i => ad' (1200 + i)) = fun i => ad (1200 + i) := funext fun i => hi _ (by omega)
    rw [h2, h3]
    exact d
  · rw [hi (1100 + q.2.2.2) (by omega)]
    exact e q hq
theorem arrI : Cond.arrayClass .int ∈ gtbl := tb_1 87 (by decide +kernel)
theorem objM : Cond.instanceMethod Lib.objectInit ∈ gtbl := tb_1 20 (by decide +kernel)
theorem objC : Cond.code Lib.objectInit { data := #[177] } 1 none ∈ gtbl := tb_1 21 (by with_unfolding_all rfl)
def adA (a : Nat) (ad0 : Nat → Nat) : Nat → Nat := fun j => match j with
  | 0 => a
  | j + 1 => ad0 (j + 1)
theorem N_fill {K : MI} {sh : Shp} {PM : Mem → Prop} {d kc ks : Nat} {D : va_G} {cts : Nat → ClassId} {ad0 : Nat → Nat} {h0 : Nat} {ws : va_W} {k n pc : Nat} {ls : List (Option Value)} {st : List Value} {i a N idx : Nat} {f : Nat → Int32} {x : Int32}
    (ha : ws[i]? = some (a, .inl (cts 0, N, .inl f))) (hN : N < 2147483648) (hlink : Cond.methodLink K.1.cls idx yJ7_fill_53178 ∈ gtbl) (hd1 : 1 ≤ d) (hrest : (st.map fun v => v.category).sum ≤ 8) (hd : decode K.2.1 pc = .ok (.invokestatic idx, 3)) (hk : k ≤ kc) (hn : n ≤ ks)
    (g : ∀ f', (∀ j, j < N → f' j = x) → GN K sh PM d kc ks D cts ad0 h0 (ws.set i (a, .inl (cts 0, N, .inl f'))) k n (pc + 3) ls st) : GN K sh PM d kc ks D cts ad0 h0 ws k n pc ls (.int x :: .ref a :: st) := by
  intro p l e s m args below meth c H locs lsA F hnm hK hF hP hD hS hl
  obtain ⟨v1, v2, v4, v5, v6⟩ := sJ7_fill_53178
  have hts := F.2.2.2.2.1
  have haA : NA h0 s.heap.size a := hD.2 i _ ha
  have hin : ∀ q, aset (shI N) (adA a ad0) q → q = a := fun q hq => by
    obtain ⟨j, hj, rfl⟩ := hq
    have hj1 : j < 1 := hj
    obtain rfl : j = 0 := by omega
    rfl
  have hc : CT mJ7_fill_53178 (shI N) 0 [.ref 0, .int x] (fun _ => f) (fun v M' => v = none ∧ ∀ j, j < N → M' 0 j = x) := c_J7_fill_53178 hN (fun M2 h => ⟨rfl, h⟩)
  have hPc : va_P D vwCl (wld cts (adA a ad0) (fun _ => f) (shI N)) H := fun j q hq => by
    obtain ⟨s', hs, rfl⟩ := wld_inv hq
    have hj1 : j < 1 := (List.getElem?_eq_some_iff.mp hs).1
    obtain rfl : j = 0 := by omega
    cases hs
    exact hP i _ ha
  have hr : va_Run p l e (rmi d kc ks) s m args below meth c H locs k n 0 0 (F0 m pc lsA (.int x :: .ref a :: st)) st (QF D cts (shI N) (adA a ad0) (fun v M' => v = none ∧ ∀ j, j < N → M' 0 j = x) [Value.ref a, .int x].toArray) (aset (shI N) (adA a ad0)) := by
    refine va_runS (As := [.ref a, .int x]) (n := 2) (Ts := gtbl) (own := K.1.cls) (y := mJ7_fill_53178.1) ⟨F.1, F.2.1, F.2.2.1, F.2.2.2.1, hts⟩ (hc l D cts (adA a ad0))
      ⟨callB_of 2 hts (good_y v1) rfl rfl rfl (hts _ v4) (hts _ hlink) v5 ⟨hd1, show 8 + (mJ7_fill_53178.2.2.1 + 11) + 120 * 0 ≤ 120 * d by omega⟩, hts _ v2⟩
      ⟨WU.blind, fun U hU hW => ⟨rfl, va_K.moved hW.alike hK, by rw [hU]; exact hPc, fun i j hi hj _ => by have h1 : i < 1 := hi; have h2 : j < 1 := hj; omega, ?_⟩⟩ rfl rfl hl.1.1 rfl (lv_room hrest) hd ⟨hk, hn⟩
    rw [hU]
    refine sf_ad (ad := ad0) (fun j hj => ?_) (hF.1.warm (B := aset (shI N) (adA a ad0)) hW (fun a h1 h2 => hS.2.1 a h1 h2) (fun q hq => by rw [hin q hq]; exact haA))
    cases j with
    | zero => omega
    | succ j => rfl
  intro T hT X
  obtain ⟨v, st₀, t, T', L, t0, X', hL, e1, e2, ⟨⟨v', M', hv, ⟨rfl, hM'⟩, hP1⟩, hz, hkp⟩, stp⟩ := hr T hT X
  cases hv
  rw [t0] at hz hkp
  have hP2 : va_P D vwCl (ws.set i (a, .inl (cts 0, N, .inl (M' 0)))) T'.heap := fun j q hq => by
    by_cases hji : i = j
    · subst hji
      rw [List.getElem?_set_self (List.getElem?_eq_some_iff.mp ha).1] at hq
      cases hq
      rw [e1]
      exact hP1 0 _ rfl
    · rw [List.getElem?_set_ne hji] at hq
      rw [e1]
      refine (hP j q hq).kept (hkp _ (hP j q hq).lt (fun z => hji ?_))
      exact hD.1 i j _ _ ha hq (hin _ z).symm
  have hS2 : va_S (NA h0 s.heap.size) s.heap T'.heap (locs ++ L) := ⟨Nat.le_trans hS.1 (by rw [e1]; exact hz), fun q h1 h2 => by rw [e1, hkp q (Nat.lt_of_lt_of_le h1 hS.1) (fun z => h2 (by rw [hin q z]; exact haA))]; exact hS.2.1 q h1 h2, fun q hq => by
    rcases List.mem_append.mp hq with h1 | h1
    · exact hS.2.2 q h1
    · rw [hin _ (hL q h1)]; exact haA⟩
  obtain ⟨t2, b1, b2⟩ := g (M' 0) hM' F hnm hK hF hP2 (hD.set ha) hS2 hl T' rfl X'
  exact ⟨t2, stp t2 b1, b2⟩
