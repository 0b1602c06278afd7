/-! calls: a callee's world is part of the caller's, by a map of the cells -/
def mapE (ι : Nat → Nat) (s : ShE) : ShE := match s with
  | .inl o => .inl (o.1, o.2.map (Option.map ι))
  | .inr (.inl n) => .inr (.inl n)
  | .inr (.inr t) => .inr (.inr (t.1, t.2.map ι))
/-- sh' lies in sh by ι -/
def Sub (sh' : Shp) (ι : Nat → Nat) (sh : Shp) : Prop := (∀ k, k < sh'.length → sh[ι k]? = (sh'[k]?).map (mapE ι)) ∧ (∀ i j, i < sh'.length → j < sh'.length → ι i = ι j → i = j) ∧ ∀ j, 1000 ≤ j → ι j = j
/-- what the caller's memory is behind the call -/
def Mrg (n' : Nat) (ι : Nat → Nat) (n : Nat) (M M' M2 : Mem) : Prop := (∀ j, j < n' → M2 (ι j) = M' j) ∧ ∀ c, c < n → (∀ j, j < n' → ι j ≠ c) → M2 c = M c
theorem cel_map {cts : Nat → ClassId} {ad ι : Nat → Nat} {M M' : Mem} {k : Nat} (h : M (ι k) = M' k) (s : ShE) : cel cts ad M (ι k) (mapE ι s) = cel cts (fun j => ad (ι j)) M' k s := by
  rcases s with o | n | t
  · show (Sum.inr _ : va_E) = Sum.inr _
    congr 2
    show List.mapIdx _ (o.2.map (Option.map ι)) = _
    apply List.ext_getElem?
    intro i
    rw [List.getElem?_mapIdx, List.getElem?_mapIdx, List.getElem?_map]
    cases o.2[i]? with
    | none => rfl
    | some f =>
      cases f with
      | none => show some (Value.int _) = some (Value.int _); rw [h]
      | some r => rfl
  · show (Sum.inl _ : va_E) = Sum.inl _
    rw [h]
  · show (Sum.inl _ : va_E) = Sum.inl _
    have h1 : (t.2.map ι).length = t.2.length := List.length_map ..
    have h2 : (fun k : Nat => ((t.2.map ι)[k]?).map ad) = (fun k : Nat => (t.2[k]?).map (fun j => ad (ι j))) := by
      funext k
      rw [List.getElem?_map]
      cases t.2[k]? <;> rfl
    show Sum.inl (cts t.1, (t.2.map ι).length, Sum.inr (Sum.inr (Sum.inr (Sum.inr (fun k => ((t.2.map ι)[k]?).map ad))))) = _
    rw [h1, h2]
theorem Sub.lt {sh' sh : Shp} {ι : Nat → Nat} (h : Sub sh' ι sh) {k : Nat} (hk : k < sh'.length) : ι k < sh.length := by
  have h1 := h.1 k hk
  rw [List.getElem?_eq_getElem hk] at h1
  exact (List.getElem?_eq_some_iff.mp h1).1
theorem Sub.asub {sh' sh : Shp} {ι ad : Nat → Nat} (h : Sub sh' ι sh) : ∀ q, aset sh' (fun j => ad (ι j)) q → aset sh ad q := by
  rintro q ⟨j, hj, rfl⟩
  exact ⟨ι j, h.lt hj, rfl⟩
theorem Sub.inj {sh' sh : Shp} {ι ad : Nat → Nat} (h : Sub sh' ι sh) (hI : Inj sh ad) : Inj sh' (fun j => ad (ι j)) := fun i j hi hj e => h.2.1 i j hi hj (hI _ _ (h.lt hi) (h.lt hj) e)
theorem Sub.P {sh' sh : Shp} {ι ad : Nat → Nat} {cts : Nat → ClassId} {D : va_G} {M Mc : Mem} {H : Heap} (h : Sub sh' ι sh) (hM : ∀ j, j < sh'.length → Mc j = M (ι j)) (hP : va_P D vwCl (wld cts ad M sh) H) : va_P D vwCl (wld cts (fun j => ad (ι j)) Mc sh') H := by
  intro k q hq
  obtain ⟨s, hs, rfl⟩ := wld_inv hq
  have hk : k < sh'.length := (List.getElem?_eq_some_iff.mp hs).1
  have h1 := h.1 k hk
  rw [hs] at h1
  have h2 := hP (ι k) _ (wld_at h1)
  rw [cel_map (hM k hk).symm] at h2
  exact h2
theorem Sub.back {sh' sh : Shp} {ι ad : Nat → Nat} {cts : Nat → ClassId} {D : va_G} {M M' M2 : Mem} {H H1 : Heap} (h : Sub sh' ι sh) (hI : Inj sh ad) (hm : Mrg sh'.length ι sh.length M M' M2) (hP : va_P D vwCl (wld cts ad M sh) H)
    (hP1 : va_P D vwCl (wld cts (fun j => ad (ι j)) M' sh') H1) (hk : ∀ q : Nat, q < H.size → ¬ aset sh' (fun j => ad (ι j)) q → H1[q]? = H[q]?) : va_P D vwCl (wld cts ad M2 sh) H1 := by
  intro c q hq
  obtain ⟨s, hs, rfl⟩ := wld_inv hq
  have hc : c < sh.length := (List.getElem?_eq_some_iff.mp hs).1
  by_cases hex : ∃ j, j < sh'.length ∧ ι j = c
  · obtain ⟨j, hj, rfl⟩ := hex
    have h1 := h.1 j hj
    rw [hs, List.getElem?_eq_getElem hj] at h1
    have h2 : s = mapE ι sh'[j] := Option.some.inj h1
    have h3 := hP1 j _ (wld_at (List.getElem?_eq_getElem hj))
    rw [h2, cel_map (hm.1 j hj)]
    exact h3
  · have hne : ∀ j, j < sh'.length → ι j ≠ c := fun j hj e => hex ⟨j, hj, e⟩
    rw [cel_ne (hm.2 c hc hne) s]
    have h1 := hP c _ (wld_at hs)
    have h1' : va_at D vwCl (ad c, cel cts ad M c s) H := h1
    exact h1'.kept (hk _ (h1'.lt) (fun ⟨j, hj, e⟩ => hne j hj (hI _ _ (h.lt hj) hc e.symm)))
theorem WU.blind {D : va_G} {cts : Nat → ClassId} {sh : Shp} {ad : Nat → Nat} {M : Mem} {av : List Value} : FrameBlind (va_Pc av (WU D cts sh ad M)) := by
  intro a U g mk h
  exact ⟨h.1, va_K.moved (u := U) (U := U.calling g mk a) (Vm.Alike.refl U.vm) h.2.1, h.2.2.1, h.2.2.2.1, SF.same (s := U) (U := U.calling g mk a) h.2.2.2.2 rfl⟩
/-- the callee's start, out of the caller's frame -/
theorem WU.of {K : MI} {sh sh' : Shp} {ι : Nat → Nat} {p : Program} {s : State} {m : MethodId} {args : Array Value} {meth : Method} {c : Code} {D : va_G} {cts : Nat → ClassId} {ad : Nat → Nat} {H : Heap} {locs : List Loc} {M Mc : Mem}
    (F : GX K sh D cts ad p s m args meth c) (hP : va_P D vwCl (wld cts ad M sh) H) (hS : va_S (aset sh ad) s.heap H locs) (h : Sub sh' ι sh) (hM : ∀ j, j < sh'.length → Mc j = M (ι j)) (U : State) (hU : U.heap = H) (hW : s.WarmedH U.vm) : WU D cts sh' (fun j => ad (ι j)) Mc U := by
  refine ⟨va_K.moved hW.alike F.2.1, by rw [hU]; exact h.P hM hP, h.inj F.2.2.1, ?_⟩
  rw [hU]
  have h1 := F.2.2.2.warm (H1 := H) hW (fun a ha hn => hS.2.1 a ha hn) h.asub
  obtain ⟨a, b, c, d, e, f, g⟩ := h1
  have hi : ∀ j, 1000 ≤ j → ad j = ad (ι j) := fun j hj => by rw [h.2.2 j hj]
  refine ⟨fun t ht => ?_, b, ?_, ?_, fun q hq => ?_, f, g⟩
  · have := a t ht
    rw [hi (1000 + t) (by omega)] at this
    exact this
  · rcases c with c | c
    · exact Or.inl c
    · rw [hi 1300 (by omega)] at c
      exact Or.inr c
  · have h2 : (fun i => ad (1100 + i)) = fun i => ad (ι (1100 + i)) := funext fun i => hi _ (by omega)
    have h3 : (fun i => ad (1200 + i)) = fun i => ad (ι (1200 + i)) := funext fun i => hi _ (by omega)
    rw [h2, h3] at d
    exact d
  · have := e q hq
    rw [hi (1100 + q.2.2.2) (by omega)] at this
    exact this
/-- from a run of the callee to what stands behind the call -/
theorem G_run {K : MI} {sh sh' : Shp} {ι : Nat → Nat} {d : Nat} {Q Q' : Option Value → Mem → Prop} {pc : Nat} {ls : List (Option Value)} {rest : List Value} {M : Mem} {mg : Mem → Mem} {av : Array Value}
    {p : Program} {l : Launch} {e : Env} {s : State} {m : MethodId} {args : Array Value} {below : List Frame} {meth : Method} {c : Code} {D : va_G} {cts : Nat → ClassId} {ad : Nat → Nat} {H : Heap} {locs : List Loc} {lsA : Array Slot} {st0 : List Value}
    (h : Sub sh' ι sh) (hmg : ∀ M', Mrg sh'.length ι sh.length M M' (mg M'))
    (kk : ∀ v M', Q' v M' → G K sh d Q (pc + 3) ls ((v.map (tv ι)).toList ++ rest) (mg M'))
    (F : GX K sh D cts ad p s m args meth c) (hP : va_P D vwCl (wld cts ad M sh) H) (hS : va_S (aset sh ad) s.heap H locs) (hl : LH ad lsA K.2.2.1 ls)
    (hr : va_Run p l e (rmd d) s m args below meth c H locs 0 0 0 0 (F0 m pc lsA st0) (rest.map (tv ad)) (QF D cts sh' (fun j => ad (ι j)) Q' av) (aset sh' (fun j => ad (ι j)))) :
    W p l e (rmd d) s m args below meth c H locs 0 0 (MQ below (QF D cts sh ad Q) args s 0 0 (aset sh ad)) (F0 m pc lsA st0) := by
  intro T hT X
  obtain ⟨v, st₀, t, T', L, h0, X', hL, e1, e2, ⟨⟨v', M', hv, hQ, hP1⟩, hz, hk⟩, st⟩ := hr T hT X
  cases hv
  rw [h0] at hz hk
  have hP2 := h.back F.2.2.1 (hmg M') hP hP1 hk
  have hS2 : va_S (aset sh ad) s.heap T'.heap (locs ++ L) := ⟨Nat.le_trans hS.1 (by rw [e1]; exact hz), fun q h1 h2 => by rw [e1, hk q (Nat.lt_of_lt_of_le h1 hS.1) (fun z => h2 (h.asub q z))]; exact hS.2.1 q h1 h2, fun q hq => by
    rcases List.mem_append.mp hq with h1 | h1
    · exact hS.2.2 q h1
    · exact h.asub _ (hL q h1)⟩
  obtain ⟨t2, a1, b1⟩ := kk v' M' hQ F (by rw [e1]; exact hP2) hS2 hl T' rfl X'
  refine ⟨t2, st t2 ?_, b1⟩
  have hst : ((v'.map (tv ι)).toList ++ rest).map (tv ad) = (v'.map (tv fun j => ad (ι j))).toList ++ rest.map (tv ad) := by
    rw [List.map_append]
    congr 1
    cases v' with
    | none => rfl
    | some w => show [tv ad (tv ι w)] = [tv _ w]; rw [tv_tv]
  rw [hst] at a1
  exact a1
/-- what the tables say of a method that is called: of an object (V), of none (S) -/
def VI (y : MI) (n : Nat) : Prop := Cond.code y.1 y.2.1 y.2.2.1 y.2.2.2 ∈ gtbl ∧ Cond.instanceMethod y.1 ∈ gtbl ∧ Cond.selects y.1.cls y.1 y.1 ∈ gtbl ∧ Cond.initialized y.1.cls ∈ gtbl ∧ (y.1.cls ≠ "java/lang/invoke/MethodHandle" ∧ y.1.cls ≠ "java/lang/invoke/VarHandle" ∧ (parseMethodDescriptor y.1.desc).map (fun d => d.parameters.length) = some n) ∧ y.2.2.1 ≤ 90
def SI (y : MI) (n : Nat) : Prop := Cond.code y.1 y.2.1 y.2.2.1 y.2.2.2 ∈ gtbl ∧ Cond.static y.1 ∈ gtbl ∧ Cond.initialized y.1.cls ∈ gtbl ∧ (y.1.cls ≠ "java/lang/invoke/MethodHandle" ∧ y.1.cls ≠ "java/lang/invoke/VarHandle" ∧ (parseMethodDescriptor y.1.desc).map (fun d => d.parameters.length) = some n) ∧ y.2.2.1 ≤ 90
theorem tbl_good : GoodIn gtbl gtbl := fun w hw => ⟨hw, good_of_word (List.mem_filter.mp hw).2⟩
theorem good_y {y : MI} (h : Cond.code y.1 y.2.1 y.2.2.1 y.2.2.2 ∈ gtbl) : GoodIn gtbl (Cond.code y.1 y.2.1 y.2.2.1 y.2.2.2 :: gtbl) := by
  intro w hw
  rcases List.mem_cons.mp hw with rfl | hw
  · exact ⟨h, (tbl_good _ h).2⟩
  · exact tbl_good w hw
theorem rmd_le {d d' n : Nat} (h : d' + 1 ≤ d) (hn : n ≤ 90) : (rmd d').frames + 1 ≤ (rmd d).frames ∧ 8 + (n + 11) + (rmd d').locals ≤ (rmd d).locals := by
  refine ⟨h, ?_⟩
  show 8 + (n + 11) + 120 * d' ≤ 120 * d
  omega
section Calls
variable {K : MI} {sh : Shp} {d : Nat} {Q : Option Value → Mem → Prop} {pc : Nat} {ls : List (Option Value)} {st : List Value} {M : Mem}
theorem map_args (ad ι : Nat → Nat) (as rest : List Value) : (((as.map (tv ι)).reverse ++ rest).map (tv ad)) = (as.map (tv fun j => ad (ι j))).reverse ++ rest.map (tv ad) := by
  rw [List.map_append, List.map_reverse, List.map_map]
  congr 2
  apply List.map_congr_left
  intro v _
  exact tv_tv ad ι v
theorem G_callV {idx n : Nat} (y : MI) (sh' : Shp) (ι : Nat → Nat) (mg : Mem → Mem) (d' r : Nat) (as rest : List Value) {Mc : Mem} {Q' : Option Value → Mem → Prop}
    (hc : CT y sh' d' (.ref r :: as) Mc Q') (h : Sub sh' ι sh) (hM : ∀ j, j < sh'.length → Mc j = M (ι j)) (hmg : ∀ M', Mrg sh'.length ι sh.length M M' (mg M'))
    (hy : VI y n) (hn : as.length = n) (hlink : Cond.methodLink K.1.cls idx y.1 ∈ gtbl) (hrec : ∃ ci fs q, sh'[r]? = some (.inl (ci, fs)) ∧ vwCl[ci]? = some q ∧ q.1 = y.1.cls)
    (hd' : d' + 1 ≤ d) (hrest : (rest.map fun v => v.category).sum ≤ 8) (hd : decode K.2.1 pc = .ok (.invokevirtual idx, 3)) (hst : st = (as.map (tv ι)).reverse ++ .ref (ι r) :: rest)
    (kk : ∀ v M', Q' v M' → G K sh d Q (pc + 3) ls ((v.map (tv ι)).toList ++ rest) (mg M')) : G K sh d Q pc ls st M := by
  intro p l e s m args below meth c D cts ad H locs lsA F hP hS hl
  subst hst
  obtain ⟨ci, fs, q, hr1, hr2, hr3⟩ := hrec
  obtain ⟨v1, v2, v3, v4, v5, v6⟩ := hy
  have hts := F.1.2.2.2.2.1
  have hrl : r < sh'.length := (List.getElem?_eq_some_iff.mp hr1).1
  have hPc := h.P (D := D) (cts := cts) (ad := ad) hM hP
  have hrec2 := va_recv F.2.1 hPc hr2 (wld_at hr1)
  rw [hr3] at hrec2
  refine G_run (av := (Value.ref (ad (ι r)) :: as.map (tv fun j => ad (ι j))).toArray) h hmg kk F hP hS hl ?_
  refine va_runV (As := as.map (tv fun j => ad (ι j))) (n := n) (Ts := gtbl) (own := K.1.cls) (y := y.1) (C := y.1.cls) ⟨F.1.1, F.1.2.1, F.1.2.2.1, F.1.2.2.2.1, hts⟩ (hc l D cts (fun j => ad (ι j)))
    ⟨callB_of n hts (good_y v1) rfl rfl rfl (hts _ v4) (hts _ hlink) v5 (rmd_le hd' v6), hts _ v2, hts _ v3⟩
    ⟨WU.blind, hrec2, fun U hU hW => ⟨rfl, WU.of F hP hS h hM U hU hW⟩⟩ rfl (by rw [List.length_map]; exact hn) hl.1.1 (map_args ad ι as _) ?_ hd ⟨Nat.le_refl 0, Nat.le_refl 0⟩
  exact lv_room (by rw [tv_cats]; exact hrest)
theorem G_callS {idx n : Nat} (y : MI) (sh' : Shp) (ι : Nat → Nat) (mg : Mem → Mem) (d' : Nat) (as rest : List Value) {Mc : Mem} {Q' : Option Value → Mem → Prop}
    (hc : CT y sh' d' as Mc Q') (h : Sub sh' ι sh) (hM : ∀ j, j < sh'.length → Mc j = M (ι j)) (hmg : ∀ M', Mrg sh'.length ι sh.length M M' (mg M'))
    (hy : SI y n) (hn : as.length = n) (hlink : Cond.methodLink K.1.cls idx y.1 ∈ gtbl)
    (hd' : d' + 1 ≤ d) (hrest : (rest.map fun v => v.category).sum ≤ 8) (hd : decode K.2.1 pc = .ok (.invokestatic idx, 3)) (hst : st = (as.map (tv ι)).reverse ++ rest)
    (kk : ∀ v M', Q' v M' → G K sh d Q (pc + 3) ls ((v.map (tv ι)).toList ++ rest) (mg M')) : G K sh d Q pc ls st M := by
  intro p l e s m args below meth c D cts ad H locs lsA F hP hS hl
  subst hst
  obtain ⟨v1, v2, v4, v5, v6⟩ := hy
  have hts := F.1.2.2.2.2.1
  refine G_run (av := (as.map (tv fun j => ad (ι j))).toArray) h hmg kk F hP hS hl ?_
  refine va_runS (As := as.map (tv fun j => ad (ι j))) (n := n) (Ts := gtbl) (own := K.1.cls) (y := y.1) ⟨F.1.1, F.1.2.1, F.1.2.2.1, F.1.2.2.2.1, hts⟩ (hc l D cts (fun j => ad (ι j)))
    ⟨callB_of n hts (good_y v1) rfl rfl rfl (hts _ v4) (hts _ hlink) v5 (rmd_le hd' v6), hts _ v2⟩
    ⟨WU.blind, fun U hU hW => ⟨rfl, WU.of F hP hS h hM U hU hW⟩⟩ rfl (by rw [List.length_map]; exact hn) hl.1.1 (map_args ad ι as _) ?_ hd ⟨Nat.le_refl 0, Nat.le_refl 0⟩
  exact lv_room (by rw [tv_cats]; exact hrest)
theorem G_callSN {n : Nat} {y : MI} (sh' : Shp) (ι : Nat → Nat) (mg : Mem → Mem) (d' : Nat) (as rest : List Value) {Mc : Mem} {Q' : Option Value → Mem → Prop}
    (hc : CT y sh' d' as Mc Q') (h : Sub sh' ι sh) (hM : ∀ j, j < sh'.length → Mc j = M (ι j)) (hmg : ∀ M', Mrg sh'.length ι sh.length M M' (mg M'))
    (hy : SI y n) (hn : as.length = n) (hlink : K.1.cls = "WarmWalls$House" ∧ y.1 = yX4_isKind)
    (hd' : d' + 1 ≤ d) (hrest : (rest.map fun v => v.category).sum ≤ 8) (hd : decode K.2.1 pc = .ok (.invokestatic 110, 3)) (hst : st = (as.map (tv ι)).reverse ++ rest)
    (kk : ∀ v M', Q' v M' → G K sh d Q (pc + 3) ls ((v.map (tv ι)).toList ++ rest) (mg M')) : G K sh d Q pc ls st M := by
  intro p l e s m args below meth c D cts ad H locs lsA F hP hS hl
  subst hst
  obtain ⟨v1, v2, v4, v5, v6⟩ := hy
  have hts := F.1.2.2.2.2.1
  refine G_run (av := (as.map (tv fun j => ad (ι j))).toArray) h hmg kk F hP hS hl ?_
  have hnw := F.2.2.2.2.2.2.2.2.2
  rw [← hlink.1, ← hlink.2] at hnw
  refine va_runSN (As := as.map (tv fun j => ad (ι j))) (n := n) (Ts := gtbl) (own := K.1.cls) (y := y.1) ⟨F.1.1, F.1.2.1, F.1.2.2.1, F.1.2.2.2.1, hts⟩ (hc l D cts (fun j => ad (ι j)))
    ⟨va_cnB n hts (good_y v1) rfl rfl rfl hnw (hts _ v4) v5 (rmd_le hd' v6), hts _ v2, trivial⟩
    ⟨WU.blind, fun U hU hW => ⟨rfl, WU.of F hP hS h hM U hU hW⟩⟩ rfl (by rw [List.length_map]; exact hn) hl.1.1 (map_args ad ι as _) ?_ hd ⟨Nat.le_refl 0, Nat.le_refl 0⟩
  exact lv_room (by rw [tv_cats]; exact hrest)
end Calls
/-! in the same world -/
theorem mapE_id (s : ShE) : mapE (fun j => j) s = s := by
  rcases s with o | n | t
  · show Sum.inl (o.1, o.2.map (Option.map fun j => j)) = Sum.inl o
    rw [show (Option.map fun j : Nat => j) = id from funext fun x => by cases x <;> rfl, List.map_id]
  · rfl
  · show Sum.inr (Sum.inr (t.1, t.2.map fun j => j)) = Sum.inr (Sum.inr t)
    rw [show (fun j : Nat => j) = id from rfl, List.map_id]
theorem Sub.id (sh : Shp) : Sub sh (fun j => j) sh := ⟨fun k _ => by rw [show mapE (fun j => j) = _root_.id from funext mapE_id, Option.map_id]; rfl, fun _ _ _ _ h => h, fun _ _ => rfl⟩
theorem Mrg.id (n : Nat) (M M' : Mem) : Mrg n (fun j => j) n M M' M' := ⟨fun _ _ => rfl, fun c hc h => absurd rfl (h c hc)⟩
