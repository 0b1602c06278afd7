/-! objects come: what a constructor leaves -/
def rmi (d kc ks : Nat) : Room := { frames := d, cells := kc, slots := ks, locals := 120 * d }
def NA (h0 sz : Nat) : Nat → Prop := fun q => q = h0 ∨ sz ≤ q
/-- constructors that are linked as a nest's own -/
def NFs (U : State) : Prop := va_Nw (.methodLinkNest "WarmWalls$TextReader" 11 yX2_init "WarmWalls") U ∧ va_Nw (.methodLinkNest "WarmWalls" 27 yX3_init "WarmWalls") U ∧ va_Nw (.methodLinkNest "WarmWalls" 47 yX1_init "WarmWalls") U ∧ va_AO "WarmWalls$Sheet" U ∧ va_AO "java/lang/String" U
theorem ao_warm {C : String} {s U : State} (hW : s.WarmedH U.vm) (h : va_AO C s) : va_AO C U := va_AO.moved hW.alike h
theorem ao_same {C : String} {s U : State} (hv : U.vm = s.vm) (h : va_AO C s) : va_AO C U := va_AO.moved (by rw [hv]; exact Vm.Alike.refl _) h
def SF2 (ad : Nat → Nat) (A : Nat → Prop) (U : State) (H : Heap) : Prop := SF ad A U H ∧ NFs U
theorem SF2.warm {ad : Nat → Nat} {A B : Nat → Prop} {s U : State} {H H1 : Heap} (h : SF2 ad A s H) (hW : s.WarmedH U.vm) (hq : ∀ a : Nat, a < H.size → ¬ A a → H1[a]? = H[a]?) (hAB : ∀ q, B q → A q) : SF2 ad B U H1 := ⟨h.1.warm hW hq hAB, h.2.1.warmM hW, h.2.2.1.warmM hW, h.2.2.2.1.warmM hW, ao_warm hW h.2.2.2.2.1, ao_warm hW h.2.2.2.2.2⟩
theorem SF2.same {ad : Nat → Nat} {A : Nat → Prop} {s U : State} {H : Heap} (h : SF2 ad A s H) (hv : U.vm = s.vm) : SF2 ad A U H := ⟨h.1.same hv, h.2.1.same rfl hv.symm, h.2.2.1.same rfl hv.symm, h.2.2.2.1.same rfl hv.symm, ao_same hv h.2.2.2.2.1, ao_same hv h.2.2.2.2.2⟩
def LKI (own : String) (idx : Nat) (y : MethodName) : Prop := Cond.methodLink own idx y ∈ gtbl ∨ ∀ U, NFs U → va_Nw (.methodLinkNest own idx y "WarmWalls") U
def IPre (D : va_G) (cts : Nat → ClassId) (ad0 : Nat → Nat) (h0 sz ci : Nat) (fs : List Value) (U : State) : Prop :=
  U.heap.size = sz ∧ va_P D vwCl [(h0, .inr (ci, fs))] U.heap ∧ va_K D vwCl (tysOf cts) U ∧ SF2 ad0 (NA h0 sz) U U.heap
/-- the world that a constructor leaves -/
def IW (D : va_G) (cts : Nat → ClassId) (ad0 : Nat → Nat) (h0 sz : Nat) (sh : Shp) (PM : Mem → Prop) (H : Heap) : Prop :=
  ∃ (ad : Nat → Nat) (M : Mem), (∀ j, 1000 ≤ j → ad j = ad0 j) ∧ ad 0 = h0 ∧ PM M ∧ Inj sh ad ∧ (∀ j, 0 < j → j < sh.length → sz ≤ ad j) ∧ va_P D vwCl (wld cts ad M sh) H
def IPost (D : va_G) (cts : Nat → ClassId) (ad0 : Nat → Nat) (h0 sz : Nat) (sh : Shp) (PM : Mem → Prop) : Array Value → State → Outcome → State → Prop := fun _ st o t =>
  (o = .returned none ∧ IW D cts ad0 h0 sz sh PM t.heap) ∧ va_F (NA h0 sz) st t
def CI (y : MI) (ci : Nat) (fs : List Value) (sh : Shp) (PM : Mem → Prop) (d kc ks : Nat) : Prop :=
  ∀ (l : Launch) (D : va_G) (cts : Nat → ClassId) (ad0 : Nat → Nat) (h0 sz : Nat), Met l y.1 (.code y.1 y.2.1 y.2.2.1 y.2.2.2 :: gtbl) (rmi d kc ks) (va_Pc [.ref h0] (IPre D cts ad0 h0 sz ci fs)) (IPost D cts ad0 h0 sz sh PM) kc ks (NA h0 sz)
theorem IPre.blind {D : va_G} {cts : Nat → ClassId} {ad0 : Nat → Nat} {h0 sz ci : Nat} {fs av : List Value} : FrameBlind (va_Pc av (IPre D cts ad0 h0 sz ci fs)) := by
  intro a U g mk h
  exact ⟨h.1, h.2.1, h.2.2.1, va_K.moved (u := U) (U := U.calling g mk a) (Vm.Alike.refl U.vm) h.2.2.2.1, SF2.same (s := U) (U := U.calling g mk a) h.2.2.2.2 rfl⟩
theorem va_P_left {D : va_G} {cl : List vw_C} {ws w2 : va_W} {H : Heap} (h : va_P D cl (ws ++ w2) H) : va_P D cl ws H := fun k q hk => h k q (by rw [List.getElem?_append_left (List.getElem?_eq_some_iff.mp hk).1]; exact hk)
/-- what the class's number, slots and words are -/
def CF (ci : Nat) (fs : List Value) (C : String) (T : u_T) (N : Nat) (ty : Nat → FieldType) : Prop :=
  vwCl[ci]? = some (C, T, N) ∧ (∀ w ∈ u_ws C T N, w ∈ gtbl) ∧ (∀ k, k < N → parseFieldDescriptor (T k).2.2.1 = some (ty k)) ∧ (∀ j, j < N → defaultValue (ty j) = vp_V fs j) ∧ Cond.instantiable C N ∈ gtbl ∧ Cond.initialized C ∈ gtbl
/-- what the tables say of a constructor without parameters -/
def KI (y : MI) (C : String) : Prop := Cond.code y.1 y.2.1 y.2.2.1 y.2.2.2 ∈ gtbl ∧ Cond.instanceMethod y.1 ∈ gtbl ∧ y.1.cls = C ∧ y.1.name = "<init>" ∧ (y.1.cls ≠ "java/lang/invoke/MethodHandle" ∧ y.1.cls ≠ "java/lang/invoke/VarHandle" ∧ (parseMethodDescriptor y.1.desc).map (fun d => d.parameters.length) = some 0) ∧ y.2.2.1 ≤ 90 ∧ y.2.2.2 = none
theorem W_make {p : Program} {l : Launch} {e : Env} {R : Room} {s : State} {m : MethodId} {args : Array Value} {below : List Frame} {meth : Method} {c : Code} {H : Heap} {locs : List Loc} {k n : Nat} {Q : State → Prop}
    {cc : ByteArray} {own : String} {nL : Nat} {D : va_G} {cts : Nat → ClassId} {ad0 : Nat → Nat} {A : Nat → Prop} {ws : va_W}
    (hx : p.tables.exec = Jvm.exec) (hb : c.code = cc) (hml : c.maxLocals = nL) (hown : s.vm.findClass own = some m.cls) (hts : ∀ w ∈ gtbl, w.before args s = true)
    (hK : va_K D vwCl (tysOf cts) s) (hF : SF2 ad0 A s s.heap) (hA : ∀ q, s.heap.size ≤ q → A q) (hP : va_P D vwCl ws H) (hD : va_D A ws) (hS : va_S A s.heap H locs)
    {y : MI} {ci : Nat} {fs : List Value} {sh' : Shp} {PM' : Mem → Prop} {d' kc' ks' idx idx2 : Nat} {C : String} {T : u_T} {N : Nat} {ty : Nat → FieldType}
    (hC : CI y ci fs sh' PM' d' kc' ks') (hCF : CF ci fs C T N ty) (hKI : KI y C) (w1 : Cond.classLink own idx C ∈ gtbl) (w5 : LKI own idx2 y.1)
    (hroom : d' + 1 ≤ R.frames ∧ 8 + (y.2.2.1 + 11) + 120 * d' ≤ R.locals) (hcells : k + 1 + kc' ≤ R.cells) (hslots : n + N + ks' ≤ R.slots) (hsh : 0 < sh'.length)
    {pc : Nat} {lsA : Array Slot} {rest : List Value} (hsz : lsA.size = nL) (hrest : (rest.map fun v => v.category).sum ≤ 7)
    (d0 : decode cc pc = .ok (.new idx, 3)) (d1 : decode cc (pc + 3) = .ok (.dup, 1)) (d2 : decode cc (pc + 4) = .ok (.invokespecial idx2, 3))
    (kk : ∀ (ad' : Nat → Nat) (M' : Mem) (H1 : Heap) (locs1 : List Loc), PM' M' → (∀ j, 1000 ≤ j → ad' j = ad0 j) → va_P D vwCl (ws ++ wld cts ad' M' sh') H1 → va_D A (ws ++ wld cts ad' M' sh') → va_S A s.heap H1 locs1 →
      W p l e R s m args below meth c H1 locs1 (k + 1 + kc') (n + N + ks') Q (F0 m (pc + 7) lsA (.ref (ad' 0) :: rest))) :
    W p l e R s m args below meth c H locs k n Q (F0 m pc lsA rest) := by
  obtain ⟨f1, f2, f3, f4, f5, f6⟩ := hCF
  obtain ⟨g1, g2, g3, g4, g5, g6, g7⟩ := hKI
  refine va_new (ci := ci) (fs := fs) (C := C) (T := T) (N := N) hx hb hts f2 ty f3 hown (hts _ w1) (hts _ f5) (hts _ f6) hK hP hD hS hA f1 f4 (by omega) (by omega) d0 (fun q H1 hP1 hD1 hS1 => ?_)
  refine lv_dup hx hb d1 rfl ?_
  have hq1 : va_P D vwCl [(q, .inr (ci, fs))] H1 := fun i x hi => by
    have hi0 : i < 1 := (List.getElem?_eq_some_iff.mp hi).1
    refine hP1 (ws.length + i) x ?_
    rw [List.getElem?_append_right (by omega), Nat.add_sub_cancel_left]
    exact hi
  have hqe : (ws ++ [(q, (.inr (ci, fs) : va_E))])[ws.length]? = some (q, .inr (ci, fs)) := by rw [List.getElem?_append_right (Nat.le_refl _), Nat.sub_self]; rfl
  have hqA : A q := hD1.2 ws.length _ hqe
  have hNA : ∀ a, NA q H1.size a → A a := fun a ha => by
    rcases ha with rfl | ha
    · exact hqA
    · exact hA a (Nat.le_trans hS1.1 ha)
  have hsub : ∀ (i : Nat) (x : Nat × va_E), ws[i]? = some x → x.1 < H1.size ∧ x.1 ≠ q := fun i x hi => by
    have hl : i < ws.length := (List.getElem?_eq_some_iff.mp hi).1
    have hi2 : (ws ++ [(q, (.inr (ci, fs) : va_E))])[i]? = some x := by rw [List.getElem?_append_left hl]; exact hi
    refine ⟨(hP1 i x hi2).lt, fun hxq => ?_⟩
    have := hD1.1 i ws.length x _ hi2 hqe hxq
    omega
  have hr : va_Run p l e R s m args below meth c H1 locs (k + 1) (n + N) kc' ks' (F0 m (pc + 3 + 1) lsA (.ref q :: .ref q :: rest)) (.ref q :: rest) (IPost D cts ad0 q H1.size sh' PM' (Value.ref q :: []).toArray) (NA q H1.size) := by
    have hpre : PreS s H1 (va_Pc [.ref q] (IPre D cts ad0 q H1.size ci fs)) [.ref q] := ⟨IPre.blind, fun U hU hW => ⟨rfl, by rw [hU], by rw [hU]; exact hq1, va_K.moved hW.alike hK, by rw [hU]; exact hF.warm hW (fun a h1 h2 => hS1.2.1 a h1 h2) hNA⟩⟩
    have hsm : 1 + (rest.map fun v => v.category).sum ≤ 8 := by omega
    rcases w5 with w5 | w5
    · refine va_runI (As := []) (n := 0) (b := q) (Ts := gtbl) (own := own) (y := y.1) (bytes := y.2.1) (maxL := y.2.2.1) ⟨hx, hb, hml, hown, hts⟩ (hC l D cts ad0 q H1.size) ⟨?_, g4, hts _ g2⟩ hpre rfl rfl hsz rfl (lv_room hsm) d2 ⟨hcells, hslots⟩
      have h0 := callB_of (R := R) (rm := rmi d' kc' ks') 0 hts (good_y g1) rfl rfl rfl (by rw [g3]; exact hts _ f6) (hts _ w5) g5 hroom
      rw [g7] at h0 ⊢
      exact h0
    · refine va_runIN (host := "WarmWalls") (As := []) (n := 0) (b := q) (Ts := gtbl) (own := own) (y := y.1) (bytes := y.2.1) (maxL := y.2.2.1) ⟨hx, hb, hml, hown, hts⟩ (hC l D cts ad0 q H1.size) ⟨?_, g4, hts _ g2⟩ hpre rfl rfl hsz rfl (lv_room hsm) d2 ⟨hcells, hslots⟩
      have h0 := va_cnB (R := R) (rm := rmi d' kc' ks') 0 hts (good_y g1) rfl rfl rfl (w5 s hF.2) (by rw [g3]; exact hts _ f6) g5 hroom
      rw [g7] at h0 ⊢
      exact h0
  intro T0 hT X
  obtain ⟨v, st₀, t, T', L, h0, X', hL, e1, e2, ⟨⟨hv, ad', M', a1, a2, a3, a4, a5, a6⟩, hz, hk⟩, st⟩ := hr T0 hT X
  cases hv
  rw [h0] at hz hk
  have hkk := kk ad' M' T'.heap (locs ++ L) a3 a1 ?_ ?_ ?_
  · obtain ⟨t2, b1, b2⟩ := hkk T' rfl X'
    refine ⟨t2, st t2 ?_, b2⟩
    rw [a2] at b1
    exact b1
  · rw [e1]
    refine va_P.app (fun i x hi => ?_) a6
    obtain ⟨h1, h2⟩ := hsub i x hi
    exact (va_P_left hP1 i x hi).kept (hk _ h1 (fun z => by rcases z with z | z; exact h2 z; omega))
  · refine va_D.app hD ⟨(wld_D a4).1, fun i x hi => ?_⟩ (fun i j x z hi hj hxz => ?_)
    · obtain ⟨q2, hq2, rfl⟩ := wld_inv hi
      have hl : i < sh'.length := (List.getElem?_eq_some_iff.mp hq2).1
      rcases Nat.eq_zero_or_pos i with rfl | hpos
      · show A (ad' 0)
        rw [a2]; exact hqA
      · exact hA _ (Nat.le_trans hS1.1 (a5 i hpos hl))
    · obtain ⟨q2, hq2, rfl⟩ := wld_inv hj
      have hl : j < sh'.length := (List.getElem?_eq_some_iff.mp hq2).1
      obtain ⟨h1, h2⟩ := hsub i x hi
      rcases Nat.eq_zero_or_pos j with rfl | hpos
      · exact h2 (hxz.trans a2)
      · have := a5 j hpos hl
        have h3 : x.1 = ad' j := hxz
        omega
  · refine ⟨Nat.le_trans hS1.1 (by rw [e1]; exact hz), fun a h1 h2 => by rw [e1, hk a (Nat.lt_of_lt_of_le h1 hS1.1) (fun z => h2 (hNA a z))]; exact hS1.2.1 a h1 h2, fun a ha => ?_⟩
    rcases List.mem_append.mp ha with h1 | h1
    · exact hS1.2.2 a h1
    · exact hNA _ (hL a h1)
