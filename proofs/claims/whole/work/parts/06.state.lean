/-! A memory of ints by cells and places; a shape that says which cells there are; the judgement G over it. -/
abbrev Mem : Type := Nat → Nat → Int32
abbrev ShE : Type := (Nat × List (Option Nat)) ⊕ (Nat ⊕ (Nat × List Nat))
abbrev Shp : Type := List ShE
/-- a method: name, bytes, locals, return type -/
abbrev MI : Type := MethodName × ByteArray × Nat × Option FieldType
/-- a value whose references are numbers of cells, as the machine has it -/
def tv (ad : Nat → Nat) (v : Value) : Value := match v with
  | .ref j => .ref (ad j)
  | v => v
def fvl (ad : Nat → Nat) (M : Mem) (j k : Nat) (f : Option Nat) : Value := match f with
  | none => .int (M j k)
  | some r => .ref (ad r)
def cel (cts : Nat → ClassId) (ad : Nat → Nat) (M : Mem) (j : Nat) (s : ShE) : va_E := match s with
  | .inl o => .inr (o.1, o.2.mapIdx (fun k f => fvl ad M j k f))
  | .inr (.inl n) => .inl (cts 0, n, .inl (M j))
  | .inr (.inr t) => .inl (cts t.1, t.2.length, .inr (.inr (.inr (.inr (fun k => (t.2[k]?).map ad)))))
def wld (cts : Nat → ClassId) (ad : Nat → Nat) (M : Mem) (sh : Shp) : va_W := sh.mapIdx (fun j s => (ad j, cel cts ad M j s))
def ups (M : Mem) (c i : Nat) (x : Int32) : Mem := fun c' i' => if c' = c ∧ i' = i then x else M c' i'
def aset (sh : Shp) (ad : Nat → Nat) : Nat → Prop := fun q => ∃ j, j < sh.length ∧ q = ad j
def Inj (sh : Shp) (ad : Nat → Nat) : Prop := ∀ i j, i < sh.length → j < sh.length → ad i = ad j → i = j
def tysOf (cts : Nat → ClassId) : List (ClassId × FieldType) := [(cts 0, .int), (cts 1, .object "java/lang/String"), (cts 2, .object "WarmWalls$Sheet")]
theorem tv_cat (ad : Nat → Nat) (v : Value) : (tv ad v).category = v.category := by cases v <;> rfl
theorem tv_tv (ad ι : Nat → Nat) (v : Value) : tv ad (tv ι v) = tv (fun j => ad (ι j)) v := by cases v <;> rfl
theorem wld_len (cts : Nat → ClassId) (ad : Nat → Nat) (M : Mem) (sh : Shp) : (wld cts ad M sh).length = sh.length := by simp [wld]
theorem wld_at {cts : Nat → ClassId} {ad : Nat → Nat} {M : Mem} {sh : Shp} {j : Nat} {s : ShE} (h : sh[j]? = some s) : (wld cts ad M sh)[j]? = some (ad j, cel cts ad M j s) := by
  simp [wld, List.getElem?_mapIdx, h]
theorem wld_inv {cts : Nat → ClassId} {ad : Nat → Nat} {M : Mem} {sh : Shp} {j : Nat} {q : Nat × va_E} (h : (wld cts ad M sh)[j]? = some q) : ∃ s, sh[j]? = some s ∧ q = (ad j, cel cts ad M j s) := by
  rw [wld, List.getElem?_mapIdx] at h
  cases hs : sh[j]? with
  | none => rw [hs] at h; cases h
  | some s => rw [hs] at h; exact ⟨s, rfl, (Option.some.inj h).symm⟩
theorem wld_D {cts : Nat → ClassId} {ad : Nat → Nat} {M : Mem} {sh : Shp} (h : Inj sh ad) : va_D (aset sh ad) (wld cts ad M sh) := by
  refine ⟨fun i j p q hp hq e => ?_, fun k q hq => ?_⟩
  · obtain ⟨s, hs, rfl⟩ := wld_inv hp
    obtain ⟨s', hs', rfl⟩ := wld_inv hq
    exact h i j (List.getElem?_eq_some_iff.mp hs).1 (List.getElem?_eq_some_iff.mp hs').1 e
  · obtain ⟨s, hs, rfl⟩ := wld_inv hq
    exact ⟨k, (List.getElem?_eq_some_iff.mp hs).1, rfl⟩
theorem ups_same (M : Mem) (c i : Nat) (x : Int32) : ups M c i x c i = x := if_pos ⟨rfl, rfl⟩
theorem ups_ne {M : Mem} {c i c' i' : Nat} {x : Int32} (h : ¬ (c' = c ∧ i' = i)) : ups M c i x c' i' = M c' i' := if_neg h
theorem ups_cell {M : Mem} {c i c' : Nat} {x : Int32} (h : c' ≠ c) : ups M c i x c' = M c' := by
  funext k
  exact if_neg (fun q => h q.1)
theorem cel_ne {cts : Nat → ClassId} {ad : Nat → Nat} {M M' : Mem} {j : Nat} (h : M' j = M j) (s : ShE) : cel cts ad M' j s = cel cts ad M j s := by
  rcases s with o | n | t
  · show (Sum.inr _ : va_E) = Sum.inr _
    congr 2
    congr 1
    funext k f
    cases f with
    | none => show Value.int _ = Value.int _; rw [h]
    | some r => rfl
  · show (Sum.inl _ : va_E) = Sum.inl _
    rw [h]
  · rfl
theorem wld_put {cts : Nat → ClassId} {ad : Nat → Nat} {M : Mem} {sh : Shp} {j ci k : Nat} {fs : List (Option Nat)} {x : Int32} (hs : sh[j]? = some (.inl (ci, fs))) (hf : fs[k]? = some none) :
    (wld cts ad M sh).set j (ad j, .inr (ci, (fs.mapIdx (fun k f => fvl ad M j k f)).set k (.int x))) = wld cts ad (ups M j k x) sh := by
  apply List.ext_getElem?
  intro i
  by_cases hi : i = j
  · subst hi
    have hl : i < (wld cts ad M sh).length := by rw [wld_len]; exact (List.getElem?_eq_some_iff.mp hs).1
    rw [List.getElem?_set_self hl, wld_at hs]
    congr 2
    show (Sum.inr _ : va_E) = Sum.inr _
    congr 2
    apply List.ext_getElem?
    intro n
    by_cases hn : n = k
    · subst hn
      have hl2 : n < (fs.mapIdx (fun k f => fvl ad M i k f)).length := by rw [List.length_mapIdx]; exact (List.getElem?_eq_some_iff.mp hf).1
      rw [List.getElem?_set_self hl2, List.getElem?_mapIdx, hf]
      show some (Value.int x) = some (Value.int _)
      rw [ups_same]
    · rw [List.getElem?_set_ne (fun q => hn q.symm), List.getElem?_mapIdx, List.getElem?_mapIdx]
      congr 1
      funext f
      cases f with
      | none =>
        show Value.int _ = Value.int _
        rw [ups_ne (fun q => hn q.2)]
      | some r => rfl
  · rw [List.getElem?_set_ne (fun q => hi q.symm)]
    rw [wld, wld, List.getElem?_mapIdx, List.getElem?_mapIdx]
    congr 1
    funext s
    rw [cel_ne (ups_cell hi) s]
theorem wld_st {cts : Nat → ClassId} {ad : Nat → Nat} {M : Mem} {sh : Shp} {j n k : Nat} {x : Int32} (hs : sh[j]? = some (.inr (.inl n))) :
    (wld cts ad M sh).set j (ad j, .inl (cts 0, n, .inl (upd (M j) k x))) = wld cts ad (ups M j k x) sh := by
  apply List.ext_getElem?
  intro i
  by_cases hi : i = j
  · subst hi
    have hl : i < (wld cts ad M sh).length := by rw [wld_len]; exact (List.getElem?_eq_some_iff.mp hs).1
    rw [List.getElem?_set_self hl, wld_at hs]
    congr 2
    show (Sum.inl _ : va_E) = Sum.inl _
    congr 3
    congr 1
    funext q
    by_cases hq : q = k
    · subst hq; rw [ups_same]; simp [upd]
    · rw [ups_ne (fun z => hq z.2)]; simp [upd, hq]
  · rw [List.getElem?_set_ne (fun q => hi q.symm)]
    rw [wld, wld, List.getElem?_mapIdx, List.getElem?_mapIdx]
    congr 1
    funext s
    rw [cel_ne (ups_cell hi) s]
/-! locals -/
def lvl (ad : Nat → Nat) : Nat → List (Option Value) → List (Nat × Value)
  | _, [] => []
  | i, none :: r => lvl ad (i + 1) r
  | i, some v :: r => (i, tv ad v) :: lvl ad (i + 1) r
theorem lvl_in {ad : Nat → Nat} : ∀ (ls : List (Option Value)) (i k : Nat) (v : Value), ls[k]? = some (some v) → (i + k, tv ad v) ∈ lvl ad i ls
  | [], _, _, _, h => by simp at h
  | none :: r, i, 0, v, h => by simp at h
  | none :: r, i, k + 1, v, h => by
    have := lvl_in (ad := ad) r (i + 1) k v (by simpa using h)
    rw [show i + (k + 1) = i + 1 + k by omega]
    exact this
  | some w :: r, i, 0, v, h => by
    have : w = v := by simpa using h
    subst this
    exact List.mem_cons_self
  | some w :: r, i, k + 1, v, h => by
    have := lvl_in (ad := ad) r (i + 1) k v (by simpa using h)
    rw [show i + (k + 1) = i + 1 + k by omega]
    exact List.mem_cons_of_mem _ this
theorem lvl_out {ad : Nat → Nat} : ∀ (ls : List (Option Value)) (i : Nat) (q : Nat × Value), q ∈ lvl ad i ls → ∃ k v, ls[k]? = some (some v) ∧ q = (i + k, tv ad v)
  | [], _, _, h => by cases h
  | none :: r, i, q, h => by
    obtain ⟨k, v, h1, h2⟩ := lvl_out r (i + 1) q h
    exact ⟨k + 1, v, by simpa using h1, by rw [h2, show i + 1 + k = i + (k + 1) by omega]⟩
  | some w :: r, i, q, h => by
    rcases List.mem_cons.mp h with h | h
    · exact ⟨0, w, by simp, by rw [h]; rfl⟩
    · obtain ⟨k, v, h1, h2⟩ := lvl_out r (i + 1) q h
      exact ⟨k + 1, v, by simpa using h1, by rw [h2, show i + 1 + k = i + (k + 1) by omega]⟩
def LH (ad : Nat → Nat) (lsA : Array Slot) (nL : Nat) (ls : List (Option Value)) : Prop := lv_has lsA nL (lvl ad 0 ls) ∧ ∀ (k : Nat) (v : Value), ls[k]? = some (some v) → v.category = 1
theorem LH.at {ad : Nat → Nat} {lsA : Array Slot} {nL : Nat} {ls : List (Option Value)} (h : LH ad lsA nL ls) {i : Nat} {v : Value} (hi : ls[i]? = some (some v)) : lsA[i]? = some (.val (tv ad v)) := by
  have := lvl_in (ad := ad) ls 0 i v hi
  rw [Nat.zero_add] at this
  exact h.1.2.2 _ this
theorem LH.set {ad : Nat → Nat} {lsA lsB : Array Slot} {nL : Nat} {ls : List (Option Value)} (h : LH ad lsA nL ls) {i : Nat} {v : Value} (hc : v.category = 1)
    (h2 : lv_has lsB nL ((i, tv ad v) :: (lvl ad 0 ls).filter (fun q => !(q.1 == i) && !(q.1 + 1 == i && q.2.category == 2)))) : LH ad lsB nL (ls.set i (some v)) := by
  have key : ∀ k w, (ls.set i (some v))[k]? = some (some w) → (k = i ∧ w = v) ∨ (k ≠ i ∧ ls[k]? = some (some w)) := by
    intro k w hk
    by_cases hki : k = i
    · subst hki
      have hl : k < (ls.set k (some v)).length := (List.getElem?_eq_some_iff.mp hk).1
      rw [List.length_set] at hl
      rw [List.getElem?_set_self hl] at hk
      exact Or.inl ⟨rfl, (Option.some.inj (Option.some.inj hk)).symm⟩
    · rw [List.getElem?_set_ne (fun q => hki q.symm)] at hk
      exact Or.inr ⟨hki, hk⟩
  refine ⟨⟨h2.1, h2.2.1, fun q hq => ?_⟩, fun k w hk => ?_⟩
  · obtain ⟨k, w, hk, rfl⟩ := lvl_out _ _ _ hq
    rw [Nat.zero_add]
    rcases key k w hk with ⟨rfl, rfl⟩ | ⟨hne, hk⟩
    · exact h2.2.2 _ List.mem_cons_self
    · refine h2.2.2 _ (List.mem_cons_of_mem _ (List.mem_filter.mpr ⟨by have := lvl_in (ad := ad) ls 0 k w hk; rwa [Nat.zero_add] at this, ?_⟩))
      have hcat : (tv ad w).category = 1 := by rw [tv_cat]; exact h.2 k w hk
      simp [hne, hcat]
  · rcases key k w hk with ⟨rfl, rfl⟩ | ⟨hne, hk⟩
    · exact hc
    · exact h.2 k w hk
theorem lvl_args (ad : Nat → Nat) : ∀ (as : List Value) (i n : Nat), (∀ v ∈ as, v.category = 1) → lvl ad i (as.map some ++ List.replicate n none) = lv_args i (as.map (tv ad))
  | [], i, n, _ => by
    show lvl ad i (List.replicate n none) = []
    induction n generalizing i with
    | zero => rfl
    | succ n ih => exact ih (i + 1)
  | v :: as, i, n, h => by
    have hv : ¬ (tv ad v).category = 2 := by rw [tv_cat, h v List.mem_cons_self]; decide
    show (i, tv ad v) :: lvl ad (i + 1) _ = (i, tv ad v) :: lv_args (if (tv ad v).category = 2 then i + 2 else i + 1) _
    rw [if_neg hv]
    exact congrArg (List.cons _) (lvl_args ad as (i + 1) n (fun w hw => h w (List.mem_cons_of_mem _ hw)))
theorem lg_sl_len : ∀ (as : List Value), (∀ v ∈ as, v.category = 1) → (lg_sl as).length = as.length
  | [], _ => rfl
  | v :: as, h => by
    have hv : ¬ v.category = 2 := by rw [h v List.mem_cons_self]; decide
    show ((if v.category = 2 then [Slot.val v, .second] else [.val v]) ++ lg_sl as).length = as.length + 1
    rw [if_neg hv, List.length_append, lg_sl_len as (fun w hw => h w (List.mem_cons_of_mem _ hw))]
    simp; omega
/-! what nobody writes: tables, a static number, the String constants -/
def tMost : List Int32 := [6, 300, 999, 20, 7, 1, 3, 24, 3]
def tLeast : List Int32 := [0, 0, 0, 1, 0, 0, 0, 0, 0]
def tAbove : List Int32 := [-1, 0, 0, 2, 1, 0, 2]
def strLen : List Nat := [4, 6, 4, 5, 7, 4, 8, 4, 4, 4, 5, 4, 6, 3]
def strByt : List (List Int32) := [[101, 118, 101, 110], [107, 105, 110, 100, 108, 121], [106, 117, 115, 116], [109, 105, 115, 101, 114], [115, 97, 105, 110, 116, 108, 121], [115, 108, 111, 119], [115, 112, 105, 116, 101, 102, 117, 108], [119, 97, 114, 109], [99, 111, 97, 108], [119, 97, 108, 108], [104, 101, 97, 116, 115], [97, 119, 97, 121], [100, 97, 109, 112, 101, 114], [111, 117, 116]]
def strRefs : List (String × Nat × String × Nat) := [("WarmWalls$TextReader", 54, "out", 13), ("WarmWalls$TextReader", 63, "damper", 12), ("WarmWalls$TextReader", 83, "away", 11), ("WarmWalls$TextReader", 107, "even", 0), ("WarmWalls$TextReader", 109, "kindly", 1), ("WarmWalls$TextReader", 111, "just", 2), ("WarmWalls$TextReader", 113, "miser", 3), ("WarmWalls$TextReader", 115, "saintly", 4), ("WarmWalls$TextReader", 117, "slow", 5), ("WarmWalls$TextReader", 119, "spiteful", 6), ("WarmWalls$TextReader", 121, "warm", 7), ("WarmWalls$TextReader", 123, "coal", 8), ("WarmWalls$TextReader", 125, "wall", 9), ("WarmWalls$TextReader", 127, "heats", 10), ("WarmWallsModel", 48, "even", 0), ("WarmWallsModel", 50, "kindly", 1), ("WarmWallsModel", 52, "just", 2), ("WarmWallsModel", 54, "miser", 3), ("WarmWallsModel", 56, "saintly", 4), ("WarmWallsModel", 58, "slow", 5), ("WarmWallsModel", 60, "spiteful", 6), ("WarmWallsModel", 66, "warm", 7), ("WarmWallsModel", 68, "coal", 8), ("WarmWallsModel", 70, "wall", 9), ("WarmWallsModel", 72, "heats", 10), ("WarmWallsModel", 318, "away", 11), ("WarmWallsModel", 320, "damper", 12), ("WarmWallsModel", 325, "out", 13)]
def tnm (t : Nat) : String := ["MOST", "LEAST", "ABOVE"].getD t ""
def tvl (t : Nat) : List Int32 := [tMost, tLeast, tAbove].getD t []
def nst (t : Nat) : Nat := [62, 65, 107].getD t 0
def SF (ad : Nat → Nat) (A : Nat → Prop) (U : State) (H : Heap) : Prop :=
  (∀ t, t < 3 → va_Z "WarmWalls" (tnm t) "[I" (.ref (ad (1000 + t))) A U H ∧ va_T .int (ad (1000 + t)) (tvl t).length (fun j => .int ((tvl t).getD j 0)) A U H) ∧
  va_Z "java/lang/String" "COMPACT_STRINGS" "Z" (.int 1) A U H ∧
  (va_Z "jdk/internal/util/Preconditions" "SIOOBE_FORMATTER" "Ljava/util/function/BiFunction;" .null A U H ∨ va_Z "jdk/internal/util/Preconditions" "SIOOBE_FORMATTER" "Ljava/util/function/BiFunction;" (.ref (ad 1300)) A U H) ∧
  vk_S 14 strLen strByt (fun i => ad (1100 + i)) (fun i => ad (1200 + i)) A U H ∧
  (∀ q ∈ strRefs, vk_R q.1 q.2.1 q.2.2.1 (ad (1100 + q.2.2.2)) U) ∧
  (∀ t, t < 3 → va_Nw (.fieldLinkNest "WarmWalls$House" (nst t) "WarmWalls" (tnm t) "[I" "WarmWalls") U) ∧
  va_Nw (.methodLinkNest "WarmWalls$House" 110 yX4_isKind "WarmWalls") U
theorem SF.warm {ad : Nat → Nat} {A B : Nat → Prop} {s U : State} {H H1 : Heap} (h : SF ad A s H) (hW : s.WarmedH U.vm) (hq : ∀ a : Nat, a < H.size → ¬ A a → H1[a]? = H[a]?) (hAB : ∀ q, B q → A q) : SF ad B U H1 := by
  obtain ⟨a, d, e, f, g, n1, n2⟩ := h
  have hv := hW.alike
  refine ⟨fun t ht => ⟨(((a t ht).1.moved hv).kept hq).narrow hAB, (((a t ht).2.moved hv).kept hq).narrow hAB⟩, ((d.moved hv).kept hq).narrow hAB, ?_, ((f.moved hv).kept hq).narrow hAB, fun q hq => (g q hq).warm hW, fun t ht => (n1 t ht).warmF hW, n2.warmM hW⟩
  rcases e with e | e
  · exact Or.inl (((e.moved hv).kept hq).narrow hAB)
  · exact Or.inr (((e.moved hv).kept hq).narrow hAB)
theorem SF.same {ad : Nat → Nat} {A : Nat → Prop} {s U : State} {H : Heap} (h : SF ad A s H) (hv : U.vm = s.vm) : SF ad A U H := by
  obtain ⟨a, d, e, f, g, n1, n2⟩ := h
  have hv2 : s.vm.Alike U.vm := by rw [hv]; exact Vm.Alike.refl _
  refine ⟨fun t ht => ⟨(a t ht).1.moved hv2, (a t ht).2.moved hv2⟩, d.moved hv2, ?_, f.moved hv2, fun q hq => (g q hq).same hv, fun t ht => (n1 t ht).same rfl hv.symm, n2.same rfl hv.symm⟩
  rcases e with e | e
  · exact Or.inl (e.moved hv2)
  · exact Or.inr (e.moved hv2)
/-! the room, the frame's constants, the judgements -/
def rmd (d : Nat) : Room := { frames := d, cells := 0, slots := 0, locals := 120 * d }
def WU (D : va_G) (cts : Nat → ClassId) (sh : Shp) (ad : Nat → Nat) (M : Mem) (U : State) : Prop :=
  va_K D vwCl (tysOf cts) U ∧ va_P D vwCl (wld cts ad M sh) U.heap ∧ Inj sh ad ∧ SF ad (aset sh ad) U U.heap
def QF (D : va_G) (cts : Nat → ClassId) (sh : Shp) (ad : Nat → Nat) (Q : Option Value → Mem → Prop) : Array Value → State → Outcome → State → Prop := fun _ st o t =>
  (∃ (v : Option Value) (M' : Mem), o = .returned (v.map (tv ad)) ∧ Q v M' ∧ va_P D vwCl (wld cts ad M' sh) t.heap) ∧ va_F (aset sh ad) st t
def CT (y : MI) (sh : Shp) (d : Nat) (as : List Value) (M : Mem) (Q : Option Value → Mem → Prop) : Prop :=
  ∀ (l : Launch) (D : va_G) (cts : Nat → ClassId) (ad : Nat → Nat), Met l y.1 (.code y.1 y.2.1 y.2.2.1 y.2.2.2 :: gtbl) (rmd d) (va_Pc (as.map (tv ad)) (WU D cts sh ad M)) (QF D cts sh ad Q) 0 0 (aset sh ad)
def FX (K : MI) (p : Program) (s : State) (m : MethodId) (args : Array Value) (meth : Method) (c : Code) : Prop :=
  p.tables.exec = Jvm.exec ∧ c.code = K.2.1 ∧ c.maxLocals = K.2.2.1 ∧ s.vm.findClass K.1.cls = some m.cls ∧ (∀ w ∈ gtbl, w.before args s = true) ∧ meth.sig.returnType = K.2.2.2 ∧ meth.locks = false
def GX (K : MI) (sh : Shp) (D : va_G) (cts : Nat → ClassId) (ad : Nat → Nat) (p : Program) (s : State) (m : MethodId) (args : Array Value) (meth : Method) (c : Code) : Prop :=
  FX K p s m args meth c ∧ va_K D vwCl (tysOf cts) s ∧ Inj sh ad ∧ SF ad (aset sh ad) s s.heap
def G (K : MI) (sh : Shp) (d : Nat) (Q : Option Value → Mem → Prop) (pc : Nat) (ls : List (Option Value)) (st : List Value) (M : Mem) : Prop :=
  ∀ ⦃p : Program⦄ ⦃l : Launch⦄ ⦃e : Env⦄ ⦃s : State⦄ ⦃m : MethodId⦄ ⦃args : Array Value⦄ ⦃below : List Frame⦄ ⦃meth : Method⦄ ⦃c : Code⦄ ⦃D : va_G⦄ ⦃cts : Nat → ClassId⦄ ⦃ad : Nat → Nat⦄ ⦃H : Heap⦄ ⦃locs : List Loc⦄ ⦃lsA : Array Slot⦄,
    GX K sh D cts ad p s m args meth c → va_P D vwCl (wld cts ad M sh) H → va_S (aset sh ad) s.heap H locs → LH ad lsA K.2.2.1 ls →
    W p l e (rmd d) s m args below meth c H locs 0 0 (MQ below (QF D cts sh ad Q) args s 0 0 (aset sh ad)) (F0 m pc lsA (st.map (tv ad)))
theorem CT.of {y : MI} {sh : Shp} {d : Nat} {as : List Value} {M : Mem} {Q : Option Value → Mem → Prop} (hy : plainName y.1.cls = true) (hlen : as.length ≤ y.2.2.1) (hcat : ∀ v ∈ as, v.category = 1)
    (g : G y sh d Q 0 (as.map some ++ List.replicate (y.2.2.1 - as.length) none) [] M) : CT y sh d as M Q := by
  intro l D cts ad
  refine Met.ofW (cc := y.2.1) (maxL := y.2.2.1) (ret := y.2.2.2) hy rfl ?_
  intro p e s m args below meth c s₁ B hml hv
  obtain ⟨rfl, hK, hP, hI, hF⟩ := hv
  have hts := atoms_spec (ws := .code y.1 y.2.1 y.2.2.1 y.2.2.2 :: gtbl) B.pre
  have hcat2 : ∀ v ∈ as.map (tv ad), v.category = 1 := by
    intro v hv
    obtain ⟨w, hw, rfl⟩ := List.mem_map.mp hv
    rw [tv_cat]
    exact hcat w hw
  have hl0 : (lg_sl (as.map (tv ad))).length ≤ y.2.2.1 := by rw [lg_sl_len _ hcat2, List.length_map]; exact hlen
  have hl := lv_entry (as.map (tv ad)) (n := y.2.2.1) hl0
  rw [lg_entry_eq]
  generalize (lg_sl (as.map (tv ad)) ++ List.replicate (y.2.2.1 - (lg_sl (as.map (tv ad))).length) Slot.unset).toArray = lsA at hl ⊢
  refine g (D := D) (cts := cts) (ad := ad) ⟨⟨B.exec, B.bytes, hml, findClass_of_methodNamed B.named, fun w hw => hts w (List.mem_cons_of_mem _ hw), B.returns, B.notSynchronized⟩, hK, hI, hF⟩ hP va_S.rf ⟨?_, ?_⟩
  · rw [lvl_args ad as 0 _ hcat]
    exact hl
  · intro k v hk
    rcases Nat.lt_or_ge k (as.map some).length with hlt | hge
    · rw [List.getElem?_append_left hlt, List.getElem?_map] at hk
      cases ha : as[k]? with
      | none => rw [ha] at hk; cases hk
      | some w =>
        rw [ha] at hk
        cases hk
        exact hcat _ (List.mem_of_getElem? ha)
    · rw [List.getElem?_append_right hge] at hk
      have := List.eq_of_mem_replicate (List.mem_of_getElem? hk)
      cases this
