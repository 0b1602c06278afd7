/-! a constructor's frame: a world that grows -/
def GN (K : MI) (sh : Shp) (PM : Mem → Prop) (d kc ks : Nat) (D : va_G) (cts : Nat → ClassId) (ad0 : Nat → Nat) (h0 : Nat) (ws : va_W) (k n pc : Nat) (ls : List (Option Value)) (st : List Value) : Prop :=
  ∀ ⦃p : Program⦄ ⦃l : Launch⦄ ⦃e : Env⦄ ⦃s : State⦄ ⦃m : MethodId⦄ ⦃args : Array Value⦄ ⦃below : List Frame⦄ ⦃meth : Method⦄ ⦃c : Code⦄ ⦃H : Heap⦄ ⦃locs : List Loc⦄ ⦃lsA : Array Slot⦄,
    FX K p s m args meth c → meth.name = "<init>" → va_K D vwCl (tysOf cts) s → SF2 ad0 (NA h0 s.heap.size) s s.heap → va_P D vwCl ws H → va_D (NA h0 s.heap.size) ws → va_S (NA h0 s.heap.size) s.heap H locs → LH (fun j => j) lsA K.2.2.1 ls →
    W p l e (rmi d kc ks) s m args below meth c H locs k n (MQ below (IPost D cts ad0 h0 s.heap.size sh PM) args s kc ks (NA h0 s.heap.size)) (F0 m pc lsA st)
theorem CI.of {y : MI} {ci : Nat} {fs : List Value} {sh : Shp} {PM : Mem → Prop} {d kc ks : Nat} (hy : plainName y.1.cls = true) (hnm : y.1.name = "<init>") (hlen : 1 ≤ y.2.2.1)
    (g : ∀ D cts ad0 h0, GN y sh PM d kc ks D cts ad0 h0 [(h0, .inr (ci, fs))] 0 0 0 (some (.ref h0) :: List.replicate (y.2.2.1 - 1) none) []) : CI y ci fs sh PM d kc ks := by
  intro l D cts ad0 h0 sz
  refine Met.ofW (cc := y.2.1) (maxL := y.2.2.1) (ret := y.2.2.2) hy rfl ?_
  intro p e s m args below meth c s₁ B hml hv
  obtain ⟨rfl, hsz, hP, hK, hF⟩ := hv
  subst hsz
  have hts := atoms_spec (ws := .code y.1 y.2.1 y.2.2.1 y.2.2.2 :: gtbl) B.pre
  have hl := lv_entry [Value.ref h0] (n := y.2.2.1) hlen
  have hin : meth.name = "<init>" := (name_of_methodNamed B.named B.method).1.trans hnm
  rw [lg_entry_eq]
  generalize (lg_sl [Value.ref h0] ++ List.replicate (y.2.2.1 - (lg_sl [Value.ref h0]).length) Slot.unset).toArray = lsA at hl ⊢
  refine g D cts ad0 h0 ⟨B.exec, B.bytes, hml, findClass_of_methodNamed B.named, fun w hw => hts w (List.mem_cons_of_mem _ hw), B.returns, B.notSynchronized⟩ hin hK hF hP ?_ va_S.rf ⟨?_, ?_⟩
  · refine ⟨fun i j p q hp hq _ => ?_, fun i q hq => ?_⟩
    · have h1 : i < 1 := (List.getElem?_eq_some_iff.mp hp).1
      have h2 : j < 1 := (List.getElem?_eq_some_iff.mp hq).1
      omega
    · have h1 : i < 1 := (List.getElem?_eq_some_iff.mp hq).1
      obtain rfl : i = 0 := by omega
      cases hq
      exact Or.inl rfl
  · have := lvl_args (fun j => j) [Value.ref h0] 0 (y.2.2.1 - 1) (fun v hv => by rw [List.mem_singleton.mp hv]; rfl)
    have e : lvl (fun j => j) 0 (some (.ref h0) :: List.replicate (y.2.2.1 - 1) none) = lv_args 0 [Value.ref h0] := this
    rw [e]
    exact hl
  · intro k v hk
    rcases k with _ | k
    · cases hk; rfl
    · rw [List.getElem?_cons_succ] at hk
      have := List.eq_of_mem_replicate (List.mem_of_getElem? hk)
      cases this
theorem IW_of {D : va_G} {cts : Nat → ClassId} {ad0 : Nat → Nat} {h0 : Nat} {sh : Shp} {PM : Mem → Prop} {ws : va_W} (ad : Nat → Nat) (M : Mem) (hw : wld cts ad M sh = ws) (h1 : ∀ j, 1000 ≤ j → ad j = ad0 j) (h2 : ad 0 = h0) (h3 : PM M) (hsh : 0 < sh.length) :
    ∀ (H : Heap) (sz : Nat), va_P D vwCl ws H → va_D (NA h0 sz) ws → IW D cts ad0 h0 sz sh PM H := by
  intro H sz hP hD
  subst hw
  have hat : ∀ i, i < sh.length → ∃ q, (wld cts ad M sh)[i]? = some (ad i, q) := fun i hi => ⟨_, wld_at (List.getElem?_eq_getElem hi)⟩
  have hI : Inj sh ad := fun i j hi hj e => by
    obtain ⟨p, hp⟩ := hat i hi
    obtain ⟨q, hq⟩ := hat j hj
    exact hD.1 i j _ _ hp hq e
  refine ⟨ad, M, h1, h2, h3, hI, fun j hj hl => ?_, hP⟩
  obtain ⟨q, hq⟩ := hat j hl
  rcases hD.2 j _ hq with h | h
  · have : ad j = ad 0 := by rw [h2]; exact h
    have := hI j 0 hl hsh this
    omega
  · exact h
section N
variable {K : MI} {sh : Shp} {PM : Mem → Prop} {d kc ks : Nat} {D : va_G} {cts : Nat → ClassId} {ad0 : Nat → Nat} {h0 : Nat} {ws ws2 : va_W} {k n pc : Nat} {ls : List (Option Value)} {st : List Value}
theorem N_aload {kk : Fin 4} {i x : Nat} (hd : decode K.2.1 pc = .ok (.aload_n kk, 1)) (hi : (kk : Nat) = i) (hv : ls[i]? = some (some (.ref x))) (g : GN K sh PM d kc ks D cts ad0 h0 ws k n (pc + 1) ls (.ref x :: st)) : GN K sh PM d kc ks D cts ad0 h0 ws k n pc ls st := by
  intro p l e s m args below meth c H locs lsA F hin hK hF hP hD hS hl
  exact lv_aload_n F.1 F.2.1 hd hi (hl.at hv) (g F hin hK hF hP hD hS hl)
theorem N_iload {kk : Fin 4} {i : Nat} {x : Int32} (hd : decode K.2.1 pc = .ok (.iload_n kk, 1)) (hi : (kk : Nat) = i) (hv : ls[i]? = some (some (.int x))) (g : GN K sh PM d kc ks D cts ad0 h0 ws k n (pc + 1) ls (.int x :: st)) : GN K sh PM d kc ks D cts ad0 h0 ws k n pc ls st := by
  intro p l e s m args below meth c H locs lsA F hin hK hF hP hD hS hl
  exact lv_iload_n F.1 F.2.1 hd hi (hl.at hv) (g F hin hK hF hP hD hS hl)
theorem N_istore {kk : Fin 4} {i : Nat} {x : Int32} (hd : decode K.2.1 pc = .ok (.istore_n kk, 1)) (hi : (kk : Nat) = i) (hn : i < K.2.2.1) (g : GN K sh PM d kc ks D cts ad0 h0 ws k n (pc + 1) (ls.set i (some (.int x))) st) : GN K sh PM d kc ks D cts ad0 h0 ws k n pc ls (.int x :: st) := by
  intro p l e s m args below meth c H locs lsA F hin hK hF hP hD hS hl
  exact lv_istore_n F.1 F.2.1 hd hi hl.1 hn rfl (fun ls2 h2 => g F hin hK hF hP hD hS (hl.set rfl h2))
theorem N_iinc {i : Nat} {z : Int} {x v : Int32} (hd : decode K.2.1 pc = .ok (.iinc i z, 3)) (hn : i < K.2.2.1) (hx : ls[i]? = some (some (.int x))) (hv : x + Int32.ofInt z = v) (g : GN K sh PM d kc ks D cts ad0 h0 ws k n (pc + 3) (ls.set i (some (.int v))) st) : GN K sh PM d kc ks D cts ad0 h0 ws k n pc ls st := by
  intro p l e s m args below meth c H locs lsA F hin hK hF hP hD hS hl
  have hm : (i, tv (fun j => j) (.int x)) ∈ lvl (fun j => j) 0 ls := by
    have := lvl_in (ad := fun j => j) ls 0 i _ hx
    rwa [Nat.zero_add] at this
  obtain ⟨k, hk⟩ := List.mem_iff_getElem?.mp hm
  exact lv_iinc F.1 F.2.1 hd hl.1 hk hv hn rfl (fun ls2 h2 => g F hin hK hF hP hD hS (hl.set (v := .int v) rfl h2))
theorem N_iconst {z : Int} {v : Int32} (hd : decode K.2.1 pc = .ok (.iconst z, 1)) (hv : Int32.ofInt z = v) (g : GN K sh PM d kc ks D cts ad0 h0 ws k n (pc + 1) ls (.int v :: st)) : GN K sh PM d kc ks D cts ad0 h0 ws k n pc ls st := by
  intro p l e s m args below meth c H locs lsA F hin hK hF hP hD hS hl
  exact lv_iconst F.1 F.2.1 hd hv (g F hin hK hF hP hD hS hl)
theorem N_bipush {z : Int} {v : Int32} (hd : decode K.2.1 pc = .ok (.bipush z, 2)) (hv : (Int8.ofInt z).toInt32 = v) (g : GN K sh PM d kc ks D cts ad0 h0 ws k n (pc + 2) ls (.int v :: st)) : GN K sh PM d kc ks D cts ad0 h0 ws k n pc ls st := by
  intro p l e s m args below meth c H locs lsA F hin hK hF hP hD hS hl
  exact lv_bipush F.1 F.2.1 hd hv (g F hin hK hF hP hD hS hl)
theorem N_sipush {z : Int} {v : Int32} (hd : decode K.2.1 pc = .ok (.sipush z, 3)) (hv : (Int16.ofInt z).toInt32 = v) (g : GN K sh PM d kc ks D cts ad0 h0 ws k n (pc + 3) ls (.int v :: st)) : GN K sh PM d kc ks D cts ad0 h0 ws k n pc ls st := by
  intro p l e s m args below meth c H locs lsA F hin hK hF hP hD hS hl
  exact lv_sipush F.1 F.2.1 hd hv (g F hin hK hF hP hD hS hl)
theorem N_iadd {x y : Int32} (hd : decode K.2.1 pc = .ok (.iadd, 1)) (g : GN K sh PM d kc ks D cts ad0 h0 ws k n (pc + 1) ls (.int (x + y) :: st)) : GN K sh PM d kc ks D cts ad0 h0 ws k n pc ls (.int y :: .int x :: st) := by
  intro p l e s m args below meth c H locs lsA F hin hK hF hP hD hS hl
  exact lv_iadd F.1 F.2.1 hd (g F hin hK hF hP hD hS hl)
theorem N_dup {v : Value} (hd : decode K.2.1 pc = .ok (.dup, 1)) (hv : v.category = 1) (g : GN K sh PM d kc ks D cts ad0 h0 ws k n (pc + 1) ls (v :: v :: st)) : GN K sh PM d kc ks D cts ad0 h0 ws k n pc ls (v :: st) := by
  intro p l e s m args below meth c H locs lsA F hin hK hF hP hD hS hl
  exact lv_dup F.1 F.2.1 hd hv (g F hin hK hF hP hD hS hl)
theorem N_goto {off : Int} {tgt : Nat} (hd : decode K.2.1 pc = .ok (.goto off, 3)) (ht : (pc : Int) + off = (tgt : Int)) (g : GN K sh PM d kc ks D cts ad0 h0 ws k n tgt ls st) : GN K sh PM d kc ks D cts ad0 h0 ws k n pc ls st := by
  intro p l e s m args below meth c H locs lsA F hin hK hF hP hD hS hl
  exact lv_goto F.1 F.2.1 hd ht (g F hin hK hF hP hD hS hl)
theorem N_ge_t {x y : Int32} {off : Int} {tgt : Nat} (hd : decode K.2.1 pc = .ok (.if_icmp .ge off, 3)) (ht : (pc : Int) + off = (tgt : Int)) (h : y ≤ x) (g : GN K sh PM d kc ks D cts ad0 h0 ws k n tgt ls st) : GN K sh PM d kc ks D cts ad0 h0 ws k n pc ls (.int y :: .int x :: st) := by
  intro p l e s m args below meth c H locs lsA F hin hK hF hP hD hS hl
  exact lv_icmp_ge F.1 F.2.1 hd ht (fun _ => g F hin hK hF hP hD hS hl) (fun q => absurd h q)
theorem N_ge_f {x y : Int32} {off : Int} (hd : decode K.2.1 pc = .ok (.if_icmp .ge off, 3)) (tgt : Nat) (ht : (pc : Int) + off = (tgt : Int)) (h : ¬ y ≤ x) (g : GN K sh PM d kc ks D cts ad0 h0 ws k n (pc + 3) ls st) : GN K sh PM d kc ks D cts ad0 h0 ws k n pc ls (.int y :: .int x :: st) := by
  intro p l e s m args below meth c H locs lsA F hin hK hF hP hD hS hl
  exact lv_icmp_ge F.1 F.2.1 hd ht (fun q => absurd q h) (fun _ => g F hin hK hF hP hD hS hl)
theorem N_obj {idx x : Nat} (hlink : Cond.methodLink K.1.cls idx Lib.objectInit ∈ gtbl) (h1 : Cond.instanceMethod Lib.objectInit ∈ gtbl) (h2 : Cond.code Lib.objectInit { data := #[177] } 1 none ∈ gtbl) (hd1 : 1 ≤ d) (hd : decode K.2.1 pc = .ok (.invokespecial idx, 3)) (g : GN K sh PM d kc ks D cts ad0 h0 ws k n (pc + 3) ls []) : GN K sh PM d kc ks D cts ad0 h0 ws k n pc ls [.ref x] := by
  intro p l e s m args below meth c H locs lsA F hin hK hF hP hD hS hl
  refine W.objInit F.1 F.2.1 F.2.2.2.1 (F.2.2.2.2.1 _ hlink) (F.2.2.2.2.1 _ h1) (F.2.2.2.2.1 _ h2) rfl (by rw [F.2.2.1]; exact hl.1.1) rfl hd hd1 ?_ ?_
  · show 0 + 0 + 12 ≤ 120 * d
    omega
  · exact g F hin hK hF hP hD hS hl
theorem N_newa {z : Int32} {N : Nat} (harr : Cond.arrayClass .int ∈ gtbl) (hn : ¬ z < 0) (hN : z.toNatClampNeg = N) (hb : N * 4 ≤ 536870912) (hk : k + 1 ≤ kc) (hs : n + N ≤ ks) (hd : decode K.2.1 pc = .ok (.newarray .int, 2))
    (g : ∀ q, GN K sh PM d kc ks D cts ad0 h0 (ws ++ [(q, .inl (cts 0, N, .inl fun _ => 0))]) (k + 1) (n + N) (pc + 2) ls (.ref q :: st)) : GN K sh PM d kc ks D cts ad0 h0 ws k n pc ls (.int z :: st) := by
  intro p l e s m args below meth c H locs lsA F hin hK hF hP hD hS hl
  refine va_newa (atype := .int) (a0 := (N, .inl fun _ => 0)) F.1 F.2.1 (F.2.2.2.2.1 _ harr) (ty := .int) rfl hK hP hD hS (fun q hq => Or.inr hq) (fun cA => by rw [vp_cell_i]; rfl) hn hN hb hk hs hd (fun q cA H1 hK1 hP1 hD1 hS1 => ?_)
  have e : cA = cts 0 := by
    have h1 := (hK1.2 3 _ rfl).2
    have h2 := (hK.2 0 _ rfl).2
    exact Option.some.inj (h1.symm.trans h2)
  subst e
  exact g q F hin hK hF hP1 hD1 hS1 hl
theorem N_ws (h : ws = ws2) (g : GN K sh PM d kc ks D cts ad0 h0 ws2 k n pc ls st) : GN K sh PM d kc ks D cts ad0 h0 ws k n pc ls st := h ▸ g
theorem N_iast {q0 a N : Nat} {f : Nat → Int32} {i : Int32} {x : Int32} (ha : ws[q0]? = some (a, .inl (cts 0, N, .inl f))) (hin : vp_in i N) (hd : decode K.2.1 pc = .ok (.iastore, 1)) (hw : ws.set q0 (a, .inl (cts 0, N, .inl (upd f i.toNatClampNeg x))) = ws2) (g : GN K sh PM d kc ks D cts ad0 h0 ws2 k n (pc + 1) ls st) : GN K sh PM d kc ks D cts ad0 h0 ws k n pc ls (.int x :: .int i :: .ref a :: st) := by
  intro p l e s m args below meth c H locs lsA F hnm hK hF hP hD hS hl
  subst hw
  exact va_iast F.1 F.2.1 hK hP hD hS q0 0 ha rfl hin hd (fun H1 locs1 hP1 hD1 hS1 => g F hnm hK hF hP1 hD1 hS1 hl)
theorem N_get {q0 ci kf idx a : Nat} {fs : List Value} {v : Value} (hA : FA K.1.cls idx ci kf) (he : ws[q0]? = some (a, .inr (ci, fs))) (hv : fs[kf]? = some v) (hd : decode K.2.1 pc = .ok (.getfield idx, 3)) (g : GN K sh PM d kc ks D cts ad0 h0 ws k n (pc + 3) ls (v :: st)) : GN K sh PM d kc ks D cts ad0 h0 ws k n pc ls (.ref a :: st) := by
  intro p l e s m args below meth c H locs lsA F hnm hK hF hP hD hS hl
  obtain ⟨C, T, N, ty, c1, c2, c3, c4, c5, c6⟩ := hA
  exact va_get F.1 F.2.1 F.2.2.2.2.1 c2 F.2.2.2.1 hK hP q0 he c1 kf c3 (F.2.2.2.2.1 _ c4) (fun x h => h) hv hd (g F hnm hK hF hP hD hS hl)
/-- a field's kind: final or not, and what goes in -/
def FK (own : String) (ci kf : Nat) (fin : Bool) (v : Value) : Prop := ∃ (C : String) (T : u_T) (N : Nat) (t : FieldType), vwCl[ci]? = some (C, T, N) ∧ (T kf).2.2.2 = fin ∧ (T kf).1 = own ∧ parseFieldDescriptor (T kf).2.2.1 = some t ∧ narrow t v = v ∧ fits t v = true
theorem N_putF {ci kf idx a : Nat} {fs fs2 : List Value} {v : Value} (hA : FA K.1.cls idx ci kf) (hk : FK K.1.cls ci kf true v) (hl0 : kf < fs.length) (hd : decode K.2.1 pc = .ok (.putfield idx, 3)) (hf : fs.set kf v = fs2)
    (g : GN K sh PM d kc ks D cts ad0 h0 ((a, .inr (ci, fs2)) :: ws) k n (pc + 3) ls st) : GN K sh PM d kc ks D cts ad0 h0 ((a, .inr (ci, fs)) :: ws) k n pc ls (v :: .ref a :: st) := by
  intro p l e s m args below meth c H locs lsA F hnm hK hF hP hD hS hl
  subst hf
  obtain ⟨C, T, N, ty, c1, c2, c3, c4, c5, c6⟩ := hA
  obtain ⟨C2, T2, N2, t, e1, e2, e3, e4, e5, e6⟩ := hk
  have e := c1.symm.trans e1
  cases e
  exact va_putF F.1 F.2.1 F.2.2.2.2.1 c2 ty c5 c6 F.2.2.2.1 hK hP hD hS 0 rfl c1 kf c3 (F.2.2.2.2.1 _ c4) (fun x h => h) e2 hnm e3 e4 e5 e6 hl0 hd (fun H1 locs1 hP1 hD1 hS1 => g F hnm hK hF hP1 hD1 hS1 hl)
theorem N_putN {ci kf idx a : Nat} {fs fs2 : List Value} {v : Value} (hA : FA K.1.cls idx ci kf) (hk : FK K.1.cls ci kf false v) (hl0 : kf < fs.length) (hd : decode K.2.1 pc = .ok (.putfield idx, 3)) (hf : fs.set kf v = fs2)
    (g : GN K sh PM d kc ks D cts ad0 h0 ((a, .inr (ci, fs2)) :: ws) k n (pc + 3) ls st) : GN K sh PM d kc ks D cts ad0 h0 ((a, .inr (ci, fs)) :: ws) k n pc ls (v :: .ref a :: st) := by
  intro p l e s m args below meth c H locs lsA F hnm hK hF hP hD hS hl
  subst hf
  obtain ⟨C, T, N, ty, c1, c2, c3, c4, c5, c6⟩ := hA
  obtain ⟨C2, T2, N2, t, e1, e2, e3, e4, e5, e6⟩ := hk
  have e := c1.symm.trans e1
  cases e
  exact va_put F.1 F.2.1 F.2.2.2.2.1 c2 ty c5 c6 F.2.2.2.1 hK hP hD hS 0 rfl c1 kf c3 (F.2.2.2.2.1 _ c4) (fun x h => h) e2 e4 e5 e6 hl0 hd (fun H1 locs1 hP1 hD1 hS1 => g F hnm hK hF hP1 hD1 hS1 hl)
theorem N_ret (hd : decode K.2.1 pc = .ok (.return_, 1)) (hr : K.2.2.2 = none) (hk : k ≤ kc) (hn : n ≤ ks) (hIW : ∀ (H : Heap) (sz : Nat), va_P D vwCl ws H → va_D (NA h0 sz) ws → IW D cts ad0 h0 sz sh PM H) : GN K sh PM d kc ks D cts ad0 h0 ws k n pc ls [] := by
  intro p l e s m args below meth c H locs lsA F hnm hK hF hP hD hS hl
  have hlocks := F.2.2.2.2.2.2
  refine W.widen hk hn ?_
  exact W.vret F.1 F.2.1 (F.2.2.2.2.2.1.trans hr) (fun t ht hW => ⟨⟨rfl, by rw [ht]; exact hIW H _ hP hD⟩, hS.F ht⟩) hS.2.2 hd
theorem N_make {y : MI} {ci : Nat} {fs : List Value} {sh' : Shp} {PM' : Mem → Prop} {d' kc' ks' idx idx2 : Nat} {C : String} {T : u_T} {N : Nat} {ty : Nat → FieldType}
    (hC : CI y ci fs sh' PM' d' kc' ks') (hCF : CF ci fs C T N ty) (hKI : KI y C) (w1 : Cond.classLink K.1.cls idx C ∈ gtbl) (w5 : LKI K.1.cls idx2 y.1)
    (hd' : d' + 1 ≤ d) (hcells : k + 1 + kc' ≤ kc) (hslots : n + N + ks' ≤ ks) (hsh : 0 < sh'.length) (hrest : (st.map fun v => v.category).sum ≤ 7)
    (d0 : decode K.2.1 pc = .ok (.new idx, 3)) (d1 : decode K.2.1 (pc + 3) = .ok (.dup, 1)) (d2 : decode K.2.1 (pc + 4) = .ok (.invokespecial idx2, 3))
    (g : ∀ (ad' : Nat → Nat) (M' : Mem), PM' M' → (∀ j, 1000 ≤ j → ad' j = ad0 j) → GN K sh PM d kc ks D cts ad0 h0 (ws ++ wld cts ad' M' sh') (k + 1 + kc') (n + N + ks') (pc + 7) ls (.ref (ad' 0) :: st)) : GN K sh PM d kc ks D cts ad0 h0 ws k n pc ls st := by
  intro p l e s m args below meth c H locs lsA F hnm hK hF hP hD hS hl
  refine W_make F.1 F.2.1 F.2.2.1 F.2.2.2.1 F.2.2.2.2.1 hK hF (fun q hq => Or.inr hq) hP hD hS hC hCF hKI w1 w5 ⟨hd', show 8 + (y.2.2.1 + 11) + 120 * d' ≤ 120 * d by have := hKI.2.2.2.2.2.1; omega⟩ hcells hslots hsh hl.1.1 hrest d0 d1 d2 (fun ad' M' H1 locs1 h1 h2 hP1 hD1 hS1 => ?_)
  exact g ad' M' h1 h2 F hnm hK hF hP1 hD1 hS1 hl
end N
