/-! THE CLAIM OUT OF ONE WALK OF THE LAW'S BODY. Your part is whole_start (and what it stands on); all else here is the same for every law, but numbers. -/
def R_law : String := "WarmWallsLaw"
def lw_P (b : Addr) (xs : List Int32) (args : Array Value) (s : State) : Prop := args = #[.ref b] ∧ s.IntsAt b xs ∧ xs.length ≤ 3072 ∧ (Jvm.Cond.and given_1 narrow_1).before args s = true
def lw_Q (_ : Array Value) (s : State) (o : Outcome) (t : State) : Prop := o = .returned (some (.int 1)) ∧ Framed s o t [] 600000 7302250
def lw_Z (below : List Frame) (a : Array Value) (s : State) : State → Prop := fun t => ∃ o, t.status = .running ∧ Ended t below o ∧ lw_Q a s o t
/-- the law's own end, with 1 on the stack, nothing written that was there before, its room as the claim has it -/
theorem lw_ret {p : Program} {l : Launch} {e : Env} {s : State} {m : MethodId} {below : List Frame} {meth : Method} {c : Code} {b : Nat} (hx : p.tables.exec = Jvm.exec) (hb : c.code = code) (hr : meth.sig.returnType = ret) (hlocks : meth.locks = false) {pc : Nat} {H : Heap} {ls : Array Slot} (hdg : decode code pc = .ok (.ireturn, 1)) : W p l e room_1 s m #[Value.ref b] below meth c H [] 600000 7302250 (lw_Z below #[Value.ref b] s) (F0 m pc ls [.int 1]) := by
  intro T hT X
  obtain ⟨fs, hret, hrun, hended, hW, hframe⟩ := X.leave (v := some (.int 1)) (hlocks := hlocks) (fun h => by rw [hr] at h; cases h)
  have hmeth' : T.vm.method? m = some meth := X.method'
  refine ⟨T.setFrames fs, ?_, .returned (some (.int 1)), hrun, hended, rfl, ⟨_, rfl⟩, hW, hframe⟩
  jvm_step X.here [X.here.top, hx, hb, hdg, hmeth', hr, ret, narrow_b1]
  (try refine ⟨rfl, ?_⟩); (try refine ⟨rfl, ?_⟩)
  first | (intro acts; rw [hret _ acts rfl rfl rfl]) | rw [hret _ _ rfl rfl rfl]
  exact Steps.refl _
/-- what holds at the law's entry: the machine, the code, the tables' words (any of lw_tbl by 'hts w (by decide +kernel)'), the script of L ints xs at the cell b, what the Statement gives of the start (any of its parts by flat_of_before) -/
def lw_At (p : Program) (s : State) (m : MethodId) (meth : Method) (c : Code) (b L : Nat) (xs : Nat → Int32) : Prop :=
  p.tables.exec = Jvm.exec ∧ c.code = code ∧ meth.sig.returnType = ret ∧ c.maxLocals = 4 ∧ s.vm.findClass R_law = some m.cls ∧ (∀ w ∈ lw_tbl, w.before #[Value.ref b] s = true) ∧ va_X b L xs s s.heap ∧ b < s.heap.size ∧ meth.locks = false ∧ (Jvm.Cond.and given_1 narrow_1).before #[Value.ref b] s = true
/-! the law's frame: the class's world and the reference's, side by side -/
def iR : Nat → Nat := fun j => if j < 20 then 69 + j else j
def shL : Shp := shC ++ shR.map (mapE iR)
theorem shC_len : shC.length = 69 := rfl
theorem shR_len : shR.length = 20 := rfl
theorem shL_len : shL.length = 89 := rfl
theorem subCL : Sub shC (fun j => j) shL := by
  refine ⟨fun k hk => ?_, fun _ _ _ _ h => h, fun _ _ => rfl⟩
  show (shC ++ shR.map (mapE iR))[k]? = _
  rw [List.getElem?_append_left hk, show mapE (fun j => j) = _root_.id from funext mapE_id, Option.map_id]
  rfl
theorem subRL : Sub shR iR shL := by
  refine ⟨fun k hk => ?_, fun i j hi hj e => ?_, fun j hj => ?_⟩
  · have hk2 : k < 20 := hk
    show (shC ++ shR.map (mapE iR))[iR k]? = _
    have e : iR k = 69 + k := if_pos hk2
    rw [e, List.getElem?_append_right (by rw [shC_len]; omega), shC_len, Nat.add_sub_cancel_left, List.getElem?_map]
  · have h1 : i < 20 := hi
    have h2 : j < 20 := hj
    unfold iR at e
    rw [if_pos h1, if_pos h2] at e
    omega
  · unfold iR
    rw [if_neg (by omega)]
def mgC (M M' : Mem) : Mem := fun c => if c < 69 then M' c else M c
def mgR (M M' : Mem) : Mem := fun c => if c < 69 then M c else M' (c - 69)
theorem mrgCL (M M' : Mem) : Mrg shC.length (fun j => j) shL.length M M' (mgC M M') := by
  refine ⟨fun j hj => ?_, fun c _ h => ?_⟩
  · have h1 : j < 69 := hj
    unfold mgC
    rw [if_pos h1]
  · unfold mgC
    rw [if_neg (fun q : c < 69 => h c q rfl)]
theorem mrgRL (M M' : Mem) : Mrg shR.length iR shL.length M M' (mgR M M') := by
  refine ⟨fun j hj => ?_, fun c hc h => ?_⟩
  · have h1 : j < 20 := hj
    unfold mgR iR
    rw [if_pos h1, if_neg (by omega), Nat.add_sub_cancel_left]
  · have h2 : c < 89 := hc
    unfold mgR
    by_cases q : c < 69
    · rw [if_pos q]
    · refine absurd ?_ (h (c - 69) (show c - 69 < 20 by omega))
      unfold iR
      rw [if_pos (by omega)]
      omega
theorem rc_congr {M M2 σ : Mem} (h : ∀ c, c < 69 → M2 c = M c) (hR : RC M σ) : RC M2 σ := by
  obtain ⟨r1, r2, r3, r4, r5, r6, r7⟩ := hR
  refine ⟨HR.ofEq (fun j hj => h (1 + j) (by omega)) r1, HR.ofEq (fun j hj => h (34 + j) (by omega)) r2, by rw [h 0 (by omega)]; exact r3, fun i hi => by rw [h 60 (by omega)]; exact r4 i hi, fun i hi => by rw [h 47 (by omega)]; exact r5 i hi, by rw [h 46 (by omega)]; exact r6, fun s hs => ?_⟩
  rw [h (61 + 2 * s) (by omega), h (62 + 2 * s) (by omega)]
  exact r7 s hs
def mR (M : Mem) : Mem := fun j => M (69 + j)
theorem mgC_C (M M' : Mem) : ∀ c, c < 69 → mgC M M' c = M' c := fun c h => if_pos h
theorem mgC_R (M M' : Mem) : mR (mgC M M') = mR M := funext fun j => if_neg (by omega)
theorem mgR_C (M M' : Mem) : ∀ c, c < 69 → mgR M M' c = M c := fun c h => if_pos h
theorem mgR_R (M M' : Mem) : mR (mgR M M') = M' := by
  funext j
  show mgR M M' (69 + j) = M' j
  unfold mgR
  rw [if_neg (by omega), Nat.add_sub_cancel_left]
def KL : MI := (yL_law, code, 4, ret)
def FXL (L : Nat) (xs : Nat → Int32) (p : Program) (s : State) (m : MethodId) (meth : Method) (c : Code) (D : va_G) (cts : Nat → ClassId) (ad : Nat → Nat) (b : Nat) : Prop :=
  GX KL shL D cts ad p s m #[Value.ref b] meth c ∧ va_X b L xs s s.heap ∧ b < s.heap.size ∧ (∀ j, j < 89 → s.heap.size ≤ ad j) ∧ ad 2000 = b
def GL (L : Nat) (xs : Nat → Int32) (pc : Nat) (ls : List (Option Value)) (st : List Value) (M : Mem) : Prop :=
  ∀ ⦃p : Program⦄ ⦃l : Launch⦄ ⦃e : Env⦄ ⦃s : State⦄ ⦃m : MethodId⦄ ⦃below : List Frame⦄ ⦃meth : Method⦄ ⦃c : Code⦄ ⦃D : va_G⦄ ⦃cts : Nat → ClassId⦄ ⦃ad : Nat → Nat⦄ ⦃b : Nat⦄ ⦃H : Heap⦄ ⦃locs : List Loc⦄ ⦃lsA : Array Slot⦄,
    FXL L xs p s m meth c D cts ad b → va_P D vwCl (wld cts ad M shL) H → va_S (aset shL ad) s.heap H locs → LH ad lsA 4 ls →
    W p l e room_1 s m #[Value.ref b] below meth c H locs 600000 7302250 (lw_Z below #[Value.ref b] s) (F0 m pc lsA (st.map (tv ad)))

theorem L_pc {L : Nat} {xs : Nat → Int32} {pc : Nat} {ls : List (Option Value)} {st : List Value} {M : Mem}  (n : Nat) (h : pc = n) (k : GL L xs n ls st M) : GL L xs pc ls st M := by
  intro p l e s m below meth c D cts ad b H locs lsA F hP hS hl
  exact (h ▸ k) F hP hS hl
theorem L_iadd {L : Nat} {xs : Nat → Int32} {pc : Nat} {ls : List (Option Value)} {st : List Value} {M : Mem} {x y : Int32} (hd : decode code pc = .ok (.iadd, 1)) (k : GL L xs (pc + 1) ls (.int (x + y) :: st) M) : GL L xs pc ls (.int y :: .int x :: st) M := by
  intro p l e s m below meth c D cts ad b H locs lsA F hP hS hl
  exact lv_iadd F.1.1.1 F.1.1.2.1 hd (k F hP hS hl)
theorem L_isub {L : Nat} {xs : Nat → Int32} {pc : Nat} {ls : List (Option Value)} {st : List Value} {M : Mem} {x y : Int32} (hd : decode code pc = .ok (.isub, 1)) (k : GL L xs (pc + 1) ls (.int (x - y) :: st) M) : GL L xs pc ls (.int y :: .int x :: st) M := by
  intro p l e s m below meth c D cts ad b H locs lsA F hP hS hl
  exact lv_isub F.1.1.1 F.1.1.2.1 hd (k F hP hS hl)
theorem L_iand {L : Nat} {xs : Nat → Int32} {pc : Nat} {ls : List (Option Value)} {st : List Value} {M : Mem} {x y : Int32} (hd : decode code pc = .ok (.iand, 1)) (k : GL L xs (pc + 1) ls (.int (x &&& y) :: st) M) : GL L xs pc ls (.int y :: .int x :: st) M := by
  intro p l e s m below meth c D cts ad b H locs lsA F hP hS hl
  exact lv_iand F.1.1.1 F.1.1.2.1 hd (k F hP hS hl)
theorem L_iconst {L : Nat} {xs : Nat → Int32} {pc : Nat} {ls : List (Option Value)} {st : List Value} {M : Mem} {n : Int} {v : Int32} (hd : decode code pc = .ok (.iconst n, 1)) (hv : Int32.ofInt n = v) (k : GL L xs (pc + 1) ls (.int v :: st) M) : GL L xs pc ls st M := by
  intro p l e s m below meth c D cts ad b H locs lsA F hP hS hl
  exact lv_iconst F.1.1.1 F.1.1.2.1 hd hv (k F hP hS hl)
theorem L_bipush {L : Nat} {xs : Nat → Int32} {pc : Nat} {ls : List (Option Value)} {st : List Value} {M : Mem} {n : Int} {v : Int32} (hd : decode code pc = .ok (.bipush n, 2)) (hv : (Int8.ofInt n).toInt32 = v) (k : GL L xs (pc + 2) ls (.int v :: st) M) : GL L xs pc ls st M := by
  intro p l e s m below meth c D cts ad b H locs lsA F hP hS hl
  exact lv_bipush F.1.1.1 F.1.1.2.1 hd hv (k F hP hS hl)
theorem L_iload_n {L : Nat} {xs : Nat → Int32} {pc : Nat} {ls : List (Option Value)} {st : List Value} {M : Mem} {k : Fin 4} {i : Nat} {x : Int32} (hd : decode code pc = .ok (.iload_n k, 1)) (hi : (k : Nat) = i) (hv : ls[i]? = some (some (.int x))) (kk : GL L xs (pc + 1) ls (.int x :: st) M) : GL L xs pc ls st M := by
  intro p l e s m below meth c D cts ad b H locs lsA F hP hS hl
  exact lv_iload_n F.1.1.1 F.1.1.2.1 hd hi (hl.at hv) (kk F hP hS hl)
theorem L_aload_n {L : Nat} {xs : Nat → Int32} {pc : Nat} {ls : List (Option Value)} {st : List Value} {M : Mem} {k : Fin 4} {i x : Nat} (hd : decode code pc = .ok (.aload_n k, 1)) (hi : (k : Nat) = i) (hv : ls[i]? = some (some (.ref x))) (kk : GL L xs (pc + 1) ls (.ref x :: st) M) : GL L xs pc ls st M := by
  intro p l e s m below meth c D cts ad b H locs lsA F hP hS hl
  exact lv_aload_n F.1.1.1 F.1.1.2.1 hd hi (hl.at hv) (kk F hP hS hl)
theorem L_istore_n {L : Nat} {xs : Nat → Int32} {pc : Nat} {ls : List (Option Value)} {st : List Value} {M : Mem} {k : Fin 4} {i : Nat} {x : Int32} (hd : decode code pc = .ok (.istore_n k, 1)) (hi : (k : Nat) = i) (hn : i < 4) (kk : GL L xs (pc + 1) (ls.set i (some (.int x))) st M) : GL L xs pc ls (.int x :: st) M := by
  intro p l e s m below meth c D cts ad b H locs lsA F hP hS hl
  exact lv_istore_n F.1.1.1 F.1.1.2.1 hd hi hl.1 hn rfl (fun ls2 h2 => kk F hP hS (hl.set rfl h2))
theorem L_iinc {L : Nat} {xs : Nat → Int32} {pc : Nat} {ls : List (Option Value)} {st : List Value} {M : Mem} {i : Nat} {n : Int} {x v : Int32} (hd : decode code pc = .ok (.iinc i n, 3)) (hn : i < 4) (hx : ls[i]? = some (some (.int x))) (hv : x + Int32.ofInt n = v) (kk : GL L xs (pc + 3) (ls.set i (some (.int v))) st M) : GL L xs pc ls st M := by
  intro p l e s m below meth c D cts ad b H locs lsA F hP hS hl
  have hm : (i, tv ad (.int x)) ∈ lvl ad 0 ls := by
    have := lvl_in (ad := ad) ls 0 i _ hx
    rwa [Nat.zero_add] at this
  obtain ⟨k, hk⟩ := List.mem_iff_getElem?.mp hm
  exact lv_iinc F.1.1.1 F.1.1.2.1 hd hl.1 hk hv hn rfl (fun ls2 h2 => kk F hP hS (hl.set (v := .int v) rfl h2))
theorem L_goto {L : Nat} {xs : Nat → Int32} {pc : Nat} {ls : List (Option Value)} {st : List Value} {M : Mem} {off : Int} {tgt : Nat} (hd : decode code pc = .ok (.goto off, 3)) (ht : (pc : Int) + off = (tgt : Int)) (k : GL L xs tgt ls st M) : GL L xs pc ls st M := by
  intro p l e s m below meth c D cts ad b H locs lsA F hP hS hl
  exact lv_goto F.1.1.1 F.1.1.2.1 hd ht (k F hP hS hl)
theorem L_icmp_eq {L : Nat} {xs : Nat → Int32} {pc : Nat} {ls : List (Option Value)} {st : List Value} {M : Mem} {x y : Int32} {off : Int} {tgt : Nat} (hd : decode code pc = .ok (.if_icmp .eq off, 3)) (ht : (pc : Int) + off = (tgt : Int)) (hxy : x = y) (k : GL L xs tgt ls st M) : GL L xs pc ls (.int y :: .int x :: st) M := by
  intro p l e s m below meth c D cts ad b H locs lsA F hP hS hl
  exact lv_icmp_eq F.1.1.1 F.1.1.2.1 hd ht (fun _ => k F hP hS hl) (fun q => absurd hxy q)
theorem L_icmp_gt {L : Nat} {xs : Nat → Int32} {pc : Nat} {ls : List (Option Value)} {st : List Value} {M : Mem} {x y : Int32} {off : Int} {tgt : Nat} (hd : decode code pc = .ok (.if_icmp .gt off, 3)) (ht : (pc : Int) + off = (tgt : Int)) (kt : y < x → GL L xs tgt ls st M) (kf : ¬ y < x → GL L xs (pc + 3) ls st M) : GL L xs pc ls (.int y :: .int x :: st) M := by
  intro p l e s m below meth c D cts ad b H locs lsA F hP hS hl
  exact lv_icmp_gt F.1.1.1 F.1.1.2.1 hd ht (fun q => kt q F hP hS hl) (fun q => kf q F hP hS hl)
theorem L_tableIn {L : Nat} {xs : Nat → Int32} {pc : Nat} {ls : List (Option Value)} {st : List Value} {M : Mem} {dflt lo hi : Int} {offs : Array Int} {len : Nat} {x : Int32} {off : Int} {tgt : Nat} (hd : decode code pc = .ok (.tableswitch dflt lo hi offs, len)) (h1 : ¬ x.toInt < lo) (h2 : ¬ hi < x.toInt) (ho : offs[(x.toInt - lo).toNat]? = some off) (ht : (pc : Int) + off = (tgt : Int)) (k : GL L xs tgt ls st M) : GL L xs pc ls (.int x :: st) M := by
  intro p l e s m below meth c D cts ad b H locs lsA F hP hS hl
  exact lv_tableIn F.1.1.1 F.1.1.2.1 hd h1 h2 ho ht (k F hP hS hl)
theorem L_tableOut {L : Nat} {xs : Nat → Int32} {pc : Nat} {ls : List (Option Value)} {st : List Value} {M : Mem} {dflt lo hi : Int} {offs : Array Int} {len : Nat} {x : Int32} {tgt : Nat} (hd : decode code pc = .ok (.tableswitch dflt lo hi offs, len)) (h : x.toInt < lo ∨ hi < x.toInt) (ht : (pc : Int) + dflt = (tgt : Int)) (k : GL L xs tgt ls st M) : GL L xs pc ls (.int x :: st) M := by
  intro p l e s m below meth c D cts ad b H locs lsA F hP hS hl
  exact lv_tableOut F.1.1.1 F.1.1.2.1 hd h ht (k F hP hS hl)
theorem FXL.bA {L : Nat} {xs : Nat → Int32} {p : Program} {s : State} {m : MethodId} {meth : Method} {c : Code} {D : va_G} {cts : Nat → ClassId} {ad : Nat → Nat} {b : Nat} (F : FXL L xs p s m meth c D cts ad b) : ¬ aset shL ad b := by
  rintro ⟨j, hj, e⟩
  have h1 := F.2.2.2.1 j hj
  have h2 := F.2.2.1
  omega
theorem L_sld {L : Nat} {xs : Nat → Int32} {pc : Nat} {ls : List (Option Value)} {st : List Value} {M : Mem} {i : Nat} (hi : i < L) (hL : L ≤ 3072) (hd : decode code pc = .ok (.iaload, 1)) (k : GL L xs (pc + 1) ls (.int (xs i) :: st) M) : GL L xs pc ls (.int (nI i) :: .ref 2000 :: st) M := by
  intro p l e s m below meth c D cts ad b H locs lsA F hP hS hl
  have e1 : (nI i).toNatClampNeg = i := nI_clamp (by omega)
  have e2 : ad 2000 = b := F.2.2.2.2
  show W p l e room_1 s m #[Value.ref b] below meth c H locs 600000 7302250 (lw_Z below #[Value.ref b] s) (F0 m pc lsA (.int (nI i) :: .ref (ad 2000) :: st.map (tv ad)))
  rw [e2]
  refine va_sld F.1.1.1 F.1.1.2.1 F.2.1 F.2.2.1 F.bA hS ?_ hd ?_
  · rintro (h | h)
    · rw [i32_lt, nI_toInt (by omega)] at h
      have h' : (i : Int) < 0 := h
      omega
    · rw [e1] at h
      omega
  · rw [e1]
    exact k F hP hS hl
theorem L_slen {L : Nat} {xs : Nat → Int32} {pc : Nat} {ls : List (Option Value)} {st : List Value} {M : Mem} (hd : decode code pc = .ok (.arraylength, 1)) (k : GL L xs (pc + 1) ls (.int (nI L) :: st) M) : GL L xs pc ls (.ref 2000 :: st) M := by
  intro p l e s m below meth c D cts ad b H locs lsA F hP hS hl
  have e2 : ad 2000 = b := F.2.2.2.2
  show W p l e room_1 s m #[Value.ref b] below meth c H locs 600000 7302250 (lw_Z below #[Value.ref b] s) (F0 m pc lsA (.ref (ad 2000) :: st.map (tv ad)))
  rw [e2]
  exact va_slen F.1.1.1 F.1.1.2.1 F.2.1 F.2.2.1 F.bA hS hd (k F hP hS hl)
theorem L_ret {L : Nat} {xs : Nat → Int32} {pc : Nat} {ls : List (Option Value)} {M : Mem} (hd : decode code pc = .ok (.ireturn, 1)) : GL L xs pc ls [.int 1] M := by
  intro p l e s m below meth c D cts ad b H locs lsA F hP hS hl
  refine va_forget (fun q hq => ?_) (lw_ret F.1.1.1 F.1.1.2.1 F.1.1.2.2.2.2.2.1 F.1.1.2.2.2.2.2.2 hd)
  obtain ⟨j, hj, e⟩ := hS.2.2 q hq
  rw [e]
  exact F.2.2.2.1 j hj
theorem L_run {L : Nat} {xs : Nat → Int32} {sh' : Shp} {ι : Nat → Nat} {Q' : Option Value → Mem → Prop} {pc : Nat} {ls : List (Option Value)} {rest : List Value} {M : Mem} {mg : Mem → Mem} {av : Array Value}
    {p : Program} {l : Launch} {e : Env} {s : State} {m : MethodId} {below : List Frame} {meth : Method} {c : Code} {D : va_G} {cts : Nat → ClassId} {ad : Nat → Nat} {b : Nat} {H : Heap} {locs : List Loc} {lsA : Array Slot} {st0 : List Value}
    (h : Sub sh' ι shL) (hmg : ∀ M', Mrg sh'.length ι shL.length M M' (mg M'))
    (kk : ∀ v M', Q' v M' → GL L xs (pc + 3) ls ((v.map (tv ι)).toList ++ rest) (mg M'))
    (F : FXL L xs p s m meth c D cts ad b) (hP : va_P D vwCl (wld cts ad M shL) H) (hS : va_S (aset shL ad) s.heap H locs) (hl : LH ad lsA 4 ls)
    (hr : va_Run p l e room_1 s m #[Value.ref b] below meth c H locs 600000 7302250 0 0 (F0 m pc lsA st0) (rest.map (tv ad)) (QF D cts sh' (fun j => ad (ι j)) Q' av) (aset sh' (fun j => ad (ι j)))) :
    W p l e room_1 s m #[Value.ref b] below meth c H locs 600000 7302250 (lw_Z below #[Value.ref b] s) (F0 m pc lsA st0) := by
  intro T hT X
  obtain ⟨v, st₀, t, T', LL, h0, X', hL, e1, e2, ⟨⟨v', M', hv, hQ, hP1⟩, hz, hk⟩, st⟩ := hr T hT X
  cases hv
  rw [h0] at hz hk
  have hP2 := h.back F.1.2.2.1 (hmg M') hP hP1 hk
  have hS2 : va_S (aset shL ad) s.heap T'.heap (locs ++ LL) := ⟨Nat.le_trans hS.1 (by rw [e1]; exact hz), fun q h1 h2 => by rw [e1, hk q (Nat.lt_of_lt_of_le h1 hS.1) (fun z => h2 (h.asub q z))]; exact hS.2.1 q h1 h2, fun q hq => by
    rcases List.mem_append.mp hq with h1 | h1
    · exact hS.2.2 q h1
    · exact h.asub _ (hL q h1)⟩
  obtain ⟨t2, a1, b1⟩ := kk v' M' hQ F (by rw [e1]; exact hP2) hS2 hl T' rfl X'
  refine ⟨t2, st t2 ?_, b1⟩
  have hst : ((v'.map (tv ι)).toList ++ rest).map (tv ad) = (v'.map (tv fun j => ad (ι j))).toList ++ rest.map (tv ad) := by
    rw [List.map_append]
    congr 1
    cases v' with
    | none => rfl
    | some w => show [tv ad (tv ι w)] = [tv _ w]; rw [tv_tv]
  rw [hst] at a1
  exact a1
theorem room_le {d' n : Nat} (h : d' ≤ 20) (hn : n ≤ 90) : (rmd d').frames + 1 ≤ room_1.frames ∧ 8 + (n + 11) + (rmd d').locals ≤ room_1.locals := by
  refine ⟨show d' + 1 ≤ 2048 by omega, ?_⟩
  show 8 + (n + 11) + 120 * d' ≤ 84000
  omega
theorem L_callV {L : Nat} {xs : Nat → Int32} {pc : Nat} {ls : List (Option Value)} {st : List Value} {M : Mem} {idx n : Nat} (y : MI) (sh' : Shp) (ι : Nat → Nat) (mg : Mem → Mem) (d' r : Nat) (as rest : List Value) {Mc : Mem} {Q' : Option Value → Mem → Prop}
    (hc : CT y sh' d' (.ref r :: as) Mc Q') (h : Sub sh' ι shL) (hM : ∀ j, j < sh'.length → Mc j = M (ι j)) (hmg : ∀ M', Mrg sh'.length ι shL.length M M' (mg M'))
    (hy : VI y n) (hn : as.length = n) (hlink : Cond.methodLink "WarmWallsLaw" idx y.1 ∈ gtbl) (hrec : ∃ ci fs q, sh'[r]? = some (.inl (ci, fs)) ∧ vwCl[ci]? = some q ∧ q.1 = y.1.cls)
    (hd' : d' ≤ 20) (hrest : (rest.map fun v => v.category).sum ≤ 8) (hd : decode code pc = .ok (.invokevirtual idx, 3)) (hst : st = (as.map (tv ι)).reverse ++ .ref (ι r) :: rest)
    (kk : ∀ v M', Q' v M' → GL L xs (pc + 3) ls ((v.map (tv ι)).toList ++ rest) (mg M')) : GL L xs pc ls st M := by
  intro p l e s m below meth c D cts ad b H locs lsA F hP hS hl
  subst hst
  obtain ⟨ci, fs, q, hr1, hr2, hr3⟩ := hrec
  obtain ⟨v1, v2, v3, v4, v5, v6⟩ := hy
  have hts := F.1.1.2.2.2.2.1
  have hrl : r < sh'.length := (List.getElem?_eq_some_iff.mp hr1).1
  have hPc := h.P (D := D) (cts := cts) (ad := ad) hM hP
  have hrec2 := va_recv F.1.2.1 hPc hr2 (wld_at hr1)
  rw [hr3] at hrec2
  refine L_run (av := (Value.ref (ad (ι r)) :: as.map (tv fun j => ad (ι j))).toArray) h hmg kk F hP hS hl ?_
  refine va_runV (As := as.map (tv fun j => ad (ι j))) (n := n) (Ts := gtbl) (own := "WarmWallsLaw") (y := y.1) (C := y.1.cls) ⟨F.1.1.1, F.1.1.2.1, F.1.1.2.2.1, F.1.1.2.2.2.1, hts⟩ (hc l D cts (fun j => ad (ι j)))
    ⟨callB_of n hts (good_y v1) rfl rfl rfl (hts _ v4) (hts _ hlink) v5 (room_le hd' v6), hts _ v2, hts _ v3⟩
    ⟨WU.blind, hrec2, fun U hU hW => ⟨rfl, WU.of F.1 hP hS h hM U hU hW⟩⟩ rfl (by rw [List.length_map]; exact hn) hl.1.1 (map_args ad ι as _) ?_ hd ⟨Nat.le_refl _, Nat.le_refl _⟩
  exact lv_room (by rw [tv_cats]; exact hrest)
theorem recC {y : MI} (h : y.1.cls = "WarmWalls") : ∃ ci fs q, shC[0]? = some (.inl (ci, fs)) ∧ vwCl[ci]? = some q ∧ q.1 = y.1.cls := ⟨4, _, _, rfl, rfl, h.symm⟩
theorem recR {y : MI} (h : y.1.cls = "WarmWallsModel") : ∃ ci fs q, shR[0]? = some (.inl (ci, fs)) ∧ vwCl[ci]? = some q ∧ q.1 = y.1.cls := ⟨5, _, _, rfl, rfl, h.symm⟩
theorem L_arg {L : Nat} {xs : Nat → Int32} {pc : Nat} {ls : List (Option Value)} {st : List Value} {M : Mem} {i : Nat} (j : Nat) (h0 : decode code pc = .ok (.aload_n 0, 1)) (h1 : decode code (pc + 1) = .ok (.iload_n 3, 1)) (h2 : decode code (pc + 2) = .ok (.iconst (j : Int), 1)) (h3 : decode code (pc + 3) = .ok (.iadd, 1)) (h4 : decode code (pc + 4) = .ok (.iaload, 1))
    (hl0 : ls[0]? = some (some (.ref 2000))) (hl3 : ls[3]? = some (some (.int (nI i)))) (hi : i + j < L) (hL : L ≤ 3072) (k : GL L xs (pc + 5) ls (.int (xs (i + j)) :: st) M) : GL L xs pc ls st M := by
  refine L_aload_n h0 (i := 0) rfl hl0 ?_
  refine L_iload_n h1 (i := 3) rfl hl3 ?_
  refine L_iconst h2 (v := nI j) rfl ?_
  refine L_iadd h3 ?_
  have e : nI i + nI j = nI (i + j) := nI_add i j
  rw [e]
  exact L_sld hi hL h4 k
def lsL (i : Nat) : List (Option Value) := [some (.ref 2000), some (.ref 0), some (.ref 69), some (.int (nI i))]
/-- what stands at the loop's head -/
def LI (M σ : Mem) : Prop := RC M σ ∧ RR (mR M) σ ∧ Inv σ
