theorem x_ldcw_str {p : Program} {l : Launch} {e : Env} {R : Room} {s : State} {m : MethodId} {args : Array Value} {below : List Frame} {meth : Method} {c : Code} {T : State} {locs : List Loc} {cells slots : Nat}
    (X : Stand p l e R s m args below meth c T locs cells slots) (hexec : p.tables.exec = Jvm.exec) {own text : String} {index : Nat} {a : Addr} (hown : s.vm.findClass own = some m.cls)
    (hconst : (Cond.stringRef own index text).before args s = true) (hev : (Term.string own index).eval args s none [] s = some (.ref a)) {g : JFrame} (hg : g.method = m) (hdg : decode c.code g.pc = .ok (.ldc_w index, 3)) :
    ∀ target, Steps p.tables e below (T.setTop { g with pc := g.pc + 3, stack := .ref a :: g.stack }) target → Steps p.tables e below (T.setTop g) target := by
  obtain ⟨k, cf, i, a', hk, hcf, hcp, -, hr, hev'⟩ := Cond.stringRef_spec hown hconst
  cases hev.symm.trans hev'
  obtain ⟨k', hk', he⟩ := X.warmed.alike.2.2 _ _ hk
  have hr' : k'.resolved[index]? = some (some (.string a)) := by
    rcases X.warmed.entry hk hk' index with h | ⟨h, -⟩
    · rw [h]; exact hr
    · rw [hr] at h; cases h
  intro target hrest
  subst hg
  jvm_step X.here [hexec, hdg, ldc_w.wp_string (e := e) (s := T) (f := g) X.here.top hk' (by rw [he]; exact hcf) hcp hr']
  exact hrest
theorem G_ldcsw {K : MI} {sh : Shp} {d : Nat} {Q : Option Value → Mem → Prop} {pc : Nat} {ls : List (Option Value)} {st : List Value} {M : Mem} {index i : Nat} {tx : String} (hd : decode K.2.1 pc = .ok (.ldc_w index, 3)) (hc : (K.1.cls, index, tx, i) ∈ strRefs) (k : G K sh d Q (pc + 3) ls (.ref (1100 + i) :: st) M) : G K sh d Q pc ls (st) M := by
  intro p l e s m args below meth c D cts ad H locs lsA F hP hS hl
  have hZ := F.2.2.2.2.2.2.2.1 _ hc
  intro T hT X
  obtain ⟨t, a1, b1⟩ := k F hP hS hl T hT X
  exact ⟨t, x_ldcw_str X F.1.1 F.1.2.2.2.1 (text := tx) hZ.1 hZ.2 (g := F0 m pc lsA (st.map (tv ad))) rfl (by rw [F.1.2.1]; exact hd) t a1, b1⟩
theorem minI_rg {a b : Int32} {lo hi : Int} (ha : rg a lo hi) (hb : rg b lo hi) : rg (minI a b) lo hi := by
  unfold minI
  by_cases h : b < a
  · rw [if_pos h]; exact hb
  · rw [if_neg h]; exact ha
theorem valE_rg {T : Nat → Int32} {L : Nat} : ∀ (f e : Nat) (v : Int32), rg v 0 10000 → rg (valE T L f e v) 0 10000
  | 0, _, v, h => h
  | f + 1, e, v, h => by
    show rg (if srt (byt T L e) = 2 then _ else v) 0 10000
    by_cases h2 : srt (byt T L e) = 2
    · rw [if_pos h2]
      refine valE_rg f (e + 1) _ ?_
      obtain ⟨h3, h4⟩ := srt_2.mp h2
      rw [i32_le] at h3 h4
      have e57 : (57 : Int32).toInt = 57 := rfl
      have e48 : (48 : Int32).toInt = 48 := rfl
      have e10 : (10 : Int32).toInt = 10 := rfl
      have eT : (10000 : Int32).toInt = 10000 := rfl
      unfold rg at h
      have em : ((10 : Int32) * v).toInt = 10 * v.toInt := by rw [mul_I (by rw [e10]; omega) (by rw [e10]; omega), e10]
      have es : ((10 : Int32) * v + byt T L e - 48).toInt = 10 * v.toInt + (byt T L e).toInt - 48 := by
        rw [sub_I (by rw [add_I (by rw [em]; omega) (by rw [em]; omega), em, e48]; omega) (by rw [add_I (by rw [em]; omega) (by rw [em]; omega), em, e48]; omega), add_I (by rw [em]; omega) (by rw [em]; omega), em, e48]
      unfold minI
      by_cases h5 : (10 : Int32) * v + byt T L e - 48 < 10000
      · rw [if_pos h5]
        rw [i32_lt, es, eT] at h5
        unfold rg
        rw [es]
        omega
      · rw [if_neg h5]
        unfold rg
        rw [eT]
        omega
    · rw [if_neg h2]; exact h
theorem tV_rg {T : Nat → Int32} {L e : Nat} : rg (tV T L e) 0 10000 := by
  unfold tV
  by_cases h : tS T L e = 2
  · rw [if_pos h]; exact valE_rg 121 _ _ (by unfold rg; decide)
  · rw [if_neg h]; unfold rg; decide
theorem tV_nn {T : Nat → Int32} {L e : Nat} : 0 ≤ tV T L e := by
  have h := tV_rg (T := T) (L := L) (e := e)
  unfold rg at h
  rw [i32_le]
  exact h.1
theorem numF_t {T : Nat → Int32} {L e n : Nat} {R : List Row} {lo hi : Int32} : numF T L (true, e, n, R) lo hi = if tS T L e = 2 ∧ (lo ≤ tV T L e ∧ tV T L e ≤ hi) then (true, tE T L e, n, R) else (false, e, n, R) := by
  unfold numF mustF
  rw [if_pos rfl]
  by_cases h : tS T L e = 2 ∧ (lo ≤ tV T L e ∧ tV T L e ≤ hi)
  · rw [if_pos h]
    exact if_pos (by show (decide (tS T L e = 2) && decide (lo ≤ tV T L e ∧ tV T L e ≤ hi)) = true; rw [decide_eq_true h.1, decide_eq_true h.2]; rfl)
  · rw [if_neg h]
    refine if_neg (fun z => h ?_)
    have z2 : (decide (tS T L e = 2) && decide (lo ≤ tV T L e ∧ tV T L e ≤ hi)) = true := z
    obtain ⟨a, b⟩ := Bool.and_eq_true_iff.mp z2
    exact ⟨of_decide_eq_true a, of_decide_eq_true b⟩
theorem pOut_eq {T : Nat → Int32} {L e n : Nat} {R : List Row} : rowF (numF T L (true, tE T L e, n, R) 0 100) (20, tV T L (tE T L e), 0) = pOut T L n e R := by
  unfold pOut
  rw [numF_t]
  by_cases h : tS T L (tE T L e) = 2 ∧ tV T L (tE T L e) ≤ 100
  · rw [if_pos h, if_pos ⟨h.1, tV_nn, h.2⟩]
    rfl
  · rw [if_neg h, if_neg (fun z => h ⟨z.1, z.2.2⟩)]
    rfl
theorem fit6 {n : Nat} {a v : Int32} (h : roomB n a = true) : fitB n a 6 v = decide (0 ≤ v ∧ v ≤ 3) := by
  unfold fitB
  rw [h, show roomB 9 6 = true from by decide, show cut 6 = 6 from rfl, show tLeast.getD 6 0 = 0 from rfl, show tMost.getD 6 0 = 3 from rfl, decide_eq_false (show ¬ ((6 : Int32) = 4 ∧ v = a) from fun z => absurd z.1 (by decide))]
  simp
theorem pDamp_eq {T : Nat → Int32} {L e n : Nat} {R : List Row} {v : Int32} (hn : n ≤ 8) (hv : (numF T L (true, tE T L e, n, R) 0 (nI n - 1)).1 = true → v = tV T L (tE T L (tE T L e))) : rowF (numF T L (numF T L (true, tE T L e, n, R) 0 (nI n - 1)) 0 3) (16, tV T L (tE T L e), v) = pDamp T L n e R := by
  unfold pDamp
  rw [numF_t] at hv ⊢
  have hw := within_room (r := tV T L (tE T L e)) (n := n) hn
  by_cases h : tS T L (tE T L e) = 2 ∧ roomB n (tV T L (tE T L e)) = true
  · have h2 : tS T L (tE T L e) = 2 ∧ (0 ≤ tV T L (tE T L e) ∧ tV T L (tE T L e) ≤ nI n - 1) := ⟨h.1, of_decide_eq_true (hw.trans h.2)⟩
    rw [if_pos h2] at hv
    rw [if_pos h, if_pos h2, numF_t, fit6 h.2, hv rfl]
    by_cases h3 : tS T L (tE T L (tE T L e)) = 2 ∧ (0 ≤ tV T L (tE T L (tE T L e)) ∧ tV T L (tE T L (tE T L e)) ≤ 3)
    · rw [if_pos h3, if_pos ⟨h3.1, decide_eq_true h3.2⟩]
      rfl
    · rw [if_neg h3, if_neg (fun z => h3 ⟨z.1, of_decide_eq_true z.2⟩)]
      rfl
  · rw [if_neg h, if_neg (fun z => h ⟨z.1, hw.symm.trans (decide_eq_true z.2)⟩)]
    rfl
def finP (T : Nat → Int32) (L own : Nat) (r : PR) (p : Nat) : PR := if r.1 = true then pParts T L own (4 - p) r.2.1 r.2.2.2 else r
theorem findF_is {p : Nat → Bool} : ∀ (f i k : Nat), findF p i f = some k → p k = true
  | 0, _, _, h => by cases h
  | f + 1, i, k, h => by
    have h2 : (if p i = true then some i else findF p (i + 1) f) = some k := h
    by_cases q : p i = true
    · rw [if_pos q] at h2
      have e := Option.some.inj h2
      rw [← e]; exact q
    · rw [if_neg q] at h2
      exact findF_is f (i + 1) k h2
theorem XS.item {σ M : Mem} {L it B : Nat} {r : PR} (h : XS σ L it B r M) : XS σ L (it + 1) B r (ups M 0 29 (nI (it + 1))) := by
  have k4 : ∀ c, c ≠ 0 → ups M 0 29 (nI (it + 1)) c = M c := fun c hc => ups_cell hc
  have k5 : ∀ y, y ≠ 29 → ups M 0 29 (nI (it + 1)) 0 y = M 0 y := fun y hy => ups_ne (by omega)
  refine ⟨ups_same _ _ _ _, ?_⟩
  rcases h.2 with ⟨h1, h2, h3⟩ | ⟨h1, m, h2, h3⟩
  · exact Or.inl ⟨h1, h2, h3.1.txt (fun c a b => k4 c a) (k5 3 (by decide)) (k5 19 (by decide)), by rw [k5 24 (by decide)]; exact h3.2.1, ⟨by rw [k5 20 (by decide)]; exact h3.2.2.1.1, fun q => by rw [k5 21 (by decide)]; exact h3.2.2.1.2.1 q, by rw [k5 22 (by decide)]; exact h3.2.2.1.2.2.1, by rw [k5 23 (by decide)]; exact h3.2.2.1.2.2.2⟩, h3.2.2.2.1, by rw [k5 30 (by decide)]; exact h3.2.2.2.2.1, h3.2.2.2.2.2.1, by rw [k5 28 (by decide)]; exact h3.2.2.2.2.2.2.1, fun j hj => by rw [k4 15 (by decide)]; exact h3.2.2.2.2.2.2.2 j hj⟩
  · exact Or.inr ⟨h1, m, h2, h3.1.txt (fun c a b => k4 c a) (k5 3 (by decide)) (k5 19 (by decide)), by rw [k5 24 (by decide)]; exact h3.2.1, by rw [k5 20 (by decide)]; exact h3.2.2.1, by rw [k5 28 (by decide)]; exact h3.2.2.2⟩
theorem XS.bump {σ M : Mem} {L it B e n n2 : Nat} {ok : Bool} {R : List Row} (h : XS σ L it B (ok, e, n, R) M) (hn : n2 ≤ 8) : XS σ L it B (ok, e, n2, R) (ups M 0 30 (nI n2)) := by
  have k4 : ∀ c, c ≠ 0 → ups M 0 30 (nI n2) c = M c := fun c hc => ups_cell hc
  have k5 : ∀ y, y ≠ 30 → ups M 0 30 (nI n2) 0 y = M 0 y := fun y hy => ups_ne (by omega)
  refine ⟨by rw [k5 29 (by decide)]; exact h.1, ?_⟩
  rcases h.2 with ⟨h1, h2, h3⟩ | ⟨h1, m, h2, h3⟩
  · exact Or.inl ⟨h1, h2, h3.1.txt (fun c a b => k4 c a) (k5 3 (by decide)) (k5 19 (by decide)), by rw [k5 24 (by decide)]; exact h3.2.1, ⟨by rw [k5 20 (by decide)]; exact h3.2.2.1.1, fun q => by rw [k5 21 (by decide)]; exact h3.2.2.1.2.1 q, by rw [k5 22 (by decide)]; exact h3.2.2.1.2.2.1, by rw [k5 23 (by decide)]; exact h3.2.2.1.2.2.2⟩, h3.2.2.2.1, ups_same _ _ _ _, hn, by rw [k5 28 (by decide)]; exact h3.2.2.2.2.2.2.1, fun j hj => by rw [k4 15 (by decide)]; exact h3.2.2.2.2.2.2.2 j hj⟩
  · exact Or.inr ⟨h1, m, h2, h3.1.txt (fun c a b => k4 c a) (k5 3 (by decide)) (k5 19 (by decide)), by rw [k5 24 (by decide)]; exact h3.2.1, by rw [k5 20 (by decide)]; exact h3.2.2.1, by rw [k5 28 (by decide)]; exact h3.2.2.2⟩
theorem XS.bumpB {σ M : Mem} {L it B : Nat} {r : PR} {x : Int32} (h : XS σ L it B r M) (hr : r.1 = false) : XS σ L it B r (ups M 0 30 x) := by
  have k4 : ∀ c, c ≠ 0 → ups M 0 30 x c = M c := fun c hc => ups_cell hc
  have k5 : ∀ y, y ≠ 30 → ups M 0 30 x 0 y = M 0 y := fun y hy => ups_ne (by omega)
  obtain ⟨m, h2, h3⟩ := h.bad hr
  exact ⟨by rw [k5 29 (by decide)]; exact h.1, Or.inr ⟨hr, m, h2, h3.1.txt (fun c a b => k4 c a) (k5 3 (by decide)) (k5 19 (by decide)), by rw [k5 24 (by decide)]; exact h3.2.1, by rw [k5 20 (by decide)]; exact h3.2.2.1, by rw [k5 28 (by decide)]; exact h3.2.2.2⟩⟩
set_option maxRecDepth 20000 in
theorem rf_readItem {σ : Mem} {L it B e n : Nat} {R : List Row} {M : Mem} (hL : σ 43 0 = nI L) (hH : TH (σ 42) L) (hX : XS σ L it B (true, e, n, R) M) (hB : B + 6 ≤ 720) {Q : Option Value → Mem → Prop} (hQ : ∀ M2 : Mem, XS σ L (it + 1) (B + 6) (pItem (σ 42) L n e R) M2 → Q none M2) : CT mX5_readItem shR 6 [.ref 0] M Q := by
  refine CT.mk [some (.ref 0), none, none, none, none, none] (by decide) (Nat.le_of_ble_eq_true rfl) rfl rfl ?_
  obtain ⟨hlen, hok⟩ := hX.ok rfl
  have hn8 : n ≤ 8 := hok.2.2.2.2.2.1
  refine G_aload_n (K := mX5_readItem) (i := 0) dX5_readItem_0 rfl rfl ?_
  refine G_cv (K := mX5_readItem) (rf_kindTold (T := σ 42) (L := L) (e := e) (M := M) hH (rr_tp hok.1 hL) hok.2.2.1 hok.2.2.2.1 ⟨rfl, rfl⟩) vX5_kindTold rfl lX5_303 dX5_readItem_1 ⟨_, _, _, rfl, rfl, rfl⟩ (by decide) rfl (Nat.le_of_ble_eq_true rfl) ?_
  refine G_istore_n (K := mX5_readItem) (i := 1) dX5_readItem_4 rfl (by decide) ?_
  refine G_aload_n (K := mX5_readItem) (i := 0) dX5_readItem_5 rfl rfl ?_
  refine G_dup (K := mX5_readItem) dX5_readItem_6 rfl ?_
  refine G_geti (K := mX5_readItem) fX5_306 dX5_readItem_7 rfl rfl ?_
  refine G_iconst (K := mX5_readItem) (v := 1) dX5_readItem_10 (by decide) ?_
  refine G_iadd (K := mX5_readItem) dX5_readItem_11 ?_
  rw [hX.1, nI_1]
  refine G_puti (K := mX5_readItem) fX5_306 w5_29 dX5_readItem_12 rfl rfl ?_
  have hX1 := hX.item
  obtain ⟨M1, hM1⟩ : ∃ M1, M1 = ups M 0 29 (nI (it + 1)) := ⟨_, rfl⟩
  rw [← hM1] at hX1 ⊢
  have hok1 := (hX1.ok rfl).2
  have hn30 : M1 0 30 = nI n := hok1.2.2.2.2.1
  refine G_iload_n (K := mX5_readItem) (i := 1) dX5_readItem_15 rfl rfl ?_
  refine G_if_lt (K := mX5_readItem) (tgt := 191) dX5_readItem_16 (by decide) (fun c16 => ?_) (fun c16 => ?_)
  · skip
    have hkn : kindT (σ 42) L e = none := by
      rcases kindT_lt (T := σ 42) (L := L) (e := e) with ⟨h, -⟩ | ⟨k, hk, h⟩
      · exact h
      · rw [h] at c16; exact absurd c16 (nI_pos (by omega))
    refine G_aload_n (K := mX5_readItem) (i := 0) dX5_readItem_191 rfl rfl ?_
    refine G_ldcsw (K := mX5_readItem) (i := 12) (tx := "damper") dX5_readItem_192 (by decide +kernel) ?_
    refine G_call0 (K := mX5_readItem) (as := [.ref (1100 + (12))]) (r := 0) (Q' := fun u Mz => (u = some (.int 1) ∧ ((true, e, n, R)).1 = true ∧ isW (σ 42) L ((true, e, n, R)).2.1 (12) = true ∧ XS σ L (it + 1) (B) (true, tE (σ 42) L ((true, e, n, R)).2.1, ((true, e, n, R)).2.2.1, ((true, e, n, R)).2.2.2) Mz ∧ Mz 0 30 = M1 0 30) ∨ (u = some (.int 0) ∧ (((true, e, n, R)).1 = true → isW (σ 42) L ((true, e, n, R)).2.1 (12) = false) ∧ Mz = M1)) (rf_isNext (M := M1) (i := 12) hL hH hX1 (by omega) (fun Mz q1 q2 q3 q4 => Or.inl ⟨rfl, q1, q2, q3, q4⟩) (fun q1 => Or.inr ⟨rfl, q1, rfl⟩)) vX5_isNext rfl lX5_315 ⟨_, _, _, rfl, rfl, rfl⟩ (by decide) (Nat.le_of_ble_eq_true rfl) dX5_readItem_195 rfl ?_
    rintro u M2 hNX
    obtain ⟨z, rfl⟩ : ∃ z : Int32, u = some (.int z) := by
      rcases hNX with ⟨h, -⟩ | ⟨h, -⟩
      · exact ⟨1, h⟩
      · exact ⟨0, h⟩
    refine G_if_eq (K := mX5_readItem) (tgt := 235) dX5_readItem_198 (by decide) (fun c198 => ?_) (fun c198 => ?_)
    · skip
      obtain ⟨hno, hM2⟩ : isW (σ 42) L e 12 = false ∧ M2 = M1 := by
        rcases hNX with ⟨h, -⟩ | ⟨-, h1, h2⟩
        · rw [Option.some.inj h |> Value.int.inj] at c198; exact absurd c198 (by decide)
        · exact ⟨h1 rfl, h2⟩
      rw [hM2]
      refine G_aload_n (K := mX5_readItem) (i := 0) dX5_readItem_235 rfl rfl ?_
      refine G_aload_n (K := mX5_readItem) (i := 0) dX5_readItem_236 rfl rfl ?_
      refine G_ldcsw (K := mX5_readItem) (i := 13) (tx := "out") dX5_readItem_237 (by decide +kernel) ?_
      refine G_cv (K := mX5_readItem) (rf_isWord (T := σ 42) (L := L) (e := e) (i := 13) (M := M1) hH (rr_tp hok1.1 hL) hok1.2.2.1 hok1.2.2.2.1 (by omega) ⟨rfl, rfl⟩) vX5_isWord rfl lX5_299 dX5_readItem_240 ⟨_, _, _, rfl, rfl, rfl⟩ (by decide) rfl (Nat.le_of_ble_eq_true rfl) ?_
      refine G_call0 (K := mX5_readItem) (as := [.int (bI (isW (σ 42) L e 13))]) (r := 0) (Q' := fun u Mz => u = none ∧ XS σ L (it + 1) (B) (mustF (σ 42) L (true, e, n, R) (decide (¬ (bI (isW (σ 42) L e 13)) = 0))) Mz ∧ Mz 0 30 = M1 0 30) (rf_must (M := M1) (z := (bI (isW (σ 42) L e 13))) hL hH hX1 (fun h _ => by rw [show tS (σ 42) L e = 1 from isW_s1 (bI_1 h)]; decide) (fun Mz q1 q2 => ⟨rfl, q1, q2⟩)) vX5_must rfl lX5_292 ⟨_, _, _, rfl, rfl, rfl⟩ (by decide) (Nat.le_of_ble_eq_true rfl) dX5_readItem_243 rfl ?_
      rintro u M3 ⟨rfl, hXM3, h30M3⟩
      refine G_aload_n (K := mX5_readItem) (i := 0) dX5_readItem_246 rfl rfl ?_
      refine G_bipush (K := mX5_readItem) (v := 20) dX5_readItem_247 (by decide) ?_
      refine G_aload_n (K := mX5_readItem) (i := 0) dX5_readItem_249 rfl rfl ?_
      refine G_iconst (K := mX5_readItem) (v := 0) dX5_readItem_250 (by decide) ?_
      refine G_bipush (K := mX5_readItem) (v := 100) dX5_readItem_251 (by decide) ?_
      refine G_call0 (K := mX5_readItem) (as := [.int (0), .int (100)]) (r := 0) (Q' := fun u Mz => u = some (.int (M3 0 23)) ∧ XS σ L (it + 1) (B) (numF (σ 42) L (mustF (σ 42) L (true, e, n, R) (decide (¬ bI (isW (σ 42) L e 13) = 0))) (0) (100)) Mz ∧ Mz 0 30 = M3 0 30) (rf_number (M := M3) (lo := 0) (hi := 100) hL hH hXM3 (fun Mz q1 q2 => ⟨rfl, q1, q2⟩)) vX5_number rfl lX5_322 ⟨_, _, _, rfl, rfl, rfl⟩ (by decide) (Nat.le_of_ble_eq_true rfl) dX5_readItem_253 rfl ?_
      rintro u M4 ⟨rfl, hXM4, h30M4⟩
      refine G_iconst (K := mX5_readItem) (v := 0) dX5_readItem_256 (by decide) ?_
      refine G_call0 (K := mX5_readItem) (as := [.int (nI (20)), .int (M3 0 23), .int (0)]) (r := 0) (Q' := fun u Mz => u = none ∧ XS σ L (it + 1) (B + 1) (rowF (numF (σ 42) L (mustF (σ 42) L (true, e, n, R) (decide (¬ bI (isW (σ 42) L e 13) = 0))) 0 100) (20, M3 0 23, 0)) Mz ∧ Mz 0 30 = (M4) 0 30) (rf_row (M := M4) (w := 20) (a := M3 0 23) (b := 0) hL hH hXM4 (by omega) (fun Mz q1 q2 => ⟨rfl, q1, q2⟩)) vX5_row rfl lX5_312 ⟨_, _, _, rfl, rfl, rfl⟩ (by decide) (Nat.le_of_ble_eq_true rfl) dX5_readItem_257 rfl ?_
      rintro u M5 ⟨rfl, hXM5, h30M5⟩
      have hpi : pItem (σ 42) L n e R = rowF (numF (σ 42) L (mustF (σ 42) L (true, e, n, R) (decide (¬ bI (isW (σ 42) L e 13) = 0))) 0 100) (20, M3 0 23, 0) := by
        rw [pItem_none hkn]
        rcases Bool.eq_false_or_eq_true (isW (σ 42) L e 13) with hw | hw
        · rw [hw] at hXM3 ⊢
          rw [if_pos rfl]
          have hm : mustF (σ 42) L (true, e, n, R) (decide (¬ bI true = 0)) = (true, tE (σ 42) L e, n, R) := (if_pos rfl).trans (if_pos rfl)
          rw [hm] at hXM3 ⊢
          rw [(hXM3.ok rfl).2.2.2.1.2.2.2]
          exact pOut_eq.symm
        · rw [hw]
          rw [if_neg (by decide), if_neg (by rw [hno]; decide)]
          rfl
      exact G_vrm (K := mX5_readItem) dX5_readItem_260 rfl rfl (hQ _ (by rw [hpi]; exact hXM5.le (by omega)))
    · skip
      obtain ⟨hw2, hX2, h302⟩ : isW (σ 42) L e 12 = true ∧ XS σ L (it + 1) B (true, tE (σ 42) L e, n, R) M2 ∧ M2 0 30 = M1 0 30 := by
        rcases hNX with ⟨-, -, h⟩ | ⟨h, -⟩
        · exact h
        · exact absurd (Option.some.inj h |> Value.int.inj) c198
      have hok2 := (hX2.ok rfl).2
      refine G_aload_n (K := mX5_readItem) (i := 0) dX5_readItem_201 rfl rfl ?_
      refine G_iconst (K := mX5_readItem) (v := 0) dX5_readItem_202 (by decide) ?_
      refine G_aload_n (K := mX5_readItem) (i := 0) dX5_readItem_203 rfl rfl ?_
      refine G_geti (K := mX5_readItem) fX5_309 dX5_readItem_204 rfl rfl ?_
      rw [h302, hn30]
      refine G_iconst (K := mX5_readItem) (v := 1) dX5_readItem_207 (by decide) ?_
      refine G_isub (K := mX5_readItem) dX5_readItem_208 ?_
      refine G_call0 (K := mX5_readItem) (as := [.int (0), .int (nI n - 1)]) (r := 0) (Q' := fun u Mz => u = some (.int (M2 0 23)) ∧ XS σ L (it + 1) (B) (numF (σ 42) L ((true, tE (σ 42) L e, n, R)) (0) (nI n - 1)) Mz ∧ Mz 0 30 = M2 0 30) (rf_number (M := M2) (lo := 0) (hi := nI n - 1) hL hH hX2 (fun Mz q1 q2 => ⟨rfl, q1, q2⟩)) vX5_number rfl lX5_322 ⟨_, _, _, rfl, rfl, rfl⟩ (by decide) (Nat.le_of_ble_eq_true rfl) dX5_readItem_209 rfl ?_
      rintro u M3 ⟨rfl, hXM3, h30M3⟩
      rw [hok2.2.2.1.2.2.2]
      refine G_istore_n (K := mX5_readItem) (i := 2) dX5_readItem_212 rfl (by decide) ?_
      refine G_aload_n (K := mX5_readItem) (i := 0) dX5_readItem_213 rfl rfl ?_
      refine G_bipush (K := mX5_readItem) (v := 16) dX5_readItem_214 (by decide) ?_
      refine G_iload_n (K := mX5_readItem) (i := 2) dX5_readItem_216 rfl rfl ?_
      refine G_aload_n (K := mX5_readItem) (i := 0) dX5_readItem_217 rfl rfl ?_
      refine G_iconst (K := mX5_readItem) (v := 0) dX5_readItem_218 (by decide) ?_
      refine G_aload_n (K := mX5_readItem) (i := 0) dX5_readItem_219 rfl rfl ?_
      refine G_getr (K := mX5_readItem) fX5_25 dX5_readItem_220 rfl rfl ?_
      refine G_bipush (K := mX5_readItem) (v := 6) dX5_readItem_223 (by decide) ?_
      refine G_ld (K := mX5_readItem) 6 dX5_readItem_225 rfl rfl (by omega) (by decide) ?_
      rw [(hXM3.rr.2.2.2.2.2.2.2 6 (by omega)).2, show tMost.getD 6 0 = 3 from rfl]
      refine G_call0 (K := mX5_readItem) (as := [.int (0), .int (3)]) (r := 0) (Q' := fun u Mz => u = some (.int (M3 0 23)) ∧ XS σ L (it + 1) (B) (numF (σ 42) L (numF (σ 42) L (true, tE (σ 42) L e, n, R) 0 (nI n - 1)) (0) (3)) Mz ∧ Mz 0 30 = M3 0 30) (rf_number (M := M3) (lo := 0) (hi := 3) hL hH hXM3 (fun Mz q1 q2 => ⟨rfl, q1, q2⟩)) vX5_number rfl lX5_322 ⟨_, _, _, rfl, rfl, rfl⟩ (by decide) (Nat.le_of_ble_eq_true rfl) dX5_readItem_226 rfl ?_
      rintro u M4 ⟨rfl, hXM4, h30M4⟩
      refine G_call0 (K := mX5_readItem) (as := [.int (nI (16)), .int (tV (σ 42) L (tE (σ 42) L e)), .int (M3 0 23)]) (r := 0) (Q' := fun u Mz => u = none ∧ XS σ L (it + 1) (B + 1) (rowF (numF (σ 42) L (numF (σ 42) L (true, tE (σ 42) L e, n, R) 0 (nI n - 1)) 0 3) (16, tV (σ 42) L (tE (σ 42) L e), M3 0 23)) Mz ∧ Mz 0 30 = (M4) 0 30) (rf_row (M := M4) (w := 16) (a := tV (σ 42) L (tE (σ 42) L e)) (b := M3 0 23) hL hH hXM4 (by omega) (fun Mz q1 q2 => ⟨rfl, q1, q2⟩)) vX5_row rfl lX5_312 ⟨_, _, _, rfl, rfl, rfl⟩ (by decide) (Nat.le_of_ble_eq_true rfl) dX5_readItem_229 rfl ?_
      rintro u M5 ⟨rfl, hXM5, h30M5⟩
      refine G_goto (K := mX5_readItem) (tgt := 260) dX5_readItem_232 (by decide) ?_
      have hpi : pItem (σ 42) L n e R = pDamp (σ 42) L n e R := by
        rw [pItem_none hkn, if_neg (fun z => absurd (isW_one (by decide) (by decide) z hw2) (by decide)), if_pos hw2]
      have hpd := pDamp_eq (T := σ 42) (L := L) (e := e) (n := n) (R := R) (v := M3 0 23) hn8 (fun h => by
        have hk3 := (hXM3.ok h).2
        rw [hk3.2.2.1.2.2.2]
        rw [numF_t] at h ⊢
        by_cases hc : tS (σ 42) L (tE (σ 42) L e) = 2 ∧ (0 ≤ tV (σ 42) L (tE (σ 42) L e) ∧ tV (σ 42) L (tE (σ 42) L e) ≤ nI n - 1)
        · rw [if_pos hc]
        · rw [if_neg hc] at h; exact absurd (show false = true from h) (by decide))
      rw [hpd] at hXM5
      exact G_vrm (K := mX5_readItem) dX5_readItem_260 rfl rfl (hQ _ (by rw [hpi]; exact hXM5.le (by omega)))
  · skip
    obtain ⟨k, hk, hks⟩ : ∃ k, k < 7 ∧ kindT (σ 42) L e = some k := by
      rcases kindT_lt (T := σ 42) (L := L) (e := e) with ⟨-, h⟩ | h
      · exact absurd h c16
      · exact h
    have hwk : isW (σ 42) L e k = true := findF_is (p := fun k => isW (σ 42) L e k) 7 0 k hks
    rw [hks]
    show G mX5_readItem shR 6 Q _ [some (.ref 0), some (.int (nI k)), none, none, none, none] _ M1
    refine G_aload_n (K := mX5_readItem) (i := 0) dX5_readItem_19 rfl rfl ?_
    refine G_aload_n (K := mX5_readItem) (i := 0) dX5_readItem_20 rfl rfl ?_
    refine G_geti (K := mX5_readItem) fX5_309 dX5_readItem_21 rfl rfl ?_
    rw [hn30]
    refine G_bipush (K := mX5_readItem) (v := 8) dX5_readItem_24 (by decide) ?_
    refine G_icmp_ge (K := mX5_readItem) (tgt := 33) dX5_readItem_26 (by decide) (fun c26 => ?_) (fun c26 => ?_)
    · skip
      rw [show (8 : Int32) = nI 8 from rfl, le_nn (by omega) (by omega)] at c26
      refine G_iconst (K := mX5_readItem) (v := 0) dX5_readItem_33 (by decide) ?_
      refine G_call0 (K := mX5_readItem) (as := [.int 0]) (r := 0) (Q' := fun u Mz => u = none ∧ XS σ L (it + 1) (B) (mustF (σ 42) L (true, e, n, R) (decide (¬ 0 = 0))) Mz ∧ Mz 0 30 = M1 0 30) (rf_must (M := M1) (z := 0) hL hH hX1 (fun h => absurd rfl h) (fun Mz q1 q2 => ⟨rfl, q1, q2⟩)) vX5_must rfl lX5_292 ⟨_, _, _, rfl, rfl, rfl⟩ (by decide) (Nat.le_of_ble_eq_true rfl) dX5_readItem_34 rfl ?_
      rintro u M2 ⟨rfl, hXM2, h30M2⟩
      rw [show mustF (σ 42) L (true, e, n, R) (decide (¬ (0 : Int32) = 0)) = (false, e, n, R) from (if_pos rfl).trans (if_neg (by decide))] at hXM2
      refine G_aload_n (K := mX5_readItem) (i := 0) dX5_readItem_37 rfl rfl ?_
      refine G_geti (K := mX5_readItem) fX5_309 dX5_readItem_38 rfl rfl ?_
      rw [h30M2, hn30]
      refine G_istore_n (K := mX5_readItem) (i := 2) dX5_readItem_41 rfl (by decide) ?_
      refine G_aload_n (K := mX5_readItem) (i := 0) dX5_readItem_42 rfl rfl ?_
      refine G_dup (K := mX5_readItem) dX5_readItem_43 rfl ?_
      refine G_geti (K := mX5_readItem) fX5_309 dX5_readItem_44 rfl rfl ?_
      refine G_iconst (K := mX5_readItem) (v := 1) dX5_readItem_47 (by decide) ?_
      refine G_iadd (K := mX5_readItem) dX5_readItem_48 ?_
      rw [h30M2, hn30, nI_1]
      refine G_puti (K := mX5_readItem) fX5_309 w5_30 dX5_readItem_49 rfl rfl ?_
      refine G_aload_n (K := mX5_readItem) (i := 0) dX5_readItem_52 rfl rfl ?_
      refine G_iload_n (K := mX5_readItem) (i := 1) dX5_readItem_53 rfl rfl ?_
      refine G_iconst (K := mX5_readItem) (v := 0) dX5_readItem_54 (by decide) ?_
      refine G_iconst (K := mX5_readItem) (v := 0) dX5_readItem_55 (by decide) ?_
      have hX3 := hXM2.bumpB (x := nI (n + 1)) rfl
      refine G_call0 (K := mX5_readItem) (as := [.int (nI (k)), .int (0), .int (0)]) (r := 0) (Q' := fun u Mz => u = none ∧ XS σ L (it + 1) (B + 1) (rowF ((false, e, n, R)) (k, 0, 0)) Mz ∧ Mz 0 30 = ((ups M2 0 30 (nI (n + 1)))) 0 30) (rf_row (M := (ups M2 0 30 (nI (n + 1)))) (w := k) (a := 0) (b := 0) hL hH hX3 (by omega) (fun Mz q1 q2 => ⟨rfl, q1, q2⟩)) vX5_row rfl lX5_312 ⟨_, _, _, rfl, rfl, rfl⟩ (by decide) (Nat.le_of_ble_eq_true rfl) dX5_readItem_56 rfl ?_
      rintro u M3 ⟨rfl, hXM3, h30M3⟩
      refine G_iconst (K := mX5_readItem) (v := 0) dX5_readItem_59 (by decide) ?_
      refine G_istore_n (K := mX5_readItem) (i := 3) dX5_readItem_60 rfl (by decide) ?_
      have loop61 : ∀ p, p ≤ 4 → ∀ (M4 : Mem) (r4 : PR) (x4 x5 : Option Value), XS σ L (it + 1) (B + 1 + p) r4 M4 → (r4.1 = true → r4.2.2.1 = n + 1) → finP (σ 42) L n r4 p = (false, e, n, R) → G mX5_readItem shR 6 Q 61 [some (.ref 0), some (.int (nI k)), some (.int (nI n)), some (.int (nI p)), x4, x5] [] M4 := by
        refine upto 4 (fun p hp ih => ?_)
        intro M4 r4 x4 x5 hX4 hn4 hfin
        refine G_iload_n (K := mX5_readItem) (i := 3) dX5_readItem_61 rfl rfl ?_
        refine G_aload_n (K := mX5_readItem) (i := 0) dX5_readItem_62 rfl rfl ?_
        refine G_getr (K := mX5_readItem) fX5_74 dX5_readItem_63 rfl rfl ?_
        refine G_alenR (K := mX5_readItem) dX5_readItem_66 rfl (fun _ => ⟨_, rfl⟩) ?_
        refine G_icmp_ge (K := mX5_readItem) (tgt := 170) dX5_readItem_67 (by decide) (fun c67 => ?_) (fun c67 => ?_)
        · skip
          have hp4 : p = 4 := by
            have h := (le_nn (i := p) (n := 4) (by omega) (by omega)).mp c67
            omega
          subst hp4
          have hr4f : r4 = (false, e, n, R) := by
            rw [← hfin]
            unfold finP
            rcases Bool.eq_false_or_eq_true r4.1 with hr | hr
            · rw [if_pos hr]
              show r4 = (true, r4.2.1, n + 1, r4.2.2.2)
              rw [← hn4 hr, ← hr]
            · rw [if_neg (by rw [hr]; decide)]
          refine G_aload_n (K := mX5_readItem) (i := 0) dX5_readItem_170 rfl rfl ?_
          refine G_ldcsw (K := mX5_readItem) (i := 11) (tx := "away") dX5_readItem_171 (by decide +kernel) ?_
          refine G_call0 (K := mX5_readItem) (as := [.ref (1100 + (11))]) (r := 0) (Q' := fun u Mz => (u = some (.int 1) ∧ (r4).1 = true ∧ isW (σ 42) L (r4).2.1 (11) = true ∧ XS σ L (it + 1) (B + 1 + 4) (true, tE (σ 42) L (r4).2.1, (r4).2.2.1, (r4).2.2.2) Mz ∧ Mz 0 30 = M4 0 30) ∨ (u = some (.int 0) ∧ ((r4).1 = true → isW (σ 42) L (r4).2.1 (11) = false) ∧ Mz = M4)) (rf_isNext (M := M4) (i := 11) hL hH hX4 (by omega) (fun Mz q1 q2 q3 q4 => Or.inl ⟨rfl, q1, q2, q3, q4⟩) (fun q1 => Or.inr ⟨rfl, q1, rfl⟩)) vX5_isNext rfl lX5_315 ⟨_, _, _, rfl, rfl, rfl⟩ (by decide) (Nat.le_of_ble_eq_true rfl) dX5_readItem_174 rfl ?_
          rintro u M5 hNX
          obtain ⟨z, rfl⟩ : ∃ z : Int32, u = some (.int z) := by
            rcases hNX with ⟨h, -⟩ | ⟨h, -⟩
            · exact ⟨1, h⟩
            · exact ⟨0, h⟩
          refine G_if_eq (K := mX5_readItem) (tgt := 188) dX5_readItem_177 (by decide) (fun c177 => ?_) (fun c177 => ?_)
          · skip
            obtain ⟨hno, rfl⟩ : (r4.1 = true → isW (σ 42) L r4.2.1 11 = false) ∧ M5 = M4 := by
              rcases hNX with ⟨h, -⟩ | ⟨-, h1, h2⟩
              · rw [Option.some.inj h |> Value.int.inj] at c177; exact absurd c177 (by decide)
              · exact ⟨h1, h2⟩
            refine G_goto (K := mX5_readItem) (tgt := 260) dX5_readItem_188 (by decide) ?_
            have hpi : pItem (σ 42) L n e R = r4 := by
              rw [pItem_some hks]
              unfold pRoom
              rw [if_pos (by omega), hr4f]
            exact G_vrm (K := mX5_readItem) dX5_readItem_260 rfl rfl (hQ _ (by
              rw [hpi]
              exact hX4.le (by omega)))
          · skip
            obtain ⟨hr4, hw4, hX5, h305⟩ : r4.1 = true ∧ isW (σ 42) L r4.2.1 11 = true ∧ XS σ L (it + 1) (B + 1 + 4) (true, tE (σ 42) L r4.2.1, r4.2.2.1, r4.2.2.2) M5 ∧ M5 0 30 = M4 0 30 := by
              rcases hNX with ⟨-, h⟩ | ⟨h, -⟩
              · exact h
              · exact absurd (Option.some.inj h |> Value.int.inj) c177
            refine G_aload_n (K := mX5_readItem) (i := 0) dX5_readItem_180 rfl rfl ?_
            refine G_bipush (K := mX5_readItem) (v := 15) dX5_readItem_181 (by decide) ?_
            refine G_iload_n (K := mX5_readItem) (i := 2) dX5_readItem_183 rfl rfl ?_
            refine G_iconst (K := mX5_readItem) (v := 1) dX5_readItem_184 (by decide) ?_
            refine G_call0 (K := mX5_readItem) (as := [.int (nI (15)), .int (nI n), .int (1)]) (r := 0) (Q' := fun u Mz => u = none ∧ XS σ L (it + 1) ((B + 1 + 4) + 1) (rowF ((true, tE (σ 42) L r4.2.1, r4.2.2.1, r4.2.2.2)) (15, nI n, 1)) Mz ∧ Mz 0 30 = (M5) 0 30) (rf_row (M := M5) (w := 15) (a := nI n) (b := 1) hL hH hX5 (by omega) (fun Mz q1 q2 => ⟨rfl, q1, q2⟩)) vX5_row rfl lX5_312 ⟨_, _, _, rfl, rfl, rfl⟩ (by decide) (Nat.le_of_ble_eq_true rfl) dX5_readItem_185 rfl ?_
            rintro u M6 ⟨rfl, hXM6, h30M6⟩
            refine G_goto (K := mX5_readItem) (tgt := 260) dX5_readItem_188 (by decide) ?_
            have hpi : pItem (σ 42) L n e R = r4 := by
              rw [pItem_some hks]
              unfold pRoom
              rw [if_pos (by omega), hr4f]
            exact G_vrm (K := mX5_readItem) dX5_readItem_260 rfl rfl (hQ _ (by
              rw [hr4f] at hr4
              exact absurd (show false = true from hr4) (by decide)))
        · skip
          have hp4 : p < 4 := by
            have h : ¬ 4 ≤ p := fun z => c67 ((le_nn (i := p) (n := 4) (by omega) (by omega)).mpr z)
            omega
          refine G_iconst (K := mX5_readItem) (v := 1) dX5_readItem_70 (by decide) ?_
          refine G_iload_n (K := mX5_readItem) (i := 3) dX5_readItem_71 rfl rfl ?_
          refine G_iadd (K := mX5_readItem) dX5_readItem_72 ?_
          rw [show (1 : Int32) + nI p = nI (1 + p) from nI_add 1 p]
          refine G_istore (K := mX5_readItem) dX5_readItem_73 (by decide) ?_
          refine G_aload_n (K := mX5_readItem) (i := 0) dX5_readItem_75 rfl rfl ?_
          refine G_aload_n (K := mX5_readItem) (i := 0) dX5_readItem_76 rfl rfl ?_
          refine G_getr (K := mX5_readItem) fX5_74 dX5_readItem_77 rfl rfl ?_
          refine G_iload_n (K := mX5_readItem) (i := 3) dX5_readItem_80 rfl rfl ?_
          refine G_aald (K := mX5_readItem) (r := 1100 + (7 + p)) p dX5_readItem_81 rfl (fun _ => ⟨_, rfl⟩) rfl (parts_at (by omega)) (by decide) ?_
          refine G_call0 (K := mX5_readItem) (as := [.ref (1100 + (7 + p))]) (r := 0) (Q' := fun u Mz => (u = some (.int 1) ∧ (r4).1 = true ∧ isW (σ 42) L (r4).2.1 (7 + p) = true ∧ XS σ L (it + 1) (B + 1 + p) (true, tE (σ 42) L (r4).2.1, (r4).2.2.1, (r4).2.2.2) Mz ∧ Mz 0 30 = M4 0 30) ∨ (u = some (.int 0) ∧ ((r4).1 = true → isW (σ 42) L (r4).2.1 (7 + p) = false) ∧ Mz = M4)) (rf_isNext (M := M4) (i := 7 + p) hL hH hX4 (by omega) (fun Mz q1 q2 q3 q4 => Or.inl ⟨rfl, q1, q2, q3, q4⟩) (fun q1 => Or.inr ⟨rfl, q1, rfl⟩)) vX5_isNext rfl lX5_315 ⟨_, _, _, rfl, rfl, rfl⟩ (by decide) (Nat.le_of_ble_eq_true rfl) dX5_readItem_82 rfl ?_
          rintro u M5 hNX
          obtain ⟨z, rfl⟩ : ∃ z : Int32, u = some (.int z) := by
            rcases hNX with ⟨h, -⟩ | ⟨h, -⟩
            · exact ⟨1, h⟩
            · exact ⟨0, h⟩
          refine G_if_eq (K := mX5_readItem) (tgt := 164) dX5_readItem_85 (by decide) (fun c85 => ?_) (fun c85 => ?_)
          · skip
            refine G_iincN (K := mX5_readItem) dX5_readItem_164 (by decide) rfl ?_
            refine G_goto (K := mX5_readItem) (tgt := 61) dX5_readItem_167 (by decide) ?_
            obtain ⟨hno, rfl⟩ : (r4.1 = true → isW (σ 42) L r4.2.1 (7 + p) = false) ∧ M5 = M4 := by
              rcases hNX with ⟨h, -⟩ | ⟨-, h1, h2⟩
              · rw [Option.some.inj h |> Value.int.inj] at c85; exact absurd c85 (by decide)
              · exact ⟨h1, h2⟩
            refine ih (p + 1) (by omega) (by omega) M5 r4 _ _ (hX4.le (by omega)) hn4 ?_
            rw [← hfin]
            unfold finP
            rcases Bool.eq_false_or_eq_true r4.1 with hr | hr
            · rw [if_pos hr, if_pos hr]
              have h := pP_no (T := σ 42) (L := L) (own := n) (p := 1 + p) (e := r4.2.1) (R := r4.2.2.2) (by omega) (by omega) (by rw [show 6 + (1 + p) = 7 + p by omega, hno hr]; decide)
              rw [show 5 - (1 + p) = 4 - p by omega, show 5 - (1 + p + 1) = 4 - (p + 1) by omega] at h
              exact h.symm
            · rw [if_neg (by rw [hr]; decide), if_neg (by rw [hr]; decide)]
          · skip
            obtain ⟨hr4, hw4, hX5, h305⟩ : r4.1 = true ∧ isW (σ 42) L r4.2.1 (7 + p) = true ∧ XS σ L (it + 1) (B + 1 + p) (true, tE (σ 42) L r4.2.1, r4.2.2.1, r4.2.2.2) M5 ∧ M5 0 30 = M4 0 30 := by
              rcases hNX with ⟨-, h⟩ | ⟨h, -⟩
              · exact h
              · exact absurd (Option.some.inj h |> Value.int.inj) c85
            have hok5 := (hX5.ok rfl).2
            have hs2 : M5 0 22 = 2 ↔ tS (σ 42) L (tE (σ 42) L r4.2.1) = 2 := hok5.2.2.1.s2 (by decide) (by decide)
            refine G_aload_n (K := mX5_readItem) (i := 0) dX5_readItem_88 rfl rfl ?_
            refine G_geti (K := mX5_readItem) fX5_272 dX5_readItem_89 rfl rfl ?_
            rw [hok5.2.2.1.2.2.2]
            refine G_istore (K := mX5_readItem) dX5_readItem_92 (by decide) ?_
            refine G_aload_n (K := mX5_readItem) (i := 0) dX5_readItem_94 rfl rfl ?_
            refine G_aload_n (K := mX5_readItem) (i := 0) dX5_readItem_95 rfl rfl ?_
            refine G_geti (K := mX5_readItem) fX5_285 dX5_readItem_96 rfl rfl ?_
            refine G_if_ne (K := mX5_readItem) (tgt := 148) dX5_readItem_99 (by decide) (fun c99 => ?_) (fun c99 => ?_)
            · skip
              exact absurd hok5.2.1 c99
            · skip
              refine G_aload_n (K := mX5_readItem) (i := 0) dX5_readItem_102 rfl rfl ?_
              refine G_geti (K := mX5_readItem) fX5_275 dX5_readItem_103 rfl rfl ?_
              refine G_iconst (K := mX5_readItem) (v := 2) dX5_readItem_106 (by decide) ?_
              refine G_icmp_ne (K := mX5_readItem) (tgt := 148) dX5_readItem_107 (by decide) (fun c107 => ?_) (fun c107 => ?_)
              · skip
                refine G_iconst (K := mX5_readItem) (v := 0) dX5_readItem_148 (by decide) ?_
                refine G_call0 (K := mX5_readItem) (as := [.int 0]) (r := 0) (Q' := fun u Mz => u = none ∧ XS σ L (it + 1) (B + 1 + p) (mustF (σ 42) L (true, tE (σ 42) L r4.2.1, r4.2.2.1, r4.2.2.2) (decide (¬ 0 = 0))) Mz ∧ Mz 0 30 = M5 0 30) (rf_must (M := M5) (z := 0) hL hH hX5 (fun h => absurd rfl h) (fun Mz q1 q2 => ⟨rfl, q1, q2⟩)) vX5_must rfl lX5_292 ⟨_, _, _, rfl, rfl, rfl⟩ (by decide) (Nat.le_of_ble_eq_true rfl) dX5_readItem_149 rfl ?_
                rintro u M6 ⟨rfl, hXM6, h30M6⟩
                rw [show mustF (σ 42) L (true, tE (σ 42) L r4.2.1, r4.2.2.1, r4.2.2.2) (decide (¬ (0 : Int32) = 0)) = (false, tE (σ 42) L r4.2.1, r4.2.2.1, r4.2.2.2) from (if_pos rfl).trans (if_neg (by decide))] at hXM6
                refine G_aload_n (K := mX5_readItem) (i := 0) dX5_readItem_152 rfl rfl ?_
                refine G_bipush (K := mX5_readItem) (v := 10) dX5_readItem_153 (by decide) ?_
                refine G_iload (K := mX5_readItem) dX5_readItem_155 rfl ?_
                refine G_iadd (K := mX5_readItem) dX5_readItem_157 ?_
                rw [show (10 : Int32) + nI (1 + p) = nI (10 + (1 + p)) from nI_add 10 (1 + p)]
                refine G_iload_n (K := mX5_readItem) (i := 2) dX5_readItem_158 rfl rfl ?_
                refine G_iload (K := mX5_readItem) dX5_readItem_159 rfl ?_
                refine G_call0 (K := mX5_readItem) (as := [.int (nI (10 + (1 + p))), .int (nI n), .int (tV (σ 42) L (tE (σ 42) L r4.2.1))]) (r := 0) (Q' := fun u Mz => u = none ∧ XS σ L (it + 1) (B + 1 + p + 1) (rowF ((false, tE (σ 42) L r4.2.1, r4.2.2.1, r4.2.2.2)) (10 + (1 + p), nI n, tV (σ 42) L (tE (σ 42) L r4.2.1))) Mz ∧ Mz 0 30 = (M6) 0 30) (rf_row (M := M6) (w := 10 + (1 + p)) (a := nI n) (b := tV (σ 42) L (tE (σ 42) L r4.2.1)) hL hH hXM6 (by omega) (fun Mz q1 q2 => ⟨rfl, q1, q2⟩)) vX5_row rfl lX5_312 ⟨_, _, _, rfl, rfl, rfl⟩ (by decide) (Nat.le_of_ble_eq_true rfl) dX5_readItem_161 rfl ?_
                rintro u M7 ⟨rfl, hXM7, h30M7⟩
                refine G_iincN (K := mX5_readItem) dX5_readItem_164 (by decide) rfl ?_
                refine G_goto (K := mX5_readItem) (tgt := 61) dX5_readItem_167 (by decide) ?_
                have hpy := pP_yes (T := σ 42) (L := L) (own := n) (p := 1 + p) (e := r4.2.1) (R := r4.2.2.2) (by omega) (by omega) (by rw [show 6 + (1 + p) = 7 + p by omega]; exact hw4)
                rw [show 5 - (1 + p) = 4 - p by omega, show 5 - (1 + p + 1) = 4 - (p + 1) by omega] at hpy
                have hfin2 : pParts (σ 42) L n (4 - p) r4.2.1 r4.2.2.2 = (false, e, n, R) := by rw [← hfin]; exact (if_pos hr4).symm
                have hbad : ¬ (tS (σ 42) L (tE (σ 42) L r4.2.1) = 2 ∧ fitB (n + 1) (nI n) (nI (1 + p)) (tV (σ 42) L (tE (σ 42) L r4.2.1)) = true) := fun z => c107 (hs2.mpr z.1)
                rw [if_neg hbad, hfin2] at hpy
                refine ih (p + 1) (by omega) (by omega) M7 _ _ _ hXM7 (fun h => absurd (show false = true from h) (by decide)) ?_
                rw [hpy, ← hn4 hr4]
                rfl
              · skip
                refine G_iload (K := mX5_readItem) dX5_readItem_110 rfl ?_
                refine G_aload_n (K := mX5_readItem) (i := 0) dX5_readItem_112 rfl rfl ?_
                refine G_getr (K := mX5_readItem) fX5_22 dX5_readItem_113 rfl rfl ?_
                refine G_iload (K := mX5_readItem) dX5_readItem_116 rfl ?_
                refine G_ld (K := mX5_readItem) (1 + p) dX5_readItem_118 rfl rfl (by omega) (by decide) ?_
                rw [(hok5.1.2.2.2.2.2.2.2 (1 + p) (by omega)).1]
                refine G_aload_n (K := mX5_readItem) (i := 0) dX5_readItem_119 rfl rfl ?_
                refine G_getr (K := mX5_readItem) fX5_25 dX5_readItem_120 rfl rfl ?_
                refine G_iload (K := mX5_readItem) dX5_readItem_123 rfl ?_
                refine G_ld (K := mX5_readItem) (1 + p) dX5_readItem_125 rfl rfl (by omega) (by decide) ?_
                rw [(hok5.1.2.2.2.2.2.2.2 (1 + p) (by omega)).2]
                refine G_sv (K := mX5_readItem) (c_X5_within (v := (tV (σ 42) L (tE (σ 42) L r4.2.1))) (a := (tLeast.getD (1 + p) 0)) (b := (tMost.getD (1 + p) 0)) ⟨rfl, rfl⟩) sX5_within rfl lX5_97 dX5_readItem_126 (by decide) rfl (Nat.le_of_ble_eq_true rfl) ?_
                refine G_if_eq (K := mX5_readItem) (tgt := 148) dX5_readItem_129 (by decide) (fun c129 => ?_) (fun c129 => ?_)
                · skip
                  refine G_iconst (K := mX5_readItem) (v := 0) dX5_readItem_148 (by decide) ?_
                  refine G_call0 (K := mX5_readItem) (as := [.int 0]) (r := 0) (Q' := fun u Mz => u = none ∧ XS σ L (it + 1) (B + 1 + p) (mustF (σ 42) L (true, tE (σ 42) L r4.2.1, r4.2.2.1, r4.2.2.2) (decide (¬ 0 = 0))) Mz ∧ Mz 0 30 = M5 0 30) (rf_must (M := M5) (z := 0) hL hH hX5 (fun h => absurd rfl h) (fun Mz q1 q2 => ⟨rfl, q1, q2⟩)) vX5_must rfl lX5_292 ⟨_, _, _, rfl, rfl, rfl⟩ (by decide) (Nat.le_of_ble_eq_true rfl) dX5_readItem_149 rfl ?_
                  rintro u M6 ⟨rfl, hXM6, h30M6⟩
                  rw [show mustF (σ 42) L (true, tE (σ 42) L r4.2.1, r4.2.2.1, r4.2.2.2) (decide (¬ (0 : Int32) = 0)) = (false, tE (σ 42) L r4.2.1, r4.2.2.1, r4.2.2.2) from (if_pos rfl).trans (if_neg (by decide))] at hXM6
                  refine G_aload_n (K := mX5_readItem) (i := 0) dX5_readItem_152 rfl rfl ?_
                  refine G_bipush (K := mX5_readItem) (v := 10) dX5_readItem_153 (by decide) ?_
                  refine G_iload (K := mX5_readItem) dX5_readItem_155 rfl ?_
                  refine G_iadd (K := mX5_readItem) dX5_readItem_157 ?_
                  rw [show (10 : Int32) + nI (1 + p) = nI (10 + (1 + p)) from nI_add 10 (1 + p)]
                  refine G_iload_n (K := mX5_readItem) (i := 2) dX5_readItem_158 rfl rfl ?_
                  refine G_iload (K := mX5_readItem) dX5_readItem_159 rfl ?_
                  refine G_call0 (K := mX5_readItem) (as := [.int (nI (10 + (1 + p))), .int (nI n), .int (tV (σ 42) L (tE (σ 42) L r4.2.1))]) (r := 0) (Q' := fun u Mz => u = none ∧ XS σ L (it + 1) (B + 1 + p + 1) (rowF ((false, tE (σ 42) L r4.2.1, r4.2.2.1, r4.2.2.2)) (10 + (1 + p), nI n, tV (σ 42) L (tE (σ 42) L r4.2.1))) Mz ∧ Mz 0 30 = (M6) 0 30) (rf_row (M := M6) (w := 10 + (1 + p)) (a := nI n) (b := tV (σ 42) L (tE (σ 42) L r4.2.1)) hL hH hXM6 (by omega) (fun Mz q1 q2 => ⟨rfl, q1, q2⟩)) vX5_row rfl lX5_312 ⟨_, _, _, rfl, rfl, rfl⟩ (by decide) (Nat.le_of_ble_eq_true rfl) dX5_readItem_161 rfl ?_
                  rintro u M7 ⟨rfl, hXM7, h30M7⟩
                  refine G_iincN (K := mX5_readItem) dX5_readItem_164 (by decide) rfl ?_
                  refine G_goto (K := mX5_readItem) (tgt := 61) dX5_readItem_167 (by decide) ?_
                  have hpy := pP_yes (T := σ 42) (L := L) (own := n) (p := 1 + p) (e := r4.2.1) (R := r4.2.2.2) (by omega) (by omega) (by rw [show 6 + (1 + p) = 7 + p by omega]; exact hw4)
                  rw [show 5 - (1 + p) = 4 - p by omega, show 5 - (1 + p + 1) = 4 - (p + 1) by omega] at hpy
                  have hfin2 : pParts (σ 42) L n (4 - p) r4.2.1 r4.2.2.2 = (false, e, n, R) := by rw [← hfin]; exact (if_pos hr4).symm
                  have hbad : ¬ (tS (σ 42) L (tE (σ 42) L r4.2.1) = 2 ∧ fitB (n + 1) (nI n) (nI (1 + p)) (tV (σ 42) L (tE (σ 42) L r4.2.1)) = true) := fun z => by
                    have z2 := z.2
                    unfold fitB at z2
                    rw [cut_nI (by omega), bI_0 c129, Bool.false_and, Bool.and_false, Bool.and_false] at z2
                    exact absurd z2 (by decide)
                  rw [if_neg hbad, hfin2] at hpy
                  refine ih (p + 1) (by omega) (by omega) M7 _ _ _ hXM7 (fun h => absurd (show false = true from h) (by decide)) ?_
                  rw [hpy, ← hn4 hr4]
                  rfl
                · skip
                  refine G_iload (K := mX5_readItem) dX5_readItem_132 rfl ?_
                  refine G_iconst (K := mX5_readItem) (v := 4) dX5_readItem_134 (by decide) ?_
                  refine G_icmp_ne (K := mX5_readItem) (tgt := 144) dX5_readItem_135 (by decide) (fun c135 => ?_) (fun c135 => ?_)
                  · skip
                    refine G_iconst (K := mX5_readItem) (v := 1) dX5_readItem_144 (by decide) ?_
                    refine G_goto (K := mX5_readItem) (tgt := 149) dX5_readItem_145 (by decide) ?_
                    refine G_call0 (K := mX5_readItem) (as := [.int 1]) (r := 0) (Q' := fun u Mz => u = none ∧ XS σ L (it + 1) (B + 1 + p) (mustF (σ 42) L (true, tE (σ 42) L r4.2.1, r4.2.2.1, r4.2.2.2) (decide (¬ 1 = 0))) Mz ∧ Mz 0 30 = M5 0 30) (rf_must (M := M5) (z := 1) hL hH hX5 (fun _ _ => by rw [show tS (σ 42) L (tE (σ 42) L r4.2.1) = 2 from hs2.mp c107]; decide) (fun Mz q1 q2 => ⟨rfl, q1, q2⟩)) vX5_must rfl lX5_292 ⟨_, _, _, rfl, rfl, rfl⟩ (by decide) (Nat.le_of_ble_eq_true rfl) dX5_readItem_149 rfl ?_
                    rintro u M6 ⟨rfl, hXM6, h30M6⟩
                    rw [show mustF (σ 42) L (true, tE (σ 42) L r4.2.1, r4.2.2.1, r4.2.2.2) (decide (¬ (1 : Int32) = 0)) = (true, tE (σ 42) L (tE (σ 42) L r4.2.1), r4.2.2.1, r4.2.2.2) from (if_pos rfl).trans (if_pos rfl)] at hXM6
                    refine G_aload_n (K := mX5_readItem) (i := 0) dX5_readItem_152 rfl rfl ?_
                    refine G_bipush (K := mX5_readItem) (v := 10) dX5_readItem_153 (by decide) ?_
                    refine G_iload (K := mX5_readItem) dX5_readItem_155 rfl ?_
                    refine G_iadd (K := mX5_readItem) dX5_readItem_157 ?_
                    rw [show (10 : Int32) + nI (1 + p) = nI (10 + (1 + p)) from nI_add 10 (1 + p)]
                    refine G_iload_n (K := mX5_readItem) (i := 2) dX5_readItem_158 rfl rfl ?_
                    refine G_iload (K := mX5_readItem) dX5_readItem_159 rfl ?_
                    refine G_call0 (K := mX5_readItem) (as := [.int (nI (10 + (1 + p))), .int (nI n), .int (tV (σ 42) L (tE (σ 42) L r4.2.1))]) (r := 0) (Q' := fun u Mz => u = none ∧ XS σ L (it + 1) (B + 1 + p + 1) (rowF ((true, tE (σ 42) L (tE (σ 42) L r4.2.1), r4.2.2.1, r4.2.2.2)) (10 + (1 + p), nI n, tV (σ 42) L (tE (σ 42) L r4.2.1))) Mz ∧ Mz 0 30 = (M6) 0 30) (rf_row (M := M6) (w := 10 + (1 + p)) (a := nI n) (b := tV (σ 42) L (tE (σ 42) L r4.2.1)) hL hH hXM6 (by omega) (fun Mz q1 q2 => ⟨rfl, q1, q2⟩)) vX5_row rfl lX5_312 ⟨_, _, _, rfl, rfl, rfl⟩ (by decide) (Nat.le_of_ble_eq_true rfl) dX5_readItem_161 rfl ?_
                    rintro u M7 ⟨rfl, hXM7, h30M7⟩
                    refine G_iincN (K := mX5_readItem) dX5_readItem_164 (by decide) rfl ?_
                    refine G_goto (K := mX5_readItem) (tgt := 61) dX5_readItem_167 (by decide) ?_
                    have hpy := pP_yes (T := σ 42) (L := L) (own := n) (p := 1 + p) (e := r4.2.1) (R := r4.2.2.2) (by omega) (by omega) (by rw [show 6 + (1 + p) = 7 + p by omega]; exact hw4)
                    rw [show 5 - (1 + p) = 4 - p by omega, show 5 - (1 + p + 1) = 4 - (p + 1) by omega] at hpy
                    have hfin2 : pParts (σ 42) L n (4 - p) r4.2.1 r4.2.2.2 = (false, e, n, R) := by rw [← hfin]; exact (if_pos hr4).symm
                    have hgood : tS (σ 42) L (tE (σ 42) L r4.2.1) = 2 ∧ fitB (n + 1) (nI n) (nI (1 + p)) (tV (σ 42) L (tE (σ 42) L r4.2.1)) = true := by
                      refine ⟨hs2.mp c107, ?_⟩
                      unfold fitB
                      rw [roomB_nI (by omega) (by omega), roomB_nI (n := 9) (by decide) (by omega), cut_nI (by omega), bI_1 c129, decide_eq_false (show ¬ (nI (1 + p) = 4 ∧ tV (σ 42) L (tE (σ 42) L r4.2.1) = nI n) from fun z => c135 z.1)]
                      rfl
                    rw [if_pos hgood, hfin2] at hpy
                    refine ih (p + 1) (by omega) (by omega) M7 _ _ _ hXM7 (fun _ => hn4 hr4) ?_
                    rw [hpy]
                    rfl
                  · skip
                    refine G_iload (K := mX5_readItem) dX5_readItem_138 rfl ?_
                    refine G_iload_n (K := mX5_readItem) (i := 2) dX5_readItem_140 rfl rfl ?_
                    refine G_icmp_eq (K := mX5_readItem) (tgt := 148) dX5_readItem_141 (by decide) (fun c141 => ?_) (fun c141 => ?_)
                    · skip
                      refine G_iconst (K := mX5_readItem) (v := 0) dX5_readItem_148 (by decide) ?_
                      refine G_call0 (K := mX5_readItem) (as := [.int 0]) (r := 0) (Q' := fun u Mz => u = none ∧ XS σ L (it + 1) (B + 1 + p) (mustF (σ 42) L (true, tE (σ 42) L r4.2.1, r4.2.2.1, r4.2.2.2) (decide (¬ 0 = 0))) Mz ∧ Mz 0 30 = M5 0 30) (rf_must (M := M5) (z := 0) hL hH hX5 (fun h => absurd rfl h) (fun Mz q1 q2 => ⟨rfl, q1, q2⟩)) vX5_must rfl lX5_292 ⟨_, _, _, rfl, rfl, rfl⟩ (by decide) (Nat.le_of_ble_eq_true rfl) dX5_readItem_149 rfl ?_
                      rintro u M6 ⟨rfl, hXM6, h30M6⟩
                      rw [show mustF (σ 42) L (true, tE (σ 42) L r4.2.1, r4.2.2.1, r4.2.2.2) (decide (¬ (0 : Int32) = 0)) = (false, tE (σ 42) L r4.2.1, r4.2.2.1, r4.2.2.2) from (if_pos rfl).trans (if_neg (by decide))] at hXM6
                      refine G_aload_n (K := mX5_readItem) (i := 0) dX5_readItem_152 rfl rfl ?_
                      refine G_bipush (K := mX5_readItem) (v := 10) dX5_readItem_153 (by decide) ?_
                      refine G_iload (K := mX5_readItem) dX5_readItem_155 rfl ?_
                      refine G_iadd (K := mX5_readItem) dX5_readItem_157 ?_
                      rw [show (10 : Int32) + nI (1 + p) = nI (10 + (1 + p)) from nI_add 10 (1 + p)]
                      refine G_iload_n (K := mX5_readItem) (i := 2) dX5_readItem_158 rfl rfl ?_
                      refine G_iload (K := mX5_readItem) dX5_readItem_159 rfl ?_
                      refine G_call0 (K := mX5_readItem) (as := [.int (nI (10 + (1 + p))), .int (nI n), .int (tV (σ 42) L (tE (σ 42) L r4.2.1))]) (r := 0) (Q' := fun u Mz => u = none ∧ XS σ L (it + 1) (B + 1 + p + 1) (rowF ((false, tE (σ 42) L r4.2.1, r4.2.2.1, r4.2.2.2)) (10 + (1 + p), nI n, tV (σ 42) L (tE (σ 42) L r4.2.1))) Mz ∧ Mz 0 30 = (M6) 0 30) (rf_row (M := M6) (w := 10 + (1 + p)) (a := nI n) (b := tV (σ 42) L (tE (σ 42) L r4.2.1)) hL hH hXM6 (by omega) (fun Mz q1 q2 => ⟨rfl, q1, q2⟩)) vX5_row rfl lX5_312 ⟨_, _, _, rfl, rfl, rfl⟩ (by decide) (Nat.le_of_ble_eq_true rfl) dX5_readItem_161 rfl ?_
                      rintro u M7 ⟨rfl, hXM7, h30M7⟩
                      refine G_iincN (K := mX5_readItem) dX5_readItem_164 (by decide) rfl ?_
                      refine G_goto (K := mX5_readItem) (tgt := 61) dX5_readItem_167 (by decide) ?_
                      have hpy := pP_yes (T := σ 42) (L := L) (own := n) (p := 1 + p) (e := r4.2.1) (R := r4.2.2.2) (by omega) (by omega) (by rw [show 6 + (1 + p) = 7 + p by omega]; exact hw4)
                      rw [show 5 - (1 + p) = 4 - p by omega, show 5 - (1 + p + 1) = 4 - (p + 1) by omega] at hpy
                      have hfin2 : pParts (σ 42) L n (4 - p) r4.2.1 r4.2.2.2 = (false, e, n, R) := by rw [← hfin]; exact (if_pos hr4).symm
                      have hbad : ¬ (tS (σ 42) L (tE (σ 42) L r4.2.1) = 2 ∧ fitB (n + 1) (nI n) (nI (1 + p)) (tV (σ 42) L (tE (σ 42) L r4.2.1)) = true) := fun z => by
                        have z2 := z.2
                        unfold fitB at z2
                        rw [decide_eq_true (show nI (1 + p) = 4 ∧ tV (σ 42) L (tE (σ 42) L r4.2.1) = nI n from ⟨c135, c141⟩), Bool.not_true, Bool.and_false, Bool.and_false, Bool.and_false] at z2
                        exact absurd z2 (by decide)
                      rw [if_neg hbad, hfin2] at hpy
                      refine ih (p + 1) (by omega) (by omega) M7 _ _ _ hXM7 (fun h => absurd (show false = true from h) (by decide)) ?_
                      rw [hpy, ← hn4 hr4]
                      rfl
                    · skip
                      refine G_iconst (K := mX5_readItem) (v := 1) dX5_readItem_144 (by decide) ?_
                      refine G_goto (K := mX5_readItem) (tgt := 149) dX5_readItem_145 (by decide) ?_
                      refine G_call0 (K := mX5_readItem) (as := [.int 1]) (r := 0) (Q' := fun u Mz => u = none ∧ XS σ L (it + 1) (B + 1 + p) (mustF (σ 42) L (true, tE (σ 42) L r4.2.1, r4.2.2.1, r4.2.2.2) (decide (¬ 1 = 0))) Mz ∧ Mz 0 30 = M5 0 30) (rf_must (M := M5) (z := 1) hL hH hX5 (fun _ _ => by rw [show tS (σ 42) L (tE (σ 42) L r4.2.1) = 2 from hs2.mp c107]; decide) (fun Mz q1 q2 => ⟨rfl, q1, q2⟩)) vX5_must rfl lX5_292 ⟨_, _, _, rfl, rfl, rfl⟩ (by decide) (Nat.le_of_ble_eq_true rfl) dX5_readItem_149 rfl ?_
                      rintro u M6 ⟨rfl, hXM6, h30M6⟩
                      rw [show mustF (σ 42) L (true, tE (σ 42) L r4.2.1, r4.2.2.1, r4.2.2.2) (decide (¬ (1 : Int32) = 0)) = (true, tE (σ 42) L (tE (σ 42) L r4.2.1), r4.2.2.1, r4.2.2.2) from (if_pos rfl).trans (if_pos rfl)] at hXM6
                      refine G_aload_n (K := mX5_readItem) (i := 0) dX5_readItem_152 rfl rfl ?_
                      refine G_bipush (K := mX5_readItem) (v := 10) dX5_readItem_153 (by decide) ?_
                      refine G_iload (K := mX5_readItem) dX5_readItem_155 rfl ?_
                      refine G_iadd (K := mX5_readItem) dX5_readItem_157 ?_
                      rw [show (10 : Int32) + nI (1 + p) = nI (10 + (1 + p)) from nI_add 10 (1 + p)]
                      refine G_iload_n (K := mX5_readItem) (i := 2) dX5_readItem_158 rfl rfl ?_
                      refine G_iload (K := mX5_readItem) dX5_readItem_159 rfl ?_
                      refine G_call0 (K := mX5_readItem) (as := [.int (nI (10 + (1 + p))), .int (nI n), .int (tV (σ 42) L (tE (σ 42) L r4.2.1))]) (r := 0) (Q' := fun u Mz => u = none ∧ XS σ L (it + 1) (B + 1 + p + 1) (rowF ((true, tE (σ 42) L (tE (σ 42) L r4.2.1), r4.2.2.1, r4.2.2.2)) (10 + (1 + p), nI n, tV (σ 42) L (tE (σ 42) L r4.2.1))) Mz ∧ Mz 0 30 = (M6) 0 30) (rf_row (M := M6) (w := 10 + (1 + p)) (a := nI n) (b := tV (σ 42) L (tE (σ 42) L r4.2.1)) hL hH hXM6 (by omega) (fun Mz q1 q2 => ⟨rfl, q1, q2⟩)) vX5_row rfl lX5_312 ⟨_, _, _, rfl, rfl, rfl⟩ (by decide) (Nat.le_of_ble_eq_true rfl) dX5_readItem_161 rfl ?_
                      rintro u M7 ⟨rfl, hXM7, h30M7⟩
                      refine G_iincN (K := mX5_readItem) dX5_readItem_164 (by decide) rfl ?_
                      refine G_goto (K := mX5_readItem) (tgt := 61) dX5_readItem_167 (by decide) ?_
                      have hpy := pP_yes (T := σ 42) (L := L) (own := n) (p := 1 + p) (e := r4.2.1) (R := r4.2.2.2) (by omega) (by omega) (by rw [show 6 + (1 + p) = 7 + p by omega]; exact hw4)
                      rw [show 5 - (1 + p) = 4 - p by omega, show 5 - (1 + p + 1) = 4 - (p + 1) by omega] at hpy
                      have hfin2 : pParts (σ 42) L n (4 - p) r4.2.1 r4.2.2.2 = (false, e, n, R) := by rw [← hfin]; exact (if_pos hr4).symm
                      have hgood : tS (σ 42) L (tE (σ 42) L r4.2.1) = 2 ∧ fitB (n + 1) (nI n) (nI (1 + p)) (tV (σ 42) L (tE (σ 42) L r4.2.1)) = true := by
                        refine ⟨hs2.mp c107, ?_⟩
                        unfold fitB
                        rw [roomB_nI (by omega) (by omega), roomB_nI (n := 9) (by decide) (by omega), cut_nI (by omega), bI_1 c129, decide_eq_false (show ¬ (nI (1 + p) = 4 ∧ tV (σ 42) L (tE (σ 42) L r4.2.1) = nI n) from fun z => c141 z.2)]
                        rfl
                      rw [if_pos hgood, hfin2] at hpy
                      refine ih (p + 1) (by omega) (by omega) M7 _ _ _ hXM7 (fun _ => hn4 hr4) ?_
                      rw [hpy]
                      rfl
      exact loop61 0 (by omega) M3 _ _ _ hXM3 (fun h => absurd (show false = true from h) (by decide)) rfl
    · skip
      rw [show (8 : Int32) = nI 8 from rfl, le_nn (by omega) (by omega)] at c26
      refine G_iconst (K := mX5_readItem) (v := 1) dX5_readItem_29 (by decide) ?_
      refine G_goto (K := mX5_readItem) (tgt := 34) dX5_readItem_30 (by decide) ?_
      refine G_call0 (K := mX5_readItem) (as := [.int 1]) (r := 0) (Q' := fun u Mz => u = none ∧ XS σ L (it + 1) (B) (mustF (σ 42) L (true, e, n, R) (decide (¬ 1 = 0))) Mz ∧ Mz 0 30 = M1 0 30) (rf_must (M := M1) (z := 1) hL hH hX1 (fun _ _ => by rw [show tS (σ 42) L e = 1 from isW_s1 hwk]; decide) (fun Mz q1 q2 => ⟨rfl, q1, q2⟩)) vX5_must rfl lX5_292 ⟨_, _, _, rfl, rfl, rfl⟩ (by decide) (Nat.le_of_ble_eq_true rfl) dX5_readItem_34 rfl ?_
      rintro u M2 ⟨rfl, hXM2, h30M2⟩
      rw [show mustF (σ 42) L (true, e, n, R) (decide (¬ (1 : Int32) = 0)) = (true, tE (σ 42) L e, n, R) from (if_pos rfl).trans (if_pos rfl)] at hXM2
      refine G_aload_n (K := mX5_readItem) (i := 0) dX5_readItem_37 rfl rfl ?_
      refine G_geti (K := mX5_readItem) fX5_309 dX5_readItem_38 rfl rfl ?_
      rw [h30M2, hn30]
      refine G_istore_n (K := mX5_readItem) (i := 2) dX5_readItem_41 rfl (by decide) ?_
      refine G_aload_n (K := mX5_readItem) (i := 0) dX5_readItem_42 rfl rfl ?_
      refine G_dup (K := mX5_readItem) dX5_readItem_43 rfl ?_
      refine G_geti (K := mX5_readItem) fX5_309 dX5_readItem_44 rfl rfl ?_
      refine G_iconst (K := mX5_readItem) (v := 1) dX5_readItem_47 (by decide) ?_
      refine G_iadd (K := mX5_readItem) dX5_readItem_48 ?_
      rw [h30M2, hn30, nI_1]
      refine G_puti (K := mX5_readItem) fX5_309 w5_30 dX5_readItem_49 rfl rfl ?_
      refine G_aload_n (K := mX5_readItem) (i := 0) dX5_readItem_52 rfl rfl ?_
      refine G_iload_n (K := mX5_readItem) (i := 1) dX5_readItem_53 rfl rfl ?_
      refine G_iconst (K := mX5_readItem) (v := 0) dX5_readItem_54 (by decide) ?_
      refine G_iconst (K := mX5_readItem) (v := 0) dX5_readItem_55 (by decide) ?_
      have hX3 := hXM2.bump (n2 := n + 1) (by omega)
      refine G_call0 (K := mX5_readItem) (as := [.int (nI (k)), .int (0), .int (0)]) (r := 0) (Q' := fun u Mz => u = none ∧ XS σ L (it + 1) (B + 1) (rowF ((true, tE (σ 42) L e, n + 1, R)) (k, 0, 0)) Mz ∧ Mz 0 30 = ((ups M2 0 30 (nI (n + 1)))) 0 30) (rf_row (M := (ups M2 0 30 (nI (n + 1)))) (w := k) (a := 0) (b := 0) hL hH hX3 (by omega) (fun Mz q1 q2 => ⟨rfl, q1, q2⟩)) vX5_row rfl lX5_312 ⟨_, _, _, rfl, rfl, rfl⟩ (by decide) (Nat.le_of_ble_eq_true rfl) dX5_readItem_56 rfl ?_
      rintro u M3 ⟨rfl, hXM3, h30M3⟩
      refine G_iconst (K := mX5_readItem) (v := 0) dX5_readItem_59 (by decide) ?_
      refine G_istore_n (K := mX5_readItem) (i := 3) dX5_readItem_60 rfl (by decide) ?_
      have loop61 : ∀ p, p ≤ 4 → ∀ (M4 : Mem) (r4 : PR) (x4 x5 : Option Value), XS σ L (it + 1) (B + 1 + p) r4 M4 → (r4.1 = true → r4.2.2.1 = n + 1) → finP (σ 42) L n r4 p = pParts (σ 42) L n 4 (tE (σ 42) L e) (R ++ [(k, 0, 0)]) → G mX5_readItem shR 6 Q 61 [some (.ref 0), some (.int (nI k)), some (.int (nI n)), some (.int (nI p)), x4, x5] [] M4 := by
        refine upto 4 (fun p hp ih => ?_)
        intro M4 r4 x4 x5 hX4 hn4 hfin
        refine G_iload_n (K := mX5_readItem) (i := 3) dX5_readItem_61 rfl rfl ?_
        refine G_aload_n (K := mX5_readItem) (i := 0) dX5_readItem_62 rfl rfl ?_
        refine G_getr (K := mX5_readItem) fX5_74 dX5_readItem_63 rfl rfl ?_
        refine G_alenR (K := mX5_readItem) dX5_readItem_66 rfl (fun _ => ⟨_, rfl⟩) ?_
        refine G_icmp_ge (K := mX5_readItem) (tgt := 170) dX5_readItem_67 (by decide) (fun c67 => ?_) (fun c67 => ?_)
        · skip
          have hp4 : p = 4 := by
            have h := (le_nn (i := p) (n := 4) (by omega) (by omega)).mp c67
            omega
          subst hp4
          have hr4f : r4 = pParts (σ 42) L n 4 (tE (σ 42) L e) (R ++ [(k, 0, 0)]) := by
            rw [← hfin]
            unfold finP
            rcases Bool.eq_false_or_eq_true r4.1 with hr | hr
            · rw [if_pos hr]
              show r4 = (true, r4.2.1, n + 1, r4.2.2.2)
              rw [← hn4 hr, ← hr]
            · rw [if_neg (by rw [hr]; decide)]
          refine G_aload_n (K := mX5_readItem) (i := 0) dX5_readItem_170 rfl rfl ?_
          refine G_ldcsw (K := mX5_readItem) (i := 11) (tx := "away") dX5_readItem_171 (by decide +kernel) ?_
          refine G_call0 (K := mX5_readItem) (as := [.ref (1100 + (11))]) (r := 0) (Q' := fun u Mz => (u = some (.int 1) ∧ (r4).1 = true ∧ isW (σ 42) L (r4).2.1 (11) = true ∧ XS σ L (it + 1) (B + 1 + 4) (true, tE (σ 42) L (r4).2.1, (r4).2.2.1, (r4).2.2.2) Mz ∧ Mz 0 30 = M4 0 30) ∨ (u = some (.int 0) ∧ ((r4).1 = true → isW (σ 42) L (r4).2.1 (11) = false) ∧ Mz = M4)) (rf_isNext (M := M4) (i := 11) hL hH hX4 (by omega) (fun Mz q1 q2 q3 q4 => Or.inl ⟨rfl, q1, q2, q3, q4⟩) (fun q1 => Or.inr ⟨rfl, q1, rfl⟩)) vX5_isNext rfl lX5_315 ⟨_, _, _, rfl, rfl, rfl⟩ (by decide) (Nat.le_of_ble_eq_true rfl) dX5_readItem_174 rfl ?_
          rintro u M5 hNX
          obtain ⟨z, rfl⟩ : ∃ z : Int32, u = some (.int z) := by
            rcases hNX with ⟨h, -⟩ | ⟨h, -⟩
            · exact ⟨1, h⟩
            · exact ⟨0, h⟩
          refine G_if_eq (K := mX5_readItem) (tgt := 188) dX5_readItem_177 (by decide) (fun c177 => ?_) (fun c177 => ?_)
          · skip
            obtain ⟨hno, rfl⟩ : (r4.1 = true → isW (σ 42) L r4.2.1 11 = false) ∧ M5 = M4 := by
              rcases hNX with ⟨h, -⟩ | ⟨-, h1, h2⟩
              · rw [Option.some.inj h |> Value.int.inj] at c177; exact absurd c177 (by decide)
              · exact ⟨h1, h2⟩
            refine G_goto (K := mX5_readItem) (tgt := 260) dX5_readItem_188 (by decide) ?_
            have hpi : pItem (σ 42) L n e R = pAway (σ 42) L n r4 := by
              rw [pItem_some hks]
              unfold pRoom
              rw [if_neg (by omega), hr4f]
            exact G_vrm (K := mX5_readItem) dX5_readItem_260 rfl rfl (hQ _ (by
              rw [hpi]
              have he : pAway (σ 42) L n r4 = r4 := by
                unfold pAway
                rcases Bool.eq_false_or_eq_true r4.1 with hr | hr
                · rw [if_pos hr, if_neg (by rw [hno hr]; decide)]
                · rw [if_neg (by rw [hr]; decide)]
              rw [he]
              exact hX4.le (by omega)))
          · skip
            obtain ⟨hr4, hw4, hX5, h305⟩ : r4.1 = true ∧ isW (σ 42) L r4.2.1 11 = true ∧ XS σ L (it + 1) (B + 1 + 4) (true, tE (σ 42) L r4.2.1, r4.2.2.1, r4.2.2.2) M5 ∧ M5 0 30 = M4 0 30 := by
              rcases hNX with ⟨-, h⟩ | ⟨h, -⟩
              · exact h
              · exact absurd (Option.some.inj h |> Value.int.inj) c177
            refine G_aload_n (K := mX5_readItem) (i := 0) dX5_readItem_180 rfl rfl ?_
            refine G_bipush (K := mX5_readItem) (v := 15) dX5_readItem_181 (by decide) ?_
            refine G_iload_n (K := mX5_readItem) (i := 2) dX5_readItem_183 rfl rfl ?_
            refine G_iconst (K := mX5_readItem) (v := 1) dX5_readItem_184 (by decide) ?_
            refine G_call0 (K := mX5_readItem) (as := [.int (nI (15)), .int (nI n), .int (1)]) (r := 0) (Q' := fun u Mz => u = none ∧ XS σ L (it + 1) ((B + 1 + 4) + 1) (rowF ((true, tE (σ 42) L r4.2.1, r4.2.2.1, r4.2.2.2)) (15, nI n, 1)) Mz ∧ Mz 0 30 = (M5) 0 30) (rf_row (M := M5) (w := 15) (a := nI n) (b := 1) hL hH hX5 (by omega) (fun Mz q1 q2 => ⟨rfl, q1, q2⟩)) vX5_row rfl lX5_312 ⟨_, _, _, rfl, rfl, rfl⟩ (by decide) (Nat.le_of_ble_eq_true rfl) dX5_readItem_185 rfl ?_
            rintro u M6 ⟨rfl, hXM6, h30M6⟩
            refine G_goto (K := mX5_readItem) (tgt := 260) dX5_readItem_188 (by decide) ?_
            have hpi : pItem (σ 42) L n e R = pAway (σ 42) L n r4 := by
              rw [pItem_some hks]
              unfold pRoom
              rw [if_neg (by omega), hr4f]
            exact G_vrm (K := mX5_readItem) dX5_readItem_260 rfl rfl (hQ _ (by
              rw [hpi]
              have he : pAway (σ 42) L n r4 = (true, tE (σ 42) L r4.2.1, n + 1, r4.2.2.2 ++ [(15, nI n, 1)]) := (if_pos hr4).trans (if_pos hw4)
              rw [he, ← hn4 hr4]
              exact hXM6.le (by omega)))
        · skip
          have hp4 : p < 4 := by
            have h : ¬ 4 ≤ p := fun z => c67 ((le_nn (i := p) (n := 4) (by omega) (by omega)).mpr z)
            omega
          refine G_iconst (K := mX5_readItem) (v := 1) dX5_readItem_70 (by decide) ?_
          refine G_iload_n (K := mX5_readItem) (i := 3) dX5_readItem_71 rfl rfl ?_
          refine G_iadd (K := mX5_readItem) dX5_readItem_72 ?_
          rw [show (1 : Int32) + nI p = nI (1 + p) from nI_add 1 p]
          refine G_istore (K := mX5_readItem) dX5_readItem_73 (by decide) ?_
          refine G_aload_n (K := mX5_readItem) (i := 0) dX5_readItem_75 rfl rfl ?_
          refine G_aload_n (K := mX5_readItem) (i := 0) dX5_readItem_76 rfl rfl ?_
          refine G_getr (K := mX5_readItem) fX5_74 dX5_readItem_77 rfl rfl ?_
          refine G_iload_n (K := mX5_readItem) (i := 3) dX5_readItem_80 rfl rfl ?_
          refine G_aald (K := mX5_readItem) (r := 1100 + (7 + p)) p dX5_readItem_81 rfl (fun _ => ⟨_, rfl⟩) rfl (parts_at (by omega)) (by decide) ?_
          refine G_call0 (K := mX5_readItem) (as := [.ref (1100 + (7 + p))]) (r := 0) (Q' := fun u Mz => (u = some (.int 1) ∧ (r4).1 = true ∧ isW (σ 42) L (r4).2.1 (7 + p) = true ∧ XS σ L (it + 1) (B + 1 + p) (true, tE (σ 42) L (r4).2.1, (r4).2.2.1, (r4).2.2.2) Mz ∧ Mz 0 30 = M4 0 30) ∨ (u = some (.int 0) ∧ ((r4).1 = true → isW (σ 42) L (r4).2.1 (7 + p) = false) ∧ Mz = M4)) (rf_isNext (M := M4) (i := 7 + p) hL hH hX4 (by omega) (fun Mz q1 q2 q3 q4 => Or.inl ⟨rfl, q1, q2, q3, q4⟩) (fun q1 => Or.inr ⟨rfl, q1, rfl⟩)) vX5_isNext rfl lX5_315 ⟨_, _, _, rfl, rfl, rfl⟩ (by decide) (Nat.le_of_ble_eq_true rfl) dX5_readItem_82 rfl ?_
          rintro u M5 hNX
          obtain ⟨z, rfl⟩ : ∃ z : Int32, u = some (.int z) := by
            rcases hNX with ⟨h, -⟩ | ⟨h, -⟩
            · exact ⟨1, h⟩
            · exact ⟨0, h⟩
          refine G_if_eq (K := mX5_readItem) (tgt := 164) dX5_readItem_85 (by decide) (fun c85 => ?_) (fun c85 => ?_)
          · skip
            refine G_iincN (K := mX5_readItem) dX5_readItem_164 (by decide) rfl ?_
            refine G_goto (K := mX5_readItem) (tgt := 61) dX5_readItem_167 (by decide) ?_
            obtain ⟨hno, rfl⟩ : (r4.1 = true → isW (σ 42) L r4.2.1 (7 + p) = false) ∧ M5 = M4 := by
              rcases hNX with ⟨h, -⟩ | ⟨-, h1, h2⟩
              · rw [Option.some.inj h |> Value.int.inj] at c85; exact absurd c85 (by decide)
              · exact ⟨h1, h2⟩
            refine ih (p + 1) (by omega) (by omega) M5 r4 _ _ (hX4.le (by omega)) hn4 ?_
            rw [← hfin]
            unfold finP
            rcases Bool.eq_false_or_eq_true r4.1 with hr | hr
            · rw [if_pos hr, if_pos hr]
              have h := pP_no (T := σ 42) (L := L) (own := n) (p := 1 + p) (e := r4.2.1) (R := r4.2.2.2) (by omega) (by omega) (by rw [show 6 + (1 + p) = 7 + p by omega, hno hr]; decide)
              rw [show 5 - (1 + p) = 4 - p by omega, show 5 - (1 + p + 1) = 4 - (p + 1) by omega] at h
              exact h.symm
            · rw [if_neg (by rw [hr]; decide), if_neg (by rw [hr]; decide)]
          · skip
            obtain ⟨hr4, hw4, hX5, h305⟩ : r4.1 = true ∧ isW (σ 42) L r4.2.1 (7 + p) = true ∧ XS σ L (it + 1) (B + 1 + p) (true, tE (σ 42) L r4.2.1, r4.2.2.1, r4.2.2.2) M5 ∧ M5 0 30 = M4 0 30 := by
              rcases hNX with ⟨-, h⟩ | ⟨h, -⟩
              · exact h
              · exact absurd (Option.some.inj h |> Value.int.inj) c85
            have hok5 := (hX5.ok rfl).2
            have hs2 : M5 0 22 = 2 ↔ tS (σ 42) L (tE (σ 42) L r4.2.1) = 2 := hok5.2.2.1.s2 (by decide) (by decide)
            refine G_aload_n (K := mX5_readItem) (i := 0) dX5_readItem_88 rfl rfl ?_
            refine G_geti (K := mX5_readItem) fX5_272 dX5_readItem_89 rfl rfl ?_
            rw [hok5.2.2.1.2.2.2]
            refine G_istore (K := mX5_readItem) dX5_readItem_92 (by decide) ?_
            refine G_aload_n (K := mX5_readItem) (i := 0) dX5_readItem_94 rfl rfl ?_
            refine G_aload_n (K := mX5_readItem) (i := 0) dX5_readItem_95 rfl rfl ?_
            refine G_geti (K := mX5_readItem) fX5_285 dX5_readItem_96 rfl rfl ?_
            refine G_if_ne (K := mX5_readItem) (tgt := 148) dX5_readItem_99 (by decide) (fun c99 => ?_) (fun c99 => ?_)
            · skip
              exact absurd hok5.2.1 c99
            · skip
              refine G_aload_n (K := mX5_readItem) (i := 0) dX5_readItem_102 rfl rfl ?_
              refine G_geti (K := mX5_readItem) fX5_275 dX5_readItem_103 rfl rfl ?_
              refine G_iconst (K := mX5_readItem) (v := 2) dX5_readItem_106 (by decide) ?_
              refine G_icmp_ne (K := mX5_readItem) (tgt := 148) dX5_readItem_107 (by decide) (fun c107 => ?_) (fun c107 => ?_)
              · skip
                refine G_iconst (K := mX5_readItem) (v := 0) dX5_readItem_148 (by decide) ?_
                refine G_call0 (K := mX5_readItem) (as := [.int 0]) (r := 0) (Q' := fun u Mz => u = none ∧ XS σ L (it + 1) (B + 1 + p) (mustF (σ 42) L (true, tE (σ 42) L r4.2.1, r4.2.2.1, r4.2.2.2) (decide (¬ 0 = 0))) Mz ∧ Mz 0 30 = M5 0 30) (rf_must (M := M5) (z := 0) hL hH hX5 (fun h => absurd rfl h) (fun Mz q1 q2 => ⟨rfl, q1, q2⟩)) vX5_must rfl lX5_292 ⟨_, _, _, rfl, rfl, rfl⟩ (by decide) (Nat.le_of_ble_eq_true rfl) dX5_readItem_149 rfl ?_
                rintro u M6 ⟨rfl, hXM6, h30M6⟩
                rw [show mustF (σ 42) L (true, tE (σ 42) L r4.2.1, r4.2.2.1, r4.2.2.2) (decide (¬ (0 : Int32) = 0)) = (false, tE (σ 42) L r4.2.1, r4.2.2.1, r4.2.2.2) from (if_pos rfl).trans (if_neg (by decide))] at hXM6
                refine G_aload_n (K := mX5_readItem) (i := 0) dX5_readItem_152 rfl rfl ?_
                refine G_bipush (K := mX5_readItem) (v := 10) dX5_readItem_153 (by decide) ?_
                refine G_iload (K := mX5_readItem) dX5_readItem_155 rfl ?_
                refine G_iadd (K := mX5_readItem) dX5_readItem_157 ?_
                rw [show (10 : Int32) + nI (1 + p) = nI (10 + (1 + p)) from nI_add 10 (1 + p)]
                refine G_iload_n (K := mX5_readItem) (i := 2) dX5_readItem_158 rfl rfl ?_
                refine G_iload (K := mX5_readItem) dX5_readItem_159 rfl ?_
                refine G_call0 (K := mX5_readItem) (as := [.int (nI (10 + (1 + p))), .int (nI n), .int (tV (σ 42) L (tE (σ 42) L r4.2.1))]) (r := 0) (Q' := fun u Mz => u = none ∧ XS σ L (it + 1) (B + 1 + p + 1) (rowF ((false, tE (σ 42) L r4.2.1, r4.2.2.1, r4.2.2.2)) (10 + (1 + p), nI n, tV (σ 42) L (tE (σ 42) L r4.2.1))) Mz ∧ Mz 0 30 = (M6) 0 30) (rf_row (M := M6) (w := 10 + (1 + p)) (a := nI n) (b := tV (σ 42) L (tE (σ 42) L r4.2.1)) hL hH hXM6 (by omega) (fun Mz q1 q2 => ⟨rfl, q1, q2⟩)) vX5_row rfl lX5_312 ⟨_, _, _, rfl, rfl, rfl⟩ (by decide) (Nat.le_of_ble_eq_true rfl) dX5_readItem_161 rfl ?_
                rintro u M7 ⟨rfl, hXM7, h30M7⟩
                refine G_iincN (K := mX5_readItem) dX5_readItem_164 (by decide) rfl ?_
                refine G_goto (K := mX5_readItem) (tgt := 61) dX5_readItem_167 (by decide) ?_
                have hpy := pP_yes (T := σ 42) (L := L) (own := n) (p := 1 + p) (e := r4.2.1) (R := r4.2.2.2) (by omega) (by omega) (by rw [show 6 + (1 + p) = 7 + p by omega]; exact hw4)
                rw [show 5 - (1 + p) = 4 - p by omega, show 5 - (1 + p + 1) = 4 - (p + 1) by omega] at hpy
                have hfin2 : pParts (σ 42) L n (4 - p) r4.2.1 r4.2.2.2 = pParts (σ 42) L n 4 (tE (σ 42) L e) (R ++ [(k, 0, 0)]) := by rw [← hfin]; exact (if_pos hr4).symm
                have hbad : ¬ (tS (σ 42) L (tE (σ 42) L r4.2.1) = 2 ∧ fitB (n + 1) (nI n) (nI (1 + p)) (tV (σ 42) L (tE (σ 42) L r4.2.1)) = true) := fun z => c107 (hs2.mpr z.1)
                rw [if_neg hbad, hfin2] at hpy
                refine ih (p + 1) (by omega) (by omega) M7 _ _ _ hXM7 (fun h => absurd (show false = true from h) (by decide)) ?_
                rw [hpy, ← hn4 hr4]
                rfl
              · skip
                refine G_iload (K := mX5_readItem) dX5_readItem_110 rfl ?_
                refine G_aload_n (K := mX5_readItem) (i := 0) dX5_readItem_112 rfl rfl ?_
                refine G_getr (K := mX5_readItem) fX5_22 dX5_readItem_113 rfl rfl ?_
                refine G_iload (K := mX5_readItem) dX5_readItem_116 rfl ?_
                refine G_ld (K := mX5_readItem) (1 + p) dX5_readItem_118 rfl rfl (by omega) (by decide) ?_
                rw [(hok5.1.2.2.2.2.2.2.2 (1 + p) (by omega)).1]
                refine G_aload_n (K := mX5_readItem) (i := 0) dX5_readItem_119 rfl rfl ?_
                refine G_getr (K := mX5_readItem) fX5_25 dX5_readItem_120 rfl rfl ?_
                refine G_iload (K := mX5_readItem) dX5_readItem_123 rfl ?_
                refine G_ld (K := mX5_readItem) (1 + p) dX5_readItem_125 rfl rfl (by omega) (by decide) ?_
                rw [(hok5.1.2.2.2.2.2.2.2 (1 + p) (by omega)).2]
                refine G_sv (K := mX5_readItem) (c_X5_within (v := (tV (σ 42) L (tE (σ 42) L r4.2.1))) (a := (tLeast.getD (1 + p) 0)) (b := (tMost.getD (1 + p) 0)) ⟨rfl, rfl⟩) sX5_within rfl lX5_97 dX5_readItem_126 (by decide) rfl (Nat.le_of_ble_eq_true rfl) ?_
                refine G_if_eq (K := mX5_readItem) (tgt := 148) dX5_readItem_129 (by decide) (fun c129 => ?_) (fun c129 => ?_)
                · skip
                  refine G_iconst (K := mX5_readItem) (v := 0) dX5_readItem_148 (by decide) ?_
                  refine G_call0 (K := mX5_readItem) (as := [.int 0]) (r := 0) (Q' := fun u Mz => u = none ∧ XS σ L (it + 1) (B + 1 + p) (mustF (σ 42) L (true, tE (σ 42) L r4.2.1, r4.2.2.1, r4.2.2.2) (decide (¬ 0 = 0))) Mz ∧ Mz 0 30 = M5 0 30) (rf_must (M := M5) (z := 0) hL hH hX5 (fun h => absurd rfl h) (fun Mz q1 q2 => ⟨rfl, q1, q2⟩)) vX5_must rfl lX5_292 ⟨_, _, _, rfl, rfl, rfl⟩ (by decide) (Nat.le_of_ble_eq_true rfl) dX5_readItem_149 rfl ?_
                  rintro u M6 ⟨rfl, hXM6, h30M6⟩
                  rw [show mustF (σ 42) L (true, tE (σ 42) L r4.2.1, r4.2.2.1, r4.2.2.2) (decide (¬ (0 : Int32) = 0)) = (false, tE (σ 42) L r4.2.1, r4.2.2.1, r4.2.2.2) from (if_pos rfl).trans (if_neg (by decide))] at hXM6
                  refine G_aload_n (K := mX5_readItem) (i := 0) dX5_readItem_152 rfl rfl ?_
                  refine G_bipush (K := mX5_readItem) (v := 10) dX5_readItem_153 (by decide) ?_
                  refine G_iload (K := mX5_readItem) dX5_readItem_155 rfl ?_
                  refine G_iadd (K := mX5_readItem) dX5_readItem_157 ?_
                  rw [show (10 : Int32) + nI (1 + p) = nI (10 + (1 + p)) from nI_add 10 (1 + p)]
                  refine G_iload_n (K := mX5_readItem) (i := 2) dX5_readItem_158 rfl rfl ?_
                  refine G_iload (K := mX5_readItem) dX5_readItem_159 rfl ?_
                  refine G_call0 (K := mX5_readItem) (as := [.int (nI (10 + (1 + p))), .int (nI n), .int (tV (σ 42) L (tE (σ 42) L r4.2.1))]) (r := 0) (Q' := fun u Mz => u = none ∧ XS σ L (it + 1) (B + 1 + p + 1) (rowF ((false, tE (σ 42) L r4.2.1, r4.2.2.1, r4.2.2.2)) (10 + (1 + p), nI n, tV (σ 42) L (tE (σ 42) L r4.2.1))) Mz ∧ Mz 0 30 = (M6) 0 30) (rf_row (M := M6) (w := 10 + (1 + p)) (a := nI n) (b := tV (σ 42) L (tE (σ 42) L r4.2.1)) hL hH hXM6 (by omega) (fun Mz q1 q2 => ⟨rfl, q1, q2⟩)) vX5_row rfl lX5_312 ⟨_, _, _, rfl, rfl, rfl⟩ (by decide) (Nat.le_of_ble_eq_true rfl) dX5_readItem_161 rfl ?_
                  rintro u M7 ⟨rfl, hXM7, h30M7⟩
                  refine G_iincN (K := mX5_readItem) dX5_readItem_164 (by decide) rfl ?_
                  refine G_goto (K := mX5_readItem) (tgt := 61) dX5_readItem_167 (by decide) ?_
                  have hpy := pP_yes (T := σ 42) (L := L) (own := n) (p := 1 + p) (e := r4.2.1) (R := r4.2.2.2) (by omega) (by omega) (by rw [show 6 + (1 + p) = 7 + p by omega]; exact hw4)
                  rw [show 5 - (1 + p) = 4 - p by omega, show 5 - (1 + p + 1) = 4 - (p + 1) by omega] at hpy
                  have hfin2 : pParts (σ 42) L n (4 - p) r4.2.1 r4.2.2.2 = pParts (σ 42) L n 4 (tE (σ 42) L e) (R ++ [(k, 0, 0)]) := by rw [← hfin]; exact (if_pos hr4).symm
                  have hbad : ¬ (tS (σ 42) L (tE (σ 42) L r4.2.1) = 2 ∧ fitB (n + 1) (nI n) (nI (1 + p)) (tV (σ 42) L (tE (σ 42) L r4.2.1)) = true) := fun z => by
                    have z2 := z.2
                    unfold fitB at z2
                    rw [cut_nI (by omega), bI_0 c129, Bool.false_and, Bool.and_false, Bool.and_false] at z2
                    exact absurd z2 (by decide)
                  rw [if_neg hbad, hfin2] at hpy
                  refine ih (p + 1) (by omega) (by omega) M7 _ _ _ hXM7 (fun h => absurd (show false = true from h) (by decide)) ?_
                  rw [hpy, ← hn4 hr4]
                  rfl
                · skip
                  refine G_iload (K := mX5_readItem) dX5_readItem_132 rfl ?_
                  refine G_iconst (K := mX5_readItem) (v := 4) dX5_readItem_134 (by decide) ?_
                  refine G_icmp_ne (K := mX5_readItem) (tgt := 144) dX5_readItem_135 (by decide) (fun c135 => ?_) (fun c135 => ?_)
                  · skip
                    refine G_iconst (K := mX5_readItem) (v := 1) dX5_readItem_144 (by decide) ?_
                    refine G_goto (K := mX5_readItem) (tgt := 149) dX5_readItem_145 (by decide) ?_
                    refine G_call0 (K := mX5_readItem) (as := [.int 1]) (r := 0) (Q' := fun u Mz => u = none ∧ XS σ L (it + 1) (B + 1 + p) (mustF (σ 42) L (true, tE (σ 42) L r4.2.1, r4.2.2.1, r4.2.2.2) (decide (¬ 1 = 0))) Mz ∧ Mz 0 30 = M5 0 30) (rf_must (M := M5) (z := 1) hL hH hX5 (fun _ _ => by rw [show tS (σ 42) L (tE (σ 42) L r4.2.1) = 2 from hs2.mp c107]; decide) (fun Mz q1 q2 => ⟨rfl, q1, q2⟩)) vX5_must rfl lX5_292 ⟨_, _, _, rfl, rfl, rfl⟩ (by decide) (Nat.le_of_ble_eq_true rfl) dX5_readItem_149 rfl ?_
                    rintro u M6 ⟨rfl, hXM6, h30M6⟩
                    rw [show mustF (σ 42) L (true, tE (σ 42) L r4.2.1, r4.2.2.1, r4.2.2.2) (decide (¬ (1 : Int32) = 0)) = (true, tE (σ 42) L (tE (σ 42) L r4.2.1), r4.2.2.1, r4.2.2.2) from (if_pos rfl).trans (if_pos rfl)] at hXM6
                    refine G_aload_n (K := mX5_readItem) (i := 0) dX5_readItem_152 rfl rfl ?_
                    refine G_bipush (K := mX5_readItem) (v := 10) dX5_readItem_153 (by decide) ?_
                    refine G_iload (K := mX5_readItem) dX5_readItem_155 rfl ?_
                    refine G_iadd (K := mX5_readItem) dX5_readItem_157 ?_
                    rw [show (10 : Int32) + nI (1 + p) = nI (10 + (1 + p)) from nI_add 10 (1 + p)]
                    refine G_iload_n (K := mX5_readItem) (i := 2) dX5_readItem_158 rfl rfl ?_
                    refine G_iload (K := mX5_readItem) dX5_readItem_159 rfl ?_
                    refine G_call0 (K := mX5_readItem) (as := [.int (nI (10 + (1 + p))), .int (nI n), .int (tV (σ 42) L (tE (σ 42) L r4.2.1))]) (r := 0) (Q' := fun u Mz => u = none ∧ XS σ L (it + 1) (B + 1 + p + 1) (rowF ((true, tE (σ 42) L (tE (σ 42) L r4.2.1), r4.2.2.1, r4.2.2.2)) (10 + (1 + p), nI n, tV (σ 42) L (tE (σ 42) L r4.2.1))) Mz ∧ Mz 0 30 = (M6) 0 30) (rf_row (M := M6) (w := 10 + (1 + p)) (a := nI n) (b := tV (σ 42) L (tE (σ 42) L r4.2.1)) hL hH hXM6 (by omega) (fun Mz q1 q2 => ⟨rfl, q1, q2⟩)) vX5_row rfl lX5_312 ⟨_, _, _, rfl, rfl, rfl⟩ (by decide) (Nat.le_of_ble_eq_true rfl) dX5_readItem_161 rfl ?_
                    rintro u M7 ⟨rfl, hXM7, h30M7⟩
                    refine G_iincN (K := mX5_readItem) dX5_readItem_164 (by decide) rfl ?_
                    refine G_goto (K := mX5_readItem) (tgt := 61) dX5_readItem_167 (by decide) ?_
                    have hpy := pP_yes (T := σ 42) (L := L) (own := n) (p := 1 + p) (e := r4.2.1) (R := r4.2.2.2) (by omega) (by omega) (by rw [show 6 + (1 + p) = 7 + p by omega]; exact hw4)
                    rw [show 5 - (1 + p) = 4 - p by omega, show 5 - (1 + p + 1) = 4 - (p + 1) by omega] at hpy
                    have hfin2 : pParts (σ 42) L n (4 - p) r4.2.1 r4.2.2.2 = pParts (σ 42) L n 4 (tE (σ 42) L e) (R ++ [(k, 0, 0)]) := by rw [← hfin]; exact (if_pos hr4).symm
                    have hgood : tS (σ 42) L (tE (σ 42) L r4.2.1) = 2 ∧ fitB (n + 1) (nI n) (nI (1 + p)) (tV (σ 42) L (tE (σ 42) L r4.2.1)) = true := by
                      refine ⟨hs2.mp c107, ?_⟩
                      unfold fitB
                      rw [roomB_nI (by omega) (by omega), roomB_nI (n := 9) (by decide) (by omega), cut_nI (by omega), bI_1 c129, decide_eq_false (show ¬ (nI (1 + p) = 4 ∧ tV (σ 42) L (tE (σ 42) L r4.2.1) = nI n) from fun z => c135 z.1)]
                      rfl
                    rw [if_pos hgood, hfin2] at hpy
                    refine ih (p + 1) (by omega) (by omega) M7 _ _ _ hXM7 (fun _ => hn4 hr4) ?_
                    rw [hpy]
                    rfl
                  · skip
                    refine G_iload (K := mX5_readItem) dX5_readItem_138 rfl ?_
                    refine G_iload_n (K := mX5_readItem) (i := 2) dX5_readItem_140 rfl rfl ?_
                    refine G_icmp_eq (K := mX5_readItem) (tgt := 148) dX5_readItem_141 (by decide) (fun c141 => ?_) (fun c141 => ?_)
                    · skip
                      refine G_iconst (K := mX5_readItem) (v := 0) dX5_readItem_148 (by decide) ?_
                      refine G_call0 (K := mX5_readItem) (as := [.int 0]) (r := 0) (Q' := fun u Mz => u = none ∧ XS σ L (it + 1) (B + 1 + p) (mustF (σ 42) L (true, tE (σ 42) L r4.2.1, r4.2.2.1, r4.2.2.2) (decide (¬ 0 = 0))) Mz ∧ Mz 0 30 = M5 0 30) (rf_must (M := M5) (z := 0) hL hH hX5 (fun h => absurd rfl h) (fun Mz q1 q2 => ⟨rfl, q1, q2⟩)) vX5_must rfl lX5_292 ⟨_, _, _, rfl, rfl, rfl⟩ (by decide) (Nat.le_of_ble_eq_true rfl) dX5_readItem_149 rfl ?_
                      rintro u M6 ⟨rfl, hXM6, h30M6⟩
                      rw [show mustF (σ 42) L (true, tE (σ 42) L r4.2.1, r4.2.2.1, r4.2.2.2) (decide (¬ (0 : Int32) = 0)) = (false, tE (σ 42) L r4.2.1, r4.2.2.1, r4.2.2.2) from (if_pos rfl).trans (if_neg (by decide))] at hXM6
                      refine G_aload_n (K := mX5_readItem) (i := 0) dX5_readItem_152 rfl rfl ?_
                      refine G_bipush (K := mX5_readItem) (v := 10) dX5_readItem_153 (by decide) ?_
                      refine G_iload (K := mX5_readItem) dX5_readItem_155 rfl ?_
                      refine G_iadd (K := mX5_readItem) dX5_readItem_157 ?_
                      rw [show (10 : Int32) + nI (1 + p) = nI (10 + (1 + p)) from nI_add 10 (1 + p)]
                      refine G_iload_n (K := mX5_readItem) (i := 2) dX5_readItem_158 rfl rfl ?_
                      refine G_iload (K := mX5_readItem) dX5_readItem_159 rfl ?_
                      refine G_call0 (K := mX5_readItem) (as := [.int (nI (10 + (1 + p))), .int (nI n), .int (tV (σ 42) L (tE (σ 42) L r4.2.1))]) (r := 0) (Q' := fun u Mz => u = none ∧ XS σ L (it + 1) (B + 1 + p + 1) (rowF ((false, tE (σ 42) L r4.2.1, r4.2.2.1, r4.2.2.2)) (10 + (1 + p), nI n, tV (σ 42) L (tE (σ 42) L r4.2.1))) Mz ∧ Mz 0 30 = (M6) 0 30) (rf_row (M := M6) (w := 10 + (1 + p)) (a := nI n) (b := tV (σ 42) L (tE (σ 42) L r4.2.1)) hL hH hXM6 (by omega) (fun Mz q1 q2 => ⟨rfl, q1, q2⟩)) vX5_row rfl lX5_312 ⟨_, _, _, rfl, rfl, rfl⟩ (by decide) (Nat.le_of_ble_eq_true rfl) dX5_readItem_161 rfl ?_
                      rintro u M7 ⟨rfl, hXM7, h30M7⟩
                      refine G_iincN (K := mX5_readItem) dX5_readItem_164 (by decide) rfl ?_
                      refine G_goto (K := mX5_readItem) (tgt := 61) dX5_readItem_167 (by decide) ?_
                      have hpy := pP_yes (T := σ 42) (L := L) (own := n) (p := 1 + p) (e := r4.2.1) (R := r4.2.2.2) (by omega) (by omega) (by rw [show 6 + (1 + p) = 7 + p by omega]; exact hw4)
                      rw [show 5 - (1 + p) = 4 - p by omega, show 5 - (1 + p + 1) = 4 - (p + 1) by omega] at hpy
                      have hfin2 : pParts (σ 42) L n (4 - p) r4.2.1 r4.2.2.2 = pParts (σ 42) L n 4 (tE (σ 42) L e) (R ++ [(k, 0, 0)]) := by rw [← hfin]; exact (if_pos hr4).symm
                      have hbad : ¬ (tS (σ 42) L (tE (σ 42) L r4.2.1) = 2 ∧ fitB (n + 1) (nI n) (nI (1 + p)) (tV (σ 42) L (tE (σ 42) L r4.2.1)) = true) := fun z => by
                        have z2 := z.2
                        unfold fitB at z2
                        rw [decide_eq_true (show nI (1 + p) = 4 ∧ tV (σ 42) L (tE (σ 42) L r4.2.1) = nI n from ⟨c135, c141⟩), Bool.not_true, Bool.and_false, Bool.and_false, Bool.and_false] at z2
                        exact absurd z2 (by decide)
                      rw [if_neg hbad, hfin2] at hpy
                      refine ih (p + 1) (by omega) (by omega) M7 _ _ _ hXM7 (fun h => absurd (show false = true from h) (by decide)) ?_
                      rw [hpy, ← hn4 hr4]
                      rfl
                    · skip
                      refine G_iconst (K := mX5_readItem) (v := 1) dX5_readItem_144 (by decide) ?_
                      refine G_goto (K := mX5_readItem) (tgt := 149) dX5_readItem_145 (by decide) ?_
                      refine G_call0 (K := mX5_readItem) (as := [.int 1]) (r := 0) (Q' := fun u Mz => u = none ∧ XS σ L (it + 1) (B + 1 + p) (mustF (σ 42) L (true, tE (σ 42) L r4.2.1, r4.2.2.1, r4.2.2.2) (decide (¬ 1 = 0))) Mz ∧ Mz 0 30 = M5 0 30) (rf_must (M := M5) (z := 1) hL hH hX5 (fun _ _ => by rw [show tS (σ 42) L (tE (σ 42) L r4.2.1) = 2 from hs2.mp c107]; decide) (fun Mz q1 q2 => ⟨rfl, q1, q2⟩)) vX5_must rfl lX5_292 ⟨_, _, _, rfl, rfl, rfl⟩ (by decide) (Nat.le_of_ble_eq_true rfl) dX5_readItem_149 rfl ?_
                      rintro u M6 ⟨rfl, hXM6, h30M6⟩
                      rw [show mustF (σ 42) L (true, tE (σ 42) L r4.2.1, r4.2.2.1, r4.2.2.2) (decide (¬ (1 : Int32) = 0)) = (true, tE (σ 42) L (tE (σ 42) L r4.2.1), r4.2.2.1, r4.2.2.2) from (if_pos rfl).trans (if_pos rfl)] at hXM6
                      refine G_aload_n (K := mX5_readItem) (i := 0) dX5_readItem_152 rfl rfl ?_
                      refine G_bipush (K := mX5_readItem) (v := 10) dX5_readItem_153 (by decide) ?_
                      refine G_iload (K := mX5_readItem) dX5_readItem_155 rfl ?_
                      refine G_iadd (K := mX5_readItem) dX5_readItem_157 ?_
                      rw [show (10 : Int32) + nI (1 + p) = nI (10 + (1 + p)) from nI_add 10 (1 + p)]
                      refine G_iload_n (K := mX5_readItem) (i := 2) dX5_readItem_158 rfl rfl ?_
                      refine G_iload (K := mX5_readItem) dX5_readItem_159 rfl ?_
                      refine G_call0 (K := mX5_readItem) (as := [.int (nI (10 + (1 + p))), .int (nI n), .int (tV (σ 42) L (tE (σ 42) L r4.2.1))]) (r := 0) (Q' := fun u Mz => u = none ∧ XS σ L (it + 1) (B + 1 + p + 1) (rowF ((true, tE (σ 42) L (tE (σ 42) L r4.2.1), r4.2.2.1, r4.2.2.2)) (10 + (1 + p), nI n, tV (σ 42) L (tE (σ 42) L r4.2.1))) Mz ∧ Mz 0 30 = (M6) 0 30) (rf_row (M := M6) (w := 10 + (1 + p)) (a := nI n) (b := tV (σ 42) L (tE (σ 42) L r4.2.1)) hL hH hXM6 (by omega) (fun Mz q1 q2 => ⟨rfl, q1, q2⟩)) vX5_row rfl lX5_312 ⟨_, _, _, rfl, rfl, rfl⟩ (by decide) (Nat.le_of_ble_eq_true rfl) dX5_readItem_161 rfl ?_
                      rintro u M7 ⟨rfl, hXM7, h30M7⟩
                      refine G_iincN (K := mX5_readItem) dX5_readItem_164 (by decide) rfl ?_
                      refine G_goto (K := mX5_readItem) (tgt := 61) dX5_readItem_167 (by decide) ?_
                      have hpy := pP_yes (T := σ 42) (L := L) (own := n) (p := 1 + p) (e := r4.2.1) (R := r4.2.2.2) (by omega) (by omega) (by rw [show 6 + (1 + p) = 7 + p by omega]; exact hw4)
                      rw [show 5 - (1 + p) = 4 - p by omega, show 5 - (1 + p + 1) = 4 - (p + 1) by omega] at hpy
                      have hfin2 : pParts (σ 42) L n (4 - p) r4.2.1 r4.2.2.2 = pParts (σ 42) L n 4 (tE (σ 42) L e) (R ++ [(k, 0, 0)]) := by rw [← hfin]; exact (if_pos hr4).symm
                      have hgood : tS (σ 42) L (tE (σ 42) L r4.2.1) = 2 ∧ fitB (n + 1) (nI n) (nI (1 + p)) (tV (σ 42) L (tE (σ 42) L r4.2.1)) = true := by
                        refine ⟨hs2.mp c107, ?_⟩
                        unfold fitB
                        rw [roomB_nI (by omega) (by omega), roomB_nI (n := 9) (by decide) (by omega), cut_nI (by omega), bI_1 c129, decide_eq_false (show ¬ (nI (1 + p) = 4 ∧ tV (σ 42) L (tE (σ 42) L r4.2.1) = nI n) from fun z => c141 z.2)]
                        rfl
                      rw [if_pos hgood, hfin2] at hpy
                      refine ih (p + 1) (by omega) (by omega) M7 _ _ _ hXM7 (fun _ => hn4 hr4) ?_
                      rw [hpy]
                      rfl
      exact loop61 0 (by omega) M3 _ _ _ hXM3 (fun _ => rfl) rfl

