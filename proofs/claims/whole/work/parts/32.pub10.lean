theorem sh_o {s : Nat} (hs : s < 4) : shC[61 + 2 * s]? = some (.inl (1, [none, none, some (62 + 2 * s)])) := by
  have h : s = 0 ∨ s = 1 ∨ s = 2 ∨ s = 3 := by omega
  rcases h with rfl | rfl | rfl | rfl <;> rfl
theorem sh_n {s : Nat} (hs : s < 4) : shC[62 + 2 * s]? = some (.inr (.inl 40)) := by
  have h : s = 0 ∨ s = 1 ∨ s = 2 ∨ s = 3 := by omega
  rcases h with rfl | rfl | rfl | rfl <;> rfl
theorem sh_r {s : Nat} (hs : s < 4) : [61, 63, 65, 67][s]? = some (61 + 2 * s) := by
  have h : s = 0 ∨ s = 1 ∨ s = 2 ∨ s = 3 := by omega
  rcases h with rfl | rfl | rfl | rfl <;> rfl
def hasS (L f n : Int32) : Int32 := if f < 0 then 0 else if n < 0 then 0 else if L - n < f then 0 else 1
def cutV (b v : Int32) : Int32 := if b = 8 then v.toInt8.toInt32 else if b = 16 then v.toInt16.toInt32 else v
def cpyG (M : Mem) (j0 j1 sp dp n : Nat) : Mem := fun c i => if c = j1 ∧ dp ≤ i ∧ i < dp + n then M j0 (sp + (i - dp)) else M c i
theorem wld_cpyG {cts : Nat → ClassId} {ad : Nat → Nat} {M : Mem} {sh : Shp} {j0 j1 sp dp n n1 : Nat} (hs : sh[j1]? = some (.inr (.inl n1))) :
    (wld cts ad M sh).set j1 (ad j1, .inl (cts 0, n1, .inl (va_cpy (M j0) (M j1) sp dp n))) = wld cts ad (cpyG M j0 j1 sp dp n) sh := by
  apply List.ext_getElem?
  intro i
  by_cases hi : i = j1
  · subst hi
    have hl : i < (wld cts ad M sh).length := by rw [wld_len]; exact (List.getElem?_eq_some_iff.mp hs).1
    rw [List.getElem?_set_self hl, wld_at hs]
    congr 2
    show (Sum.inl _ : va_E) = Sum.inl _
    congr 3
    congr 1
    funext q
    unfold va_cpy cpyG
    by_cases hq : dp ≤ q ∧ q < dp + n
    · rw [if_pos hq, if_pos ⟨rfl, hq⟩]
    · rw [if_neg hq, if_neg (fun z => hq z.2)]
  · rw [List.getElem?_set_ne (fun q => hi q.symm)]
    rw [wld, wld, List.getElem?_mapIdx, List.getElem?_mapIdx]
    congr 1
    funext s
    have : cpyG M j0 j1 sp dp n i = M i := by
      funext q
      exact if_neg (fun z => hi z.1)
    rw [cel_ne this s]
theorem G_copyG {K : MI} {sh : Shp} {d : Nat} {Q : Option Value → Mem → Prop} {pc : Nat} {ls : List (Option Value)} {st : List Value} {M : Mem} {idx j0 j1 n0 n1 sp dp n : Nat} (hlink : Cond.methodLink K.1.cls idx arraycopyName ∈ gtbl) (hd : decode K.2.1 pc = .ok (.invokestatic idx, 3)) (hs0 : sh[j0]? = some (.inr (.inl n0))) (hs1 : sh[j1]? = some (.inr (.inl n1))) (h0 : sp + n ≤ n0) (h1 : dp + n ≤ n1) (hn0 : n0 < 2147483648) (hn1 : n1 < 2147483648) (hd1 : 1 ≤ d) (hst : (st.map fun v => v.category).sum ≤ 8) (kk : G K sh d Q (pc + 3) ls st (cpyG M j0 j1 sp dp n)) : G K sh d Q pc ls (.int (nI n) :: .int (nI dp) :: .ref j1 :: .int (nI sp) :: .ref j0 :: st) M := by
  intro p l e s m args below meth c D cts ad H locs lsA F hP hS hl
  have e1 : (nI n).toNatClampNeg = n := nI_clamp (by omega)
  have e2 : (nI sp).toNatClampNeg = sp := nI_clamp (by omega)
  have e3 : (nI dp).toNatClampNeg = dp := nI_clamp (by omega)
  refine va_copyi F.1.1 F.1.2.1 (F.1.2.2.1.trans hl.1.1.symm) F.1.2.2.2.1 (F.1.2.2.2.2.1 _ hlink) (F.1.2.2.2.2.1 _ wCopyN) (F.1.2.2.2.2.1 _ wCopyS) (F.1.2.2.2.2.1 _ wSysI) F.2.1 hP (wld_D F.2.2.1) hS j0 j1 0 0 (ty := .int) (wld_at hs0) (wld_at hs1) rfl rfl rfl (nI_pos (by omega)) (nI_pos (by omega)) (nI_pos (by omega)) ?_ ?_ (fun i hi => rfl) hd1 ?_ hd (fun H1 locs1 hP1 hD1 hS1 => ?_)
  · rw [e1, e2]; exact h0
  · rw [e1, e3]; exact h1
  · rw [tv_cats]
    have : nativeFrameWords "java/lang/System" "arraycopy" 5 + 11 ≤ 100 := by decide
    show _ + _ ≤ 120 * d
    omega
  · rw [e1, e2, e3] at hP1
    have h := wld_cpyG (cts := cts) (ad := ad) (M := M) (sh := sh) (j0 := j0) (sp := sp) (dp := dp) (n := n) hs1
    exact kk F (h ▸ hP1) hS1 hl
set_option maxRecDepth 20000 in
theorem c_X1_renew {M : Mem} {s : Nat} {b n : Int32} (hs : s < 4) {Q : Option Value → Mem → Prop} (hQ : ∀ M2 : Mem, (∀ i, i < 40 → M2 (62 + 2 * s) i = 0) → (∀ c, c ≠ 62 + 2 * s → M2 c = ups (ups M (61 + 2 * s) 0 b) (61 + 2 * s) 1 (if b = 0 then 0 else n) c) → Q none M2) : CT mX1_renew shC 1 [.ref (61 + 2 * s), .int b, .int n] M Q := by
  refine CT.mk [some (.ref (61 + 2 * s)), some (.int b), some (.int n)] (by decide) (Nat.le_of_ble_eq_true rfl) rfl rfl ?_
  refine G_aload_n (K := mX1_renew) (i := 0) dX1_renew_0 rfl rfl ?_
  refine G_iload_n (K := mX1_renew) (i := 1) dX1_renew_1 rfl rfl ?_
  refine G_puti (K := mX1_renew) fX1_15 w1_0 dX1_renew_2 (sh_o hs) rfl ?_
  refine G_aload_n (K := mX1_renew) (i := 0) dX1_renew_5 rfl rfl ?_
  refine G_iload_n (K := mX1_renew) (i := 1) dX1_renew_6 rfl rfl ?_
  refine G_if_ne (K := mX1_renew) (tgt := 14) dX1_renew_7 (by decide) (fun c7 => ?_) (fun c7 => ?_)
  · skip
    refine G_iload_n (K := mX1_renew) (i := 2) dX1_renew_14 rfl rfl ?_
    refine G_puti (K := mX1_renew) fX1_19 w1_1 dX1_renew_15 (sh_o hs) rfl ?_
    refine G_aload_n (K := mX1_renew) (i := 0) dX1_renew_18 rfl rfl ?_
    refine G_getr (K := mX1_renew) fX1_9 dX1_renew_19 (sh_o hs) rfl ?_
    refine G_iconst (K := mX1_renew) (v := 0) dX1_renew_22 (by decide) ?_
    refine G_fill (K := mX1_renew) (sh_n hs) (by omega) (by decide) lX1_22 dX1_renew_23 (by decide) (Nat.le_of_ble_eq_true rfl) (fun M2 hM2 hM2c => ?_)
    exact G_vrm (K := mX1_renew) dX1_renew_26 rfl rfl (hQ M2 hM2 (fun c hc => (hM2c c hc).trans (by first | rw [if_pos c7] | rw [if_neg c7])))
  · skip
    refine G_iconst (K := mX1_renew) (v := 0) dX1_renew_10 (by decide) ?_
    refine G_goto (K := mX1_renew) (tgt := 15) dX1_renew_11 (by decide) ?_
    refine G_puti (K := mX1_renew) fX1_19 w1_1 dX1_renew_15 (sh_o hs) rfl ?_
    refine G_aload_n (K := mX1_renew) (i := 0) dX1_renew_18 rfl rfl ?_
    refine G_getr (K := mX1_renew) fX1_9 dX1_renew_19 (sh_o hs) rfl ?_
    refine G_iconst (K := mX1_renew) (v := 0) dX1_renew_22 (by decide) ?_
    refine G_fill (K := mX1_renew) (sh_n hs) (by omega) (by decide) lX1_22 dX1_renew_23 (by decide) (Nat.le_of_ble_eq_true rfl) (fun M2 hM2 hM2c => ?_)
    exact G_vrm (K := mX1_renew) dX1_renew_26 rfl rfl (hQ M2 hM2 (fun c hc => (hM2c c hc).trans (by first | rw [if_pos c7] | rw [if_neg c7])))

set_option maxRecDepth 20000 in
theorem c_X1_has {M : Mem} {s : Nat} {f n : Int32} (hs : s < 4) {Q : Option Value → Mem → Prop} (hQ : Q (some (.int (hasS (M (61 + 2 * s) 1) f n))) M) : CT mX1_has shC 0 [.ref (61 + 2 * s), .int f, .int n] M Q := by
  refine CT.mk [some (.ref (61 + 2 * s)), some (.int f), some (.int n)] (by decide) (Nat.le_of_ble_eq_true rfl) rfl rfl ?_
  refine G_iload_n (K := mX1_has) (i := 1) dX1_has_0 rfl rfl ?_
  refine G_if_lt (K := mX1_has) (tgt := 22) dX1_has_1 (by decide) (fun c1 => ?_) (fun c1 => ?_)
  · skip
    refine G_iconst (K := mX1_has) (v := 0) dX1_has_22 (by decide) ?_
    exact G_zrm (K := mX1_has) dX1_has_23 rfl rfl (by unfold hasS; first | exact (if_pos c1).symm | exact ((if_neg c1).trans (if_pos c5)).symm | exact ((if_neg c1).trans ((if_neg c5).trans (if_pos c15))).symm | exact ((if_neg c1).trans ((if_neg c5).trans (if_neg c15))).symm) (by rfl) hQ
  · skip
    refine G_iload_n (K := mX1_has) (i := 2) dX1_has_4 rfl rfl ?_
    refine G_if_lt (K := mX1_has) (tgt := 22) dX1_has_5 (by decide) (fun c5 => ?_) (fun c5 => ?_)
    · skip
      refine G_iconst (K := mX1_has) (v := 0) dX1_has_22 (by decide) ?_
      exact G_zrm (K := mX1_has) dX1_has_23 rfl rfl (by unfold hasS; first | exact (if_pos c1).symm | exact ((if_neg c1).trans (if_pos c5)).symm | exact ((if_neg c1).trans ((if_neg c5).trans (if_pos c15))).symm | exact ((if_neg c1).trans ((if_neg c5).trans (if_neg c15))).symm) (by rfl) hQ
    · skip
      refine G_iload_n (K := mX1_has) (i := 1) dX1_has_8 rfl rfl ?_
      refine G_aload_n (K := mX1_has) (i := 0) dX1_has_9 rfl rfl ?_
      refine G_geti (K := mX1_has) fX1_19 dX1_has_10 (sh_o hs) rfl ?_
      refine G_iload_n (K := mX1_has) (i := 2) dX1_has_13 rfl rfl ?_
      refine G_isub (K := mX1_has) dX1_has_14 ?_
      refine G_icmp_gt (K := mX1_has) (tgt := 22) dX1_has_15 (by decide) (fun c15 => ?_) (fun c15 => ?_)
      · skip
        refine G_iconst (K := mX1_has) (v := 0) dX1_has_22 (by decide) ?_
        exact G_zrm (K := mX1_has) dX1_has_23 rfl rfl (by unfold hasS; first | exact (if_pos c1).symm | exact ((if_neg c1).trans (if_pos c5)).symm | exact ((if_neg c1).trans ((if_neg c5).trans (if_pos c15))).symm | exact ((if_neg c1).trans ((if_neg c5).trans (if_neg c15))).symm) (by rfl) hQ
      · skip
        refine G_iconst (K := mX1_has) (v := 1) dX1_has_18 (by decide) ?_
        refine G_goto (K := mX1_has) (tgt := 23) dX1_has_19 (by decide) ?_
        exact G_zrm (K := mX1_has) dX1_has_23 rfl rfl (by unfold hasS; first | exact (if_pos c1).symm | exact ((if_neg c1).trans (if_pos c5)).symm | exact ((if_neg c1).trans ((if_neg c5).trans (if_pos c15))).symm | exact ((if_neg c1).trans ((if_neg c5).trans (if_neg c15))).symm) (by rfl) hQ

set_option maxRecDepth 20000 in
theorem c_X1_put {M : Mem} {s i : Nat} {v : Int32} (hs : s < 4) (hi : i < 40) {Q : Option Value → Mem → Prop} (hQ : Q none (ups M (62 + 2 * s) i (cutV (M (61 + 2 * s) 0) v))) : CT mX1_put shC 0 [.ref (61 + 2 * s), .int (nI i), .int v] M Q := by
  refine CT.mk [some (.ref (61 + 2 * s)), some (.int (nI i)), some (.int v)] (by decide) (Nat.le_of_ble_eq_true rfl) rfl rfl ?_
  refine G_aload_n (K := mX1_put) (i := 0) dX1_put_0 rfl rfl ?_
  refine G_getr (K := mX1_put) fX1_9 dX1_put_1 (sh_o hs) rfl ?_
  refine G_iload_n (K := mX1_put) (i := 1) dX1_put_4 rfl rfl ?_
  refine G_aload_n (K := mX1_put) (i := 0) dX1_put_5 rfl rfl ?_
  refine G_geti (K := mX1_put) fX1_15 dX1_put_6 (sh_o hs) rfl ?_
  refine G_bipush (K := mX1_put) (v := 8) dX1_put_9 (by decide) ?_
  refine G_icmp_ne (K := mX1_put) (tgt := 19) dX1_put_11 (by decide) (fun c11 => ?_) (fun c11 => ?_)
  · skip
    refine G_aload_n (K := mX1_put) (i := 0) dX1_put_19 rfl rfl ?_
    refine G_geti (K := mX1_put) fX1_15 dX1_put_20 (sh_o hs) rfl ?_
    refine G_bipush (K := mX1_put) (v := 16) dX1_put_23 (by decide) ?_
    refine G_icmp_ne (K := mX1_put) (tgt := 33) dX1_put_25 (by decide) (fun c25 => ?_) (fun c25 => ?_)
    · skip
      refine G_iload_n (K := mX1_put) (i := 2) dX1_put_33 rfl rfl ?_
      refine G_sto (K := mX1_put) i dX1_put_34 (sh_n hs) rfl hi (by decide) ?_
      exact G_vrm (K := mX1_put) dX1_put_35 rfl (by unfold cutV; first | rw [if_pos c11] | rw [if_neg c11, if_pos c25] | rw [if_neg c11, if_neg c25]) hQ
    · skip
      refine G_iload_n (K := mX1_put) (i := 2) dX1_put_28 rfl rfl ?_
      refine G_i2s (K := mX1_put) dX1_put_29 ?_
      refine G_goto (K := mX1_put) (tgt := 34) dX1_put_30 (by decide) ?_
      refine G_sto (K := mX1_put) i dX1_put_34 (sh_n hs) rfl hi (by decide) ?_
      exact G_vrm (K := mX1_put) dX1_put_35 rfl (by unfold cutV; first | rw [if_pos c11] | rw [if_neg c11, if_pos c25] | rw [if_neg c11, if_neg c25]) hQ
  · skip
    refine G_iload_n (K := mX1_put) (i := 2) dX1_put_14 rfl rfl ?_
    refine G_i2b (K := mX1_put) dX1_put_15 ?_
    refine G_goto (K := mX1_put) (tgt := 34) dX1_put_16 (by decide) ?_
    refine G_sto (K := mX1_put) i dX1_put_34 (sh_n hs) rfl hi (by decide) ?_
    exact G_vrm (K := mX1_put) dX1_put_35 rfl (by unfold cutV; first | rw [if_pos c11] | rw [if_neg c11, if_pos c25] | rw [if_neg c11, if_neg c25]) hQ

def bitsOK (b : Int32) : Bool := decide (b = 0 ∨ b = 8 ∨ b = 16 ∨ b = 32)
def zeroR (σ : Mem) (q : Nat) : Mem := fun c i => if c = 46 + q ∧ i < 40 then 0 else σ c i
def newS (σ : Mem) (q : Nat) (b n : Int32) : Mem := zeroR (ups (ups σ 44 q b) 45 q (if b = 0 then 0 else n)) q
def opSheet (σ : Mem) (s b n : Int32) : Int32 × Mem := if roomB 4 s = true then (if bitsOK b = true then (if n < 0 then tl σ 6 else if 40 < n then tl σ 0 else (if b = 0 then 0 else n, newS σ (cut s) b n)) else tl σ 0) else tl σ 0
def refS (σ : Mem) (s : Int32) : Int32 := if roomB 4 s = true then (if σ 44 (cut s) = 0 then finI 5 else 0) else finI 0
def opWrite (σ : Mem) (s i v : Int32) : Int32 × Mem := if refS σ s = 0 then (if hasS (σ 45 (cut s)) i 1 = 0 then tl σ 0 else (1, ups σ (46 + cut s) (cut i) (cutV (σ 44 (cut s)) v))) else tlI σ (refS σ s)
theorem refS_fin {σ : Mem} {s : Int32} (h : ¬ refS σ s = 0) : isFin (refS σ s) := by
  unfold refS at h ⊢
  by_cases h1 : roomB 4 s = true
  · rw [if_pos h1] at h ⊢
    by_cases h2 : σ 44 (cut s) = 0
    · rw [if_pos h2]; exact ⟨5, by omega, rfl⟩
    · rw [if_neg h2] at h; exact absurd rfl h
  · rw [if_neg h1]; exact ⟨0, by omega, rfl⟩
theorem refS_0 {σ : Mem} {s : Int32} (h : refS σ s = 0) : ∃ q, q < 4 ∧ s = nI q ∧ ¬ σ 44 q = 0 := by
  unfold refS at h
  by_cases h1 : roomB 4 s = true
  · rw [if_pos h1] at h
    obtain ⟨q, hq, rfl⟩ := roomB_t (by decide) h1
    rw [cut_nI (by omega)] at h
    by_cases h2 : σ 44 q = 0
    · rw [if_pos h2] at h; exact absurd h (by decide)
    · exact ⟨q, hq, rfl, h2⟩
  · rw [if_neg h1] at h; exact absurd h (by decide)
theorem hasS_1 {L f n : Int32} {m : Nat} (hL : rg L 0 m) (h : ¬ hasS L f n = 0) : ∃ a b, f = nI a ∧ n = nI b ∧ a + b ≤ m ∧ (a + b : Int) ≤ L.toInt ∧ a < 2147483648 ∧ b < 2147483648 := by
  unfold hasS at h
  by_cases h1 : f < 0
  · rw [if_pos h1] at h; exact absurd rfl h
  rw [if_neg h1] at h
  by_cases h2 : n < 0
  · rw [if_pos h2] at h; exact absurd rfl h
  rw [if_neg h2] at h
  by_cases h3 : L - n < f
  · rw [if_pos h3] at h; exact absurd rfl h
  obtain ⟨a, ha, rfl⟩ := nat_of h1
  obtain ⟨b, hb, rfl⟩ := nat_of h2
  have hl := Int32.toInt_lt L
  unfold rg at hL
  rw [i32_lt, sub_I (by rw [nI_toI hb]; omega) (by rw [nI_toI hb]; omega), nI_toI ha, nI_toI hb] at h3
  exact ⟨a, b, rfl, rfl, by omega, by omega, ha, hb⟩
theorem RC.s0 {M σ : Mem} (hR : RC M σ) {q : Nat} (hq : q < 4) : M (61 + 2 * q) 0 = σ 44 q := (hR.2.2.2.2.2.2 q hq).1
theorem RC.s1 {M σ : Mem} (hR : RC M σ) {q : Nat} (hq : q < 4) : M (61 + 2 * q) 1 = σ 45 q := (hR.2.2.2.2.2.2 q hq).2.1
theorem RC.sn {M σ : Mem} (hR : RC M σ) {q i : Nat} (hq : q < 4) (hi : i < 40) : M (62 + 2 * q) i = σ (46 + q) i := (hR.2.2.2.2.2.2 q hq).2.2 i hi
theorem Inv.len {σ : Mem} (hI : Inv σ) {q : Nat} (hq : q < 4) : rg (σ 45 q) 0 40 := (hI.2.2.2.2.2.2.2 q hq).2.1
set_option maxRecDepth 20000 in
theorem cl_fSheet {M σ : Mem} {s : Int32} (hR : RC M σ) (hI : Inv σ) {Q : Option Value → Mem → Prop} (hQ : Q (some (.int (refS σ s))) M) : CT mX4_findingOfSheet shC 1 [.ref 0, .int s] M Q := by
  refine CT.mk [some (.ref 0), some (.int s)] (by decide) (Nat.le_of_ble_eq_true rfl) rfl rfl ?_
  refine G_iload_n (K := mX4_findingOfSheet) (i := 1) dX4_findingOfSheet_0 rfl rfl ?_
  refine G_sv (K := mX4_findingOfSheet) (cl_isSheet (x := s) ⟨rfl, rfl⟩) sX4_isSheet rfl lX4_236 dX4_findingOfSheet_1 (by decide) rfl (Nat.le_of_ble_eq_true rfl) ?_
  refine G_if_ne (K := mX4_findingOfSheet) (tgt := 10) dX4_findingOfSheet_4 (by decide) (fun c4 => ?_) (fun c4 => ?_)
  · skip
    obtain ⟨q, hq, rfl⟩ := roomB_t (by decide) (bI_1 c4)
    refine G_aload_n (K := mX4_findingOfSheet) (i := 0) dX4_findingOfSheet_10 rfl rfl ?_
    refine G_getr (K := mX4_findingOfSheet) fX4_39 dX4_findingOfSheet_11 rfl rfl ?_
    refine G_iload_n (K := mX4_findingOfSheet) (i := 1) dX4_findingOfSheet_14 rfl rfl ?_
    refine G_aald (K := mX4_findingOfSheet) q dX4_findingOfSheet_15 rfl (fun _ => ⟨_, rfl⟩) rfl (sh_r hq) (by decide) ?_
    refine G_geti (K := mX4_findingOfSheet) fX4_251 dX4_findingOfSheet_16 (sh_o hq) rfl ?_
    rw [hR.s0 hq]
    refine G_if_ne (K := mX4_findingOfSheet) (tgt := 27) dX4_findingOfSheet_19 (by decide) (fun c19 => ?_) (fun c19 => ?_)
    · skip
      refine G_iconst (K := mX4_findingOfSheet) (v := 0) dX4_findingOfSheet_27 (by decide) ?_
      exact G_irm (K := mX4_findingOfSheet) dX4_findingOfSheet_28 rfl (by unfold refS; rw [cut_nI (by omega)]; first | exact ((if_pos (bI_1 c4)).trans (if_pos c19)).symm | exact ((if_pos (bI_1 c4)).trans (if_neg c19)).symm) rfl hQ
    · skip
      refine G_ldc (K := mX4_findingOfSheet) dX4_findingOfSheet_22 kX4_230 ?_
      refine G_goto (K := mX4_findingOfSheet) (tgt := 28) dX4_findingOfSheet_24 (by decide) ?_
      exact G_irm (K := mX4_findingOfSheet) dX4_findingOfSheet_28 rfl (by unfold refS; rw [cut_nI (by omega)]; first | exact ((if_pos (bI_1 c4)).trans (if_pos c19)).symm | exact ((if_pos (bI_1 c4)).trans (if_neg c19)).symm) rfl hQ
  · skip
    refine G_ldc (K := mX4_findingOfSheet) dX4_findingOfSheet_7 kX4_52 ?_
    exact G_irm (K := mX4_findingOfSheet) dX4_findingOfSheet_9 rfl (by unfold refS; exact (if_neg (by rw [bI_0 c4]; decide)).symm) rfl hQ

set_option maxRecDepth 20000 in
theorem cl_sheet {M σ : Mem} {s b n : Int32} (hR : RC M σ) (hI : Inv σ) {Q : Option Value → Mem → Prop} (hQ : ∀ u' M', PostC (opSheet σ s b n) u' M' → Q u' M') : CT mX4_sheet shC 8 [.ref 0, .int s, .int b, .int n] M Q := by
  refine CT.mk [some (.ref 0), some (.int s), some (.int b), some (.int n)] (by decide) (Nat.le_of_ble_eq_true rfl) rfl rfl ?_
  refine G_iload_n (K := mX4_sheet) (i := 1) dX4_sheet_0 rfl rfl ?_
  refine G_sv (K := mX4_sheet) (cl_isSheet (x := s) ⟨rfl, rfl⟩) sX4_isSheet rfl lX4_236 dX4_sheet_1 (by decide) rfl (Nat.le_of_ble_eq_true rfl) ?_
  refine G_if_eq (K := mX4_sheet) (tgt := 29) dX4_sheet_4 (by decide) (fun c4 => ?_) (fun c4 => ?_)
  · skip
    refine G_aload_n (K := mX4_sheet) (i := 0) dX4_sheet_29 rfl rfl ?_
    refine G_ldc (K := mX4_sheet) dX4_sheet_30 kX4_52 ?_
    refine G_call0 (K := mX4_sheet) (Q' := PostC (tl σ 0)) (cl_tell hR (k := 0) (by omega) (fun _ _ h => h)) vX4_tell rfl lX4_53 ⟨_, _, _, rfl, rfl, rfl⟩ (by decide) (Nat.le_of_ble_eq_true rfl) dX4_sheet_32 rfl ?_
    rintro v M1 ⟨rfl, hR1⟩
    first
      | exact G_iret (st := []) (K := mX4_sheet) dX4_sheet_35 rfl (hQ _ _ (by rw [show opSheet σ s b n = _ from (by unfold opSheet; exact if_neg (by rw [bI_0 c4]; decide))]; exact ⟨rfl, hR1⟩))
      | exact G_iret (st := []) (K := mX4_sheet) dX4_sheet_35 rfl (hQ _ _ (by rw [show opSheet σ (nI q) b n = _ from (by unfold opSheet; exact (if_pos (bI_1 c4)).trans (if_neg (fun z => by rcases of_decide_eq_true z with h | h | h | h; exact c8 h; exact c14 h; exact c20 h; exact c26 h)))]; exact ⟨rfl, hR1⟩))
  · skip
    obtain ⟨q, hq, rfl⟩ := roomB_t (by decide) (bI_1 c4)
    refine G_iload_n (K := mX4_sheet) (i := 2) dX4_sheet_7 rfl rfl ?_
    refine G_if_eq (K := mX4_sheet) (tgt := 36) dX4_sheet_8 (by decide) (fun c8 => ?_) (fun c8 => ?_)
    · skip
      have hbo : bitsOK b = true := decide_eq_true (by first | exact Or.inl c8 | exact Or.inr (Or.inl c14) | exact Or.inr (Or.inr (Or.inl c20)) | exact Or.inr (Or.inr (Or.inr c26)))
      refine G_iload_n (K := mX4_sheet) (i := 3) dX4_sheet_36 rfl rfl ?_
      refine G_if_ge (K := mX4_sheet) (tgt := 47) dX4_sheet_37 (by decide) (fun c37 => ?_) (fun c37 => ?_)
      · skip
        refine G_iload_n (K := mX4_sheet) (i := 3) dX4_sheet_47 rfl rfl ?_
        refine G_bipush (K := mX4_sheet) (v := 40) dX4_sheet_48 (by decide) ?_
        refine G_icmp_le (K := mX4_sheet) (tgt := 60) dX4_sheet_50 (by decide) (fun c50 => ?_) (fun c50 => ?_)
        · skip
          refine G_aload_n (K := mX4_sheet) (i := 0) dX4_sheet_60 rfl rfl ?_
          refine G_getr (K := mX4_sheet) fX4_39 dX4_sheet_61 rfl rfl ?_
          refine G_iload_n (K := mX4_sheet) (i := 1) dX4_sheet_64 rfl rfl ?_
          refine G_aald (K := mX4_sheet) q dX4_sheet_65 rfl (fun _ => ⟨_, rfl⟩) rfl (sh_r hq) (by decide) ?_
          refine G_iload_n (K := mX4_sheet) (i := 2) dX4_sheet_66 rfl rfl ?_
          refine G_iload_n (K := mX4_sheet) (i := 3) dX4_sheet_67 rfl rfl ?_
          refine G_call0 (K := mX4_sheet) (as := [.int b, .int n]) (r := 61 + 2 * q) (Q' := fun v M2 => v = none ∧ (∀ i, i < 40 → M2 (62 + 2 * q) i = 0) ∧ ∀ c, c ≠ 62 + 2 * q → M2 c = ups (ups M (61 + 2 * q) 0 b) (61 + 2 * q) 1 (if b = 0 then 0 else n) c) (c_X1_renew hq (fun M2 h1 h2 => ⟨rfl, h1, h2⟩)) vX1_renew rfl lX4_240 ⟨1, _, _, sh_o hq, rfl, rfl⟩ (by decide) (Nat.le_of_ble_eq_true rfl) dX4_sheet_68 rfl ?_
          rintro v M2 ⟨rfl, h21, h22⟩
          have hR2 : RC M2 (newS σ q b n) := by
            obtain ⟨-, -, r3, r4, r5, r6, r7⟩ := id hR
            have eo : ∀ c, c ≠ 62 + 2 * q → c ≠ 61 + 2 * q → M2 c = M c := fun c h1 h2 => (h22 c h1).trans ((ups_cell h2).trans (ups_cell h2))
            have es : ∀ c, c ≠ 44 → c ≠ 45 → c ≠ 46 + q → newS σ q b n c = σ c := fun c h1 h2 h3 => by
              funext i
              show (if c = 46 + q ∧ i < 40 then 0 else ups (ups σ 44 q b) 45 q _ c i) = _
              rw [if_neg (fun z => h3 z.1), ups_cell h2, ups_cell h1]
            have e44 : ∀ i, newS σ q b n 44 i = ups σ 44 q b 44 i := fun i => by
              show (if 44 = 46 + q ∧ i < 40 then 0 else ups (ups σ 44 q b) 45 q _ 44 i) = _
              rw [if_neg (by omega), ups_cell (by decide)]
            have e45 : ∀ i, newS σ q b n 45 i = ups (ups σ 44 q b) 45 q (if b = 0 then 0 else n) 45 i := fun i => by
              show (if 45 = 46 + q ∧ i < 40 then 0 else ups (ups σ 44 q b) 45 q _ 45 i) = _
              rw [if_neg (by omega)]
            refine hR.other (fun c h1 h2 => eo c (by omega) (by omega)) (fun c h => es c (by omega) (by omega) (by omega)) (by rw [eo 0 (by omega) (by omega), es 40 (by omega) (by omega) (by omega)]; exact r3) (fun i hi => by rw [eo 60 (by omega) (by omega), es 41 (by omega) (by omega) (by omega)]; exact r4 i hi) (fun i hi => by rw [eo 47 (by omega) (by omega), es 42 (by omega) (by omega) (by omega)]; exact r5 i hi) (by rw [eo 46 (by omega) (by omega), es 43 (by omega) (by omega) (by omega)]; exact r6) (fun s hs => ?_)
            rw [e44, e45]
            by_cases hsq : s = q
            · subst hsq
              refine ⟨?_, ?_, fun i hi => ?_⟩
              · rw [h22 _ (by omega), ups_ne (by omega), ups_same, ups_same]
              · rw [h22 _ (by omega), ups_same, ups_same]
              · rw [h21 i hi]
                exact (if_pos ⟨rfl, hi⟩).symm
            · rw [eo (61 + 2 * s) (by omega) (by omega), eo (62 + 2 * s) (by omega) (by omega), es (46 + s) (by omega) (by omega) (by omega), ups_ne (fun z => hsq z.2), ups_ne (fun z => hsq z.2), ups_cell (by decide)]
              exact r7 s hs
          refine G_iload_n (K := mX4_sheet) (i := 2) dX4_sheet_71 rfl rfl ?_
          refine G_if_ne (K := mX4_sheet) (tgt := 79) dX4_sheet_72 (by decide) (fun c72 => ?_) (fun c72 => ?_)
          · skip
            refine G_iload_n (K := mX4_sheet) (i := 3) dX4_sheet_79 rfl rfl ?_
            exact G_iret (st := []) (K := mX4_sheet) dX4_sheet_80 rfl (hQ _ _ (by rw [show opSheet σ (nI q) b n = (if b = 0 then 0 else n, newS σ (cut (nI q)) b n) from (if_pos (bI_1 c4)).trans ((if_pos hbo).trans ((if_neg (Int32.not_lt.mpr c37)).trans (if_neg (Int32.not_lt.mpr c50)))), cut_nI (by omega)]; exact ⟨congrArg (fun z => some (Value.int z)) (by first | exact (if_pos c72).symm | exact (if_neg c72).symm), hR2⟩))
          · skip
            refine G_iconst (K := mX4_sheet) (v := 0) dX4_sheet_75 (by decide) ?_
            refine G_goto (K := mX4_sheet) (tgt := 80) dX4_sheet_76 (by decide) ?_
            exact G_iret (st := []) (K := mX4_sheet) dX4_sheet_80 rfl (hQ _ _ (by rw [show opSheet σ (nI q) b n = (if b = 0 then 0 else n, newS σ (cut (nI q)) b n) from (if_pos (bI_1 c4)).trans ((if_pos hbo).trans ((if_neg (Int32.not_lt.mpr c37)).trans (if_neg (Int32.not_lt.mpr c50)))), cut_nI (by omega)]; exact ⟨congrArg (fun z => some (Value.int z)) (by first | exact (if_pos c72).symm | exact (if_neg c72).symm), hR2⟩))
        · skip
          refine G_aload_n (K := mX4_sheet) (i := 0) dX4_sheet_53 rfl rfl ?_
          refine G_ldc (K := mX4_sheet) dX4_sheet_54 kX4_52 ?_
          refine G_call0 (K := mX4_sheet) (Q' := PostC (tl σ 0)) (cl_tell hR (k := 0) (by omega) (fun _ _ h => h)) vX4_tell rfl lX4_53 ⟨_, _, _, rfl, rfl, rfl⟩ (by decide) (Nat.le_of_ble_eq_true rfl) dX4_sheet_56 rfl ?_
          rintro v M1 ⟨rfl, hR1⟩
          exact G_iret (st := []) (K := mX4_sheet) dX4_sheet_59 rfl (hQ _ _ (by rw [show opSheet σ (nI q) b n = _ from (by unfold opSheet; exact (if_pos (bI_1 c4)).trans ((if_pos hbo).trans ((if_neg (Int32.not_lt.mpr c37)).trans (if_pos (Int32.not_le.mp c50)))))]; exact ⟨rfl, hR1⟩))
      · skip
        refine G_aload_n (K := mX4_sheet) (i := 0) dX4_sheet_40 rfl rfl ?_
        refine G_ldc (K := mX4_sheet) dX4_sheet_41 kX4_239 ?_
        refine G_call0 (K := mX4_sheet) (Q' := PostC (tl σ 6)) (cl_tell hR (k := 6) (by omega) (fun _ _ h => h)) vX4_tell rfl lX4_53 ⟨_, _, _, rfl, rfl, rfl⟩ (by decide) (Nat.le_of_ble_eq_true rfl) dX4_sheet_43 rfl ?_
        rintro v M1 ⟨rfl, hR1⟩
        exact G_iret (st := []) (K := mX4_sheet) dX4_sheet_46 rfl (hQ _ _ (by rw [show opSheet σ (nI q) b n = _ from (by unfold opSheet; exact (if_pos (bI_1 c4)).trans ((if_pos hbo).trans (if_pos (Int32.not_le.mp c37))))]; exact ⟨rfl, hR1⟩))
    · skip
      refine G_iload_n (K := mX4_sheet) (i := 2) dX4_sheet_11 rfl rfl ?_
      refine G_bipush (K := mX4_sheet) (v := 8) dX4_sheet_12 (by decide) ?_
      refine G_icmp_eq (K := mX4_sheet) (tgt := 36) dX4_sheet_14 (by decide) (fun c14 => ?_) (fun c14 => ?_)
      · skip
        have hbo : bitsOK b = true := decide_eq_true (by first | exact Or.inl c8 | exact Or.inr (Or.inl c14) | exact Or.inr (Or.inr (Or.inl c20)) | exact Or.inr (Or.inr (Or.inr c26)))
        refine G_iload_n (K := mX4_sheet) (i := 3) dX4_sheet_36 rfl rfl ?_
        refine G_if_ge (K := mX4_sheet) (tgt := 47) dX4_sheet_37 (by decide) (fun c37 => ?_) (fun c37 => ?_)
        · skip
          refine G_iload_n (K := mX4_sheet) (i := 3) dX4_sheet_47 rfl rfl ?_
          refine G_bipush (K := mX4_sheet) (v := 40) dX4_sheet_48 (by decide) ?_
          refine G_icmp_le (K := mX4_sheet) (tgt := 60) dX4_sheet_50 (by decide) (fun c50 => ?_) (fun c50 => ?_)
          · skip
            refine G_aload_n (K := mX4_sheet) (i := 0) dX4_sheet_60 rfl rfl ?_
            refine G_getr (K := mX4_sheet) fX4_39 dX4_sheet_61 rfl rfl ?_
            refine G_iload_n (K := mX4_sheet) (i := 1) dX4_sheet_64 rfl rfl ?_
            refine G_aald (K := mX4_sheet) q dX4_sheet_65 rfl (fun _ => ⟨_, rfl⟩) rfl (sh_r hq) (by decide) ?_
            refine G_iload_n (K := mX4_sheet) (i := 2) dX4_sheet_66 rfl rfl ?_
            refine G_iload_n (K := mX4_sheet) (i := 3) dX4_sheet_67 rfl rfl ?_
            refine G_call0 (K := mX4_sheet) (as := [.int b, .int n]) (r := 61 + 2 * q) (Q' := fun v M2 => v = none ∧ (∀ i, i < 40 → M2 (62 + 2 * q) i = 0) ∧ ∀ c, c ≠ 62 + 2 * q → M2 c = ups (ups M (61 + 2 * q) 0 b) (61 + 2 * q) 1 (if b = 0 then 0 else n) c) (c_X1_renew hq (fun M2 h1 h2 => ⟨rfl, h1, h2⟩)) vX1_renew rfl lX4_240 ⟨1, _, _, sh_o hq, rfl, rfl⟩ (by decide) (Nat.le_of_ble_eq_true rfl) dX4_sheet_68 rfl ?_
            rintro v M2 ⟨rfl, h21, h22⟩
            have hR2 : RC M2 (newS σ q b n) := by
              obtain ⟨-, -, r3, r4, r5, r6, r7⟩ := id hR
              have eo : ∀ c, c ≠ 62 + 2 * q → c ≠ 61 + 2 * q → M2 c = M c := fun c h1 h2 => (h22 c h1).trans ((ups_cell h2).trans (ups_cell h2))
              have es : ∀ c, c ≠ 44 → c ≠ 45 → c ≠ 46 + q → newS σ q b n c = σ c := fun c h1 h2 h3 => by
                funext i
                show (if c = 46 + q ∧ i < 40 then 0 else ups (ups σ 44 q b) 45 q _ c i) = _
                rw [if_neg (fun z => h3 z.1), ups_cell h2, ups_cell h1]
              have e44 : ∀ i, newS σ q b n 44 i = ups σ 44 q b 44 i := fun i => by
                show (if 44 = 46 + q ∧ i < 40 then 0 else ups (ups σ 44 q b) 45 q _ 44 i) = _
                rw [if_neg (by omega), ups_cell (by decide)]
              have e45 : ∀ i, newS σ q b n 45 i = ups (ups σ 44 q b) 45 q (if b = 0 then 0 else n) 45 i := fun i => by
                show (if 45 = 46 + q ∧ i < 40 then 0 else ups (ups σ 44 q b) 45 q _ 45 i) = _
                rw [if_neg (by omega)]
              refine hR.other (fun c h1 h2 => eo c (by omega) (by omega)) (fun c h => es c (by omega) (by omega) (by omega)) (by rw [eo 0 (by omega) (by omega), es 40 (by omega) (by omega) (by omega)]; exact r3) (fun i hi => by rw [eo 60 (by omega) (by omega), es 41 (by omega) (by omega) (by omega)]; exact r4 i hi) (fun i hi => by rw [eo 47 (by omega) (by omega), es 42 (by omega) (by omega) (by omega)]; exact r5 i hi) (by rw [eo 46 (by omega) (by omega), es 43 (by omega) (by omega) (by omega)]; exact r6) (fun s hs => ?_)
              rw [e44, e45]
              by_cases hsq : s = q
              · subst hsq
                refine ⟨?_, ?_, fun i hi => ?_⟩
                · rw [h22 _ (by omega), ups_ne (by omega), ups_same, ups_same]
                · rw [h22 _ (by omega), ups_same, ups_same]
                · rw [h21 i hi]
                  exact (if_pos ⟨rfl, hi⟩).symm
              · rw [eo (61 + 2 * s) (by omega) (by omega), eo (62 + 2 * s) (by omega) (by omega), es (46 + s) (by omega) (by omega) (by omega), ups_ne (fun z => hsq z.2), ups_ne (fun z => hsq z.2), ups_cell (by decide)]
                exact r7 s hs
            refine G_iload_n (K := mX4_sheet) (i := 2) dX4_sheet_71 rfl rfl ?_
            refine G_if_ne (K := mX4_sheet) (tgt := 79) dX4_sheet_72 (by decide) (fun c72 => ?_) (fun c72 => ?_)
            · skip
              refine G_iload_n (K := mX4_sheet) (i := 3) dX4_sheet_79 rfl rfl ?_
              exact G_iret (st := []) (K := mX4_sheet) dX4_sheet_80 rfl (hQ _ _ (by rw [show opSheet σ (nI q) b n = (if b = 0 then 0 else n, newS σ (cut (nI q)) b n) from (if_pos (bI_1 c4)).trans ((if_pos hbo).trans ((if_neg (Int32.not_lt.mpr c37)).trans (if_neg (Int32.not_lt.mpr c50)))), cut_nI (by omega)]; exact ⟨congrArg (fun z => some (Value.int z)) (by first | exact (if_pos c72).symm | exact (if_neg c72).symm), hR2⟩))
            · skip
              refine G_iconst (K := mX4_sheet) (v := 0) dX4_sheet_75 (by decide) ?_
              refine G_goto (K := mX4_sheet) (tgt := 80) dX4_sheet_76 (by decide) ?_
              exact G_iret (st := []) (K := mX4_sheet) dX4_sheet_80 rfl (hQ _ _ (by rw [show opSheet σ (nI q) b n = (if b = 0 then 0 else n, newS σ (cut (nI q)) b n) from (if_pos (bI_1 c4)).trans ((if_pos hbo).trans ((if_neg (Int32.not_lt.mpr c37)).trans (if_neg (Int32.not_lt.mpr c50)))), cut_nI (by omega)]; exact ⟨congrArg (fun z => some (Value.int z)) (by first | exact (if_pos c72).symm | exact (if_neg c72).symm), hR2⟩))
          · skip
            refine G_aload_n (K := mX4_sheet) (i := 0) dX4_sheet_53 rfl rfl ?_
            refine G_ldc (K := mX4_sheet) dX4_sheet_54 kX4_52 ?_
            refine G_call0 (K := mX4_sheet) (Q' := PostC (tl σ 0)) (cl_tell hR (k := 0) (by omega) (fun _ _ h => h)) vX4_tell rfl lX4_53 ⟨_, _, _, rfl, rfl, rfl⟩ (by decide) (Nat.le_of_ble_eq_true rfl) dX4_sheet_56 rfl ?_
            rintro v M1 ⟨rfl, hR1⟩
            exact G_iret (st := []) (K := mX4_sheet) dX4_sheet_59 rfl (hQ _ _ (by rw [show opSheet σ (nI q) b n = _ from (by unfold opSheet; exact (if_pos (bI_1 c4)).trans ((if_pos hbo).trans ((if_neg (Int32.not_lt.mpr c37)).trans (if_pos (Int32.not_le.mp c50)))))]; exact ⟨rfl, hR1⟩))
        · skip
          refine G_aload_n (K := mX4_sheet) (i := 0) dX4_sheet_40 rfl rfl ?_
          refine G_ldc (K := mX4_sheet) dX4_sheet_41 kX4_239 ?_
          refine G_call0 (K := mX4_sheet) (Q' := PostC (tl σ 6)) (cl_tell hR (k := 6) (by omega) (fun _ _ h => h)) vX4_tell rfl lX4_53 ⟨_, _, _, rfl, rfl, rfl⟩ (by decide) (Nat.le_of_ble_eq_true rfl) dX4_sheet_43 rfl ?_
          rintro v M1 ⟨rfl, hR1⟩
          exact G_iret (st := []) (K := mX4_sheet) dX4_sheet_46 rfl (hQ _ _ (by rw [show opSheet σ (nI q) b n = _ from (by unfold opSheet; exact (if_pos (bI_1 c4)).trans ((if_pos hbo).trans (if_pos (Int32.not_le.mp c37))))]; exact ⟨rfl, hR1⟩))
      · skip
        refine G_iload_n (K := mX4_sheet) (i := 2) dX4_sheet_17 rfl rfl ?_
        refine G_bipush (K := mX4_sheet) (v := 16) dX4_sheet_18 (by decide) ?_
        refine G_icmp_eq (K := mX4_sheet) (tgt := 36) dX4_sheet_20 (by decide) (fun c20 => ?_) (fun c20 => ?_)
        · skip
          have hbo : bitsOK b = true := decide_eq_true (by first | exact Or.inl c8 | exact Or.inr (Or.inl c14) | exact Or.inr (Or.inr (Or.inl c20)) | exact Or.inr (Or.inr (Or.inr c26)))
          refine G_iload_n (K := mX4_sheet) (i := 3) dX4_sheet_36 rfl rfl ?_
          refine G_if_ge (K := mX4_sheet) (tgt := 47) dX4_sheet_37 (by decide) (fun c37 => ?_) (fun c37 => ?_)
          · skip
            refine G_iload_n (K := mX4_sheet) (i := 3) dX4_sheet_47 rfl rfl ?_
            refine G_bipush (K := mX4_sheet) (v := 40) dX4_sheet_48 (by decide) ?_
            refine G_icmp_le (K := mX4_sheet) (tgt := 60) dX4_sheet_50 (by decide) (fun c50 => ?_) (fun c50 => ?_)
            · skip
              refine G_aload_n (K := mX4_sheet) (i := 0) dX4_sheet_60 rfl rfl ?_
              refine G_getr (K := mX4_sheet) fX4_39 dX4_sheet_61 rfl rfl ?_
              refine G_iload_n (K := mX4_sheet) (i := 1) dX4_sheet_64 rfl rfl ?_
              refine G_aald (K := mX4_sheet) q dX4_sheet_65 rfl (fun _ => ⟨_, rfl⟩) rfl (sh_r hq) (by decide) ?_
              refine G_iload_n (K := mX4_sheet) (i := 2) dX4_sheet_66 rfl rfl ?_
              refine G_iload_n (K := mX4_sheet) (i := 3) dX4_sheet_67 rfl rfl ?_
              refine G_call0 (K := mX4_sheet) (as := [.int b, .int n]) (r := 61 + 2 * q) (Q' := fun v M2 => v = none ∧ (∀ i, i < 40 → M2 (62 + 2 * q) i = 0) ∧ ∀ c, c ≠ 62 + 2 * q → M2 c = ups (ups M (61 + 2 * q) 0 b) (61 + 2 * q) 1 (if b = 0 then 0 else n) c) (c_X1_renew hq (fun M2 h1 h2 => ⟨rfl, h1, h2⟩)) vX1_renew rfl lX4_240 ⟨1, _, _, sh_o hq, rfl, rfl⟩ (by decide) (Nat.le_of_ble_eq_true rfl) dX4_sheet_68 rfl ?_
              rintro v M2 ⟨rfl, h21, h22⟩
              have hR2 : RC M2 (newS σ q b n) := by
                obtain ⟨-, -, r3, r4, r5, r6, r7⟩ := id hR
                have eo : ∀ c, c ≠ 62 + 2 * q → c ≠ 61 + 2 * q → M2 c = M c := fun c h1 h2 => (h22 c h1).trans ((ups_cell h2).trans (ups_cell h2))
                have es : ∀ c, c ≠ 44 → c ≠ 45 → c ≠ 46 + q → newS σ q b n c = σ c := fun c h1 h2 h3 => by
                  funext i
                  show (if c = 46 + q ∧ i < 40 then 0 else ups (ups σ 44 q b) 45 q _ c i) = _
                  rw [if_neg (fun z => h3 z.1), ups_cell h2, ups_cell h1]
                have e44 : ∀ i, newS σ q b n 44 i = ups σ 44 q b 44 i := fun i => by
                  show (if 44 = 46 + q ∧ i < 40 then 0 else ups (ups σ 44 q b) 45 q _ 44 i) = _
                  rw [if_neg (by omega), ups_cell (by decide)]
                have e45 : ∀ i, newS σ q b n 45 i = ups (ups σ 44 q b) 45 q (if b = 0 then 0 else n) 45 i := fun i => by
                  show (if 45 = 46 + q ∧ i < 40 then 0 else ups (ups σ 44 q b) 45 q _ 45 i) = _
                  rw [if_neg (by omega)]
                refine hR.other (fun c h1 h2 => eo c (by omega) (by omega)) (fun c h => es c (by omega) (by omega) (by omega)) (by rw [eo 0 (by omega) (by omega), es 40 (by omega) (by omega) (by omega)]; exact r3) (fun i hi => by rw [eo 60 (by omega) (by omega), es 41 (by omega) (by omega) (by omega)]; exact r4 i hi) (fun i hi => by rw [eo 47 (by omega) (by omega), es 42 (by omega) (by omega) (by omega)]; exact r5 i hi) (by rw [eo 46 (by omega) (by omega), es 43 (by omega) (by omega) (by omega)]; exact r6) (fun s hs => ?_)
                rw [e44, e45]
                by_cases hsq : s = q
                · subst hsq
                  refine ⟨?_, ?_, fun i hi => ?_⟩
                  · rw [h22 _ (by omega), ups_ne (by omega), ups_same, ups_same]
                  · rw [h22 _ (by omega), ups_same, ups_same]
                  · rw [h21 i hi]
                    exact (if_pos ⟨rfl, hi⟩).symm
                · rw [eo (61 + 2 * s) (by omega) (by omega), eo (62 + 2 * s) (by omega) (by omega), es (46 + s) (by omega) (by omega) (by omega), ups_ne (fun z => hsq z.2), ups_ne (fun z => hsq z.2), ups_cell (by decide)]
                  exact r7 s hs
              refine G_iload_n (K := mX4_sheet) (i := 2) dX4_sheet_71 rfl rfl ?_
              refine G_if_ne (K := mX4_sheet) (tgt := 79) dX4_sheet_72 (by decide) (fun c72 => ?_) (fun c72 => ?_)
              · skip
                refine G_iload_n (K := mX4_sheet) (i := 3) dX4_sheet_79 rfl rfl ?_
                exact G_iret (st := []) (K := mX4_sheet) dX4_sheet_80 rfl (hQ _ _ (by rw [show opSheet σ (nI q) b n = (if b = 0 then 0 else n, newS σ (cut (nI q)) b n) from (if_pos (bI_1 c4)).trans ((if_pos hbo).trans ((if_neg (Int32.not_lt.mpr c37)).trans (if_neg (Int32.not_lt.mpr c50)))), cut_nI (by omega)]; exact ⟨congrArg (fun z => some (Value.int z)) (by first | exact (if_pos c72).symm | exact (if_neg c72).symm), hR2⟩))
              · skip
                refine G_iconst (K := mX4_sheet) (v := 0) dX4_sheet_75 (by decide) ?_
                refine G_goto (K := mX4_sheet) (tgt := 80) dX4_sheet_76 (by decide) ?_
                exact G_iret (st := []) (K := mX4_sheet) dX4_sheet_80 rfl (hQ _ _ (by rw [show opSheet σ (nI q) b n = (if b = 0 then 0 else n, newS σ (cut (nI q)) b n) from (if_pos (bI_1 c4)).trans ((if_pos hbo).trans ((if_neg (Int32.not_lt.mpr c37)).trans (if_neg (Int32.not_lt.mpr c50)))), cut_nI (by omega)]; exact ⟨congrArg (fun z => some (Value.int z)) (by first | exact (if_pos c72).symm | exact (if_neg c72).symm), hR2⟩))
            · skip
              refine G_aload_n (K := mX4_sheet) (i := 0) dX4_sheet_53 rfl rfl ?_
              refine G_ldc (K := mX4_sheet) dX4_sheet_54 kX4_52 ?_
              refine G_call0 (K := mX4_sheet) (Q' := PostC (tl σ 0)) (cl_tell hR (k := 0) (by omega) (fun _ _ h => h)) vX4_tell rfl lX4_53 ⟨_, _, _, rfl, rfl, rfl⟩ (by decide) (Nat.le_of_ble_eq_true rfl) dX4_sheet_56 rfl ?_
              rintro v M1 ⟨rfl, hR1⟩
              exact G_iret (st := []) (K := mX4_sheet) dX4_sheet_59 rfl (hQ _ _ (by rw [show opSheet σ (nI q) b n = _ from (by unfold opSheet; exact (if_pos (bI_1 c4)).trans ((if_pos hbo).trans ((if_neg (Int32.not_lt.mpr c37)).trans (if_pos (Int32.not_le.mp c50)))))]; exact ⟨rfl, hR1⟩))
          · skip
            refine G_aload_n (K := mX4_sheet) (i := 0) dX4_sheet_40 rfl rfl ?_
            refine G_ldc (K := mX4_sheet) dX4_sheet_41 kX4_239 ?_
            refine G_call0 (K := mX4_sheet) (Q' := PostC (tl σ 6)) (cl_tell hR (k := 6) (by omega) (fun _ _ h => h)) vX4_tell rfl lX4_53 ⟨_, _, _, rfl, rfl, rfl⟩ (by decide) (Nat.le_of_ble_eq_true rfl) dX4_sheet_43 rfl ?_
            rintro v M1 ⟨rfl, hR1⟩
            exact G_iret (st := []) (K := mX4_sheet) dX4_sheet_46 rfl (hQ _ _ (by rw [show opSheet σ (nI q) b n = _ from (by unfold opSheet; exact (if_pos (bI_1 c4)).trans ((if_pos hbo).trans (if_pos (Int32.not_le.mp c37))))]; exact ⟨rfl, hR1⟩))
        · skip
          refine G_iload_n (K := mX4_sheet) (i := 2) dX4_sheet_23 rfl rfl ?_
          refine G_bipush (K := mX4_sheet) (v := 32) dX4_sheet_24 (by decide) ?_
          refine G_icmp_eq (K := mX4_sheet) (tgt := 36) dX4_sheet_26 (by decide) (fun c26 => ?_) (fun c26 => ?_)
          · skip
            have hbo : bitsOK b = true := decide_eq_true (by first | exact Or.inl c8 | exact Or.inr (Or.inl c14) | exact Or.inr (Or.inr (Or.inl c20)) | exact Or.inr (Or.inr (Or.inr c26)))
            refine G_iload_n (K := mX4_sheet) (i := 3) dX4_sheet_36 rfl rfl ?_
            refine G_if_ge (K := mX4_sheet) (tgt := 47) dX4_sheet_37 (by decide) (fun c37 => ?_) (fun c37 => ?_)
            · skip
              refine G_iload_n (K := mX4_sheet) (i := 3) dX4_sheet_47 rfl rfl ?_
              refine G_bipush (K := mX4_sheet) (v := 40) dX4_sheet_48 (by decide) ?_
              refine G_icmp_le (K := mX4_sheet) (tgt := 60) dX4_sheet_50 (by decide) (fun c50 => ?_) (fun c50 => ?_)
              · skip
                refine G_aload_n (K := mX4_sheet) (i := 0) dX4_sheet_60 rfl rfl ?_
                refine G_getr (K := mX4_sheet) fX4_39 dX4_sheet_61 rfl rfl ?_
                refine G_iload_n (K := mX4_sheet) (i := 1) dX4_sheet_64 rfl rfl ?_
                refine G_aald (K := mX4_sheet) q dX4_sheet_65 rfl (fun _ => ⟨_, rfl⟩) rfl (sh_r hq) (by decide) ?_
                refine G_iload_n (K := mX4_sheet) (i := 2) dX4_sheet_66 rfl rfl ?_
                refine G_iload_n (K := mX4_sheet) (i := 3) dX4_sheet_67 rfl rfl ?_
                refine G_call0 (K := mX4_sheet) (as := [.int b, .int n]) (r := 61 + 2 * q) (Q' := fun v M2 => v = none ∧ (∀ i, i < 40 → M2 (62 + 2 * q) i = 0) ∧ ∀ c, c ≠ 62 + 2 * q → M2 c = ups (ups M (61 + 2 * q) 0 b) (61 + 2 * q) 1 (if b = 0 then 0 else n) c) (c_X1_renew hq (fun M2 h1 h2 => ⟨rfl, h1, h2⟩)) vX1_renew rfl lX4_240 ⟨1, _, _, sh_o hq, rfl, rfl⟩ (by decide) (Nat.le_of_ble_eq_true rfl) dX4_sheet_68 rfl ?_
                rintro v M2 ⟨rfl, h21, h22⟩
                have hR2 : RC M2 (newS σ q b n) := by
                  obtain ⟨-, -, r3, r4, r5, r6, r7⟩ := id hR
                  have eo : ∀ c, c ≠ 62 + 2 * q → c ≠ 61 + 2 * q → M2 c = M c := fun c h1 h2 => (h22 c h1).trans ((ups_cell h2).trans (ups_cell h2))
                  have es : ∀ c, c ≠ 44 → c ≠ 45 → c ≠ 46 + q → newS σ q b n c = σ c := fun c h1 h2 h3 => by
                    funext i
                    show (if c = 46 + q ∧ i < 40 then 0 else ups (ups σ 44 q b) 45 q _ c i) = _
                    rw [if_neg (fun z => h3 z.1), ups_cell h2, ups_cell h1]
                  have e44 : ∀ i, newS σ q b n 44 i = ups σ 44 q b 44 i := fun i => by
                    show (if 44 = 46 + q ∧ i < 40 then 0 else ups (ups σ 44 q b) 45 q _ 44 i) = _
                    rw [if_neg (by omega), ups_cell (by decide)]
                  have e45 : ∀ i, newS σ q b n 45 i = ups (ups σ 44 q b) 45 q (if b = 0 then 0 else n) 45 i := fun i => by
                    show (if 45 = 46 + q ∧ i < 40 then 0 else ups (ups σ 44 q b) 45 q _ 45 i) = _
                    rw [if_neg (by omega)]
                  refine hR.other (fun c h1 h2 => eo c (by omega) (by omega)) (fun c h => es c (by omega) (by omega) (by omega)) (by rw [eo 0 (by omega) (by omega), es 40 (by omega) (by omega) (by omega)]; exact r3) (fun i hi => by rw [eo 60 (by omega) (by omega), es 41 (by omega) (by omega) (by omega)]; exact r4 i hi) (fun i hi => by rw [eo 47 (by omega) (by omega), es 42 (by omega) (by omega) (by omega)]; exact r5 i hi) (by rw [eo 46 (by omega) (by omega), es 43 (by omega) (by omega) (by omega)]; exact r6) (fun s hs => ?_)
                  rw [e44, e45]
                  by_cases hsq : s = q
                  · subst hsq
                    refine ⟨?_, ?_, fun i hi => ?_⟩
                    · rw [h22 _ (by omega), ups_ne (by omega), ups_same, ups_same]
                    · rw [h22 _ (by omega), ups_same, ups_same]
                    · rw [h21 i hi]
                      exact (if_pos ⟨rfl, hi⟩).symm
                  · rw [eo (61 + 2 * s) (by omega) (by omega), eo (62 + 2 * s) (by omega) (by omega), es (46 + s) (by omega) (by omega) (by omega), ups_ne (fun z => hsq z.2), ups_ne (fun z => hsq z.2), ups_cell (by decide)]
                    exact r7 s hs
                refine G_iload_n (K := mX4_sheet) (i := 2) dX4_sheet_71 rfl rfl ?_
                refine G_if_ne (K := mX4_sheet) (tgt := 79) dX4_sheet_72 (by decide) (fun c72 => ?_) (fun c72 => ?_)
                · skip
                  refine G_iload_n (K := mX4_sheet) (i := 3) dX4_sheet_79 rfl rfl ?_
                  exact G_iret (st := []) (K := mX4_sheet) dX4_sheet_80 rfl (hQ _ _ (by rw [show opSheet σ (nI q) b n = (if b = 0 then 0 else n, newS σ (cut (nI q)) b n) from (if_pos (bI_1 c4)).trans ((if_pos hbo).trans ((if_neg (Int32.not_lt.mpr c37)).trans (if_neg (Int32.not_lt.mpr c50)))), cut_nI (by omega)]; exact ⟨congrArg (fun z => some (Value.int z)) (by first | exact (if_pos c72).symm | exact (if_neg c72).symm), hR2⟩))
                · skip
                  refine G_iconst (K := mX4_sheet) (v := 0) dX4_sheet_75 (by decide) ?_
                  refine G_goto (K := mX4_sheet) (tgt := 80) dX4_sheet_76 (by decide) ?_
                  exact G_iret (st := []) (K := mX4_sheet) dX4_sheet_80 rfl (hQ _ _ (by rw [show opSheet σ (nI q) b n = (if b = 0 then 0 else n, newS σ (cut (nI q)) b n) from (if_pos (bI_1 c4)).trans ((if_pos hbo).trans ((if_neg (Int32.not_lt.mpr c37)).trans (if_neg (Int32.not_lt.mpr c50)))), cut_nI (by omega)]; exact ⟨congrArg (fun z => some (Value.int z)) (by first | exact (if_pos c72).symm | exact (if_neg c72).symm), hR2⟩))
              · skip
                refine G_aload_n (K := mX4_sheet) (i := 0) dX4_sheet_53 rfl rfl ?_
                refine G_ldc (K := mX4_sheet) dX4_sheet_54 kX4_52 ?_
                refine G_call0 (K := mX4_sheet) (Q' := PostC (tl σ 0)) (cl_tell hR (k := 0) (by omega) (fun _ _ h => h)) vX4_tell rfl lX4_53 ⟨_, _, _, rfl, rfl, rfl⟩ (by decide) (Nat.le_of_ble_eq_true rfl) dX4_sheet_56 rfl ?_
                rintro v M1 ⟨rfl, hR1⟩
                exact G_iret (st := []) (K := mX4_sheet) dX4_sheet_59 rfl (hQ _ _ (by rw [show opSheet σ (nI q) b n = _ from (by unfold opSheet; exact (if_pos (bI_1 c4)).trans ((if_pos hbo).trans ((if_neg (Int32.not_lt.mpr c37)).trans (if_pos (Int32.not_le.mp c50)))))]; exact ⟨rfl, hR1⟩))
            · skip
              refine G_aload_n (K := mX4_sheet) (i := 0) dX4_sheet_40 rfl rfl ?_
              refine G_ldc (K := mX4_sheet) dX4_sheet_41 kX4_239 ?_
              refine G_call0 (K := mX4_sheet) (Q' := PostC (tl σ 6)) (cl_tell hR (k := 6) (by omega) (fun _ _ h => h)) vX4_tell rfl lX4_53 ⟨_, _, _, rfl, rfl, rfl⟩ (by decide) (Nat.le_of_ble_eq_true rfl) dX4_sheet_43 rfl ?_
              rintro v M1 ⟨rfl, hR1⟩
              exact G_iret (st := []) (K := mX4_sheet) dX4_sheet_46 rfl (hQ _ _ (by rw [show opSheet σ (nI q) b n = _ from (by unfold opSheet; exact (if_pos (bI_1 c4)).trans ((if_pos hbo).trans (if_pos (Int32.not_le.mp c37))))]; exact ⟨rfl, hR1⟩))
          · skip
            refine G_aload_n (K := mX4_sheet) (i := 0) dX4_sheet_29 rfl rfl ?_
            refine G_ldc (K := mX4_sheet) dX4_sheet_30 kX4_52 ?_
            refine G_call0 (K := mX4_sheet) (Q' := PostC (tl σ 0)) (cl_tell hR (k := 0) (by omega) (fun _ _ h => h)) vX4_tell rfl lX4_53 ⟨_, _, _, rfl, rfl, rfl⟩ (by decide) (Nat.le_of_ble_eq_true rfl) dX4_sheet_32 rfl ?_
            rintro v M1 ⟨rfl, hR1⟩
            first
              | exact G_iret (st := []) (K := mX4_sheet) dX4_sheet_35 rfl (hQ _ _ (by rw [show opSheet σ s b n = _ from (by unfold opSheet; exact if_neg (by rw [bI_0 c4]; decide))]; exact ⟨rfl, hR1⟩))
              | exact G_iret (st := []) (K := mX4_sheet) dX4_sheet_35 rfl (hQ _ _ (by rw [show opSheet σ (nI q) b n = _ from (by unfold opSheet; exact (if_pos (bI_1 c4)).trans (if_neg (fun z => by rcases of_decide_eq_true z with h | h | h | h; exact c8 h; exact c14 h; exact c20 h; exact c26 h)))]; exact ⟨rfl, hR1⟩))
