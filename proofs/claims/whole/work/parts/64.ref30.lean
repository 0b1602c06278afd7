def facN : Nat → Nat
  | 0 => 1
  | n + 1 => (n + 1) * facN n
/-- the place-th member of a set, places counted from b, from 8 - f on -/
def memN (m p : Nat) : Nat → Nat → Nat
  | 0, _ => 0
  | f + 1, b => if m.testBit (8 - (f + 1)) = true then (if b = p then 8 - (f + 1) else memN m p f (b + 1)) else memN m p f b
def clrN (m a : Nat) : Nat := if m.testBit a = true then m - 2 ^ a else m
def rsN (k o : Nat) : Nat → Nat
  | 0 => o
  | r + 1 => rsN k o r / (k - r)
def lfN (k o : Nat) : Nat → Nat
  | 0 => 2 ^ k - 1
  | r + 1 => clrN (lfN k o r) (memN (lfN k o r) (rsN k o r % (k - r)) 8 0)
def pcF (k o r : Nat) : Nat := memN (lfN k o r) (rsN k o r % (k - r)) 8 0
def pcL (k o : Nat) : List Nat := (List.range k).map (pcF k o)
def dF (h : Mem) (k : Nat) (f : Nat → Nat) : Mem := fun c i => if c = 1 ∧ i < k then h 1 (f i) else h c i
def dL (h : Mem) (k : Nat) (l : List Nat) : Mem := dF h k (fun i => l.getD i 0)
theorem mask_clr : ∀ m : Fin 32, ∀ a : Fin 8, nI m.1 &&& ((1 <<< (nI a.1 &&& 31)) ^^^ (-1)) = nI (clrN m.1 a.1) := by decide +kernel
theorem pc_ok : ∀ k : Fin 6, 2 ≤ k.1 → ∀ o : Fin 120, o.1 < facN k.1 → ∀ r : Fin 5, r.1 < k.1 → pcF k.1 o.1 r.1 < k.1 ∧ lfN k.1 o.1 r.1 < 32 := by decide +kernel
theorem fac_le {k : Nat} (h : 2 ≤ k) (h5 : k ≤ 5) : facN k ≤ 120 := by
  have h4 : k = 2 ∨ k = 3 ∨ k = 4 ∨ k = 5 := by omega
  rcases h4 with rfl | rfl | rfl | rfl <;> decide
theorem pcF_ok {k o r : Nat} (h : 2 ≤ k) (h5 : k ≤ 5) (ho : o < facN k) (hr : r < k) : pcF k o r < k ∧ lfN k o r < 32 :=
  pc_ok ⟨k, by omega⟩ h ⟨o, by have := fac_le h h5; omega⟩ ho ⟨r, by omega⟩ hr
theorem rsN_le {k o : Nat} : ∀ r, rsN k o r ≤ o
  | 0 => Nat.le_refl _
  | r + 1 => Nat.le_trans (Nat.div_le_self _ _) (rsN_le r)
theorem pcL_at {k o i : Nat} (hi : i < k) : (pcL k o).getD i 0 = pcF k o i := by
  unfold pcL
  rw [List.getD_eq_getElem?_getD, List.getElem?_map, List.getElem?_range hi]
  rfl
theorem dF_HR {M h : Mem} {n k : Nat} {f : Nat → Nat} (H : HR M h n) (hkn : k ≤ n) (hf : ∀ i, i < k → f i < n) : HR (dF M k f) (dF h k f) n :=
  ⟨fun i hi => (if_neg (by omega)).trans ((H.1 i hi).trans (if_neg (by omega)).symm), fun j hj => (if_neg (by omega)).trans ((H.2.1 j hj).trans (if_neg (by omega)).symm), fun c h1 h2 i hi => by
    by_cases h : c = 1 ∧ i < k
    · exact (if_pos h).trans ((H.f 1 (by omega) (by omega) (hf i h.2)).trans (if_pos h).symm)
    · exact (if_neg h).trans ((H.f c h1 h2 hi).trans (if_neg h).symm)⟩
theorem dF_c {h : Mem} {k : Nat} {f : Nat → Nat} {c : Nat} (hc : c ≠ 1) : dF h k f c = h c := by
  funext i
  exact if_neg (fun z => hc z.1)
def ordP (σ : Mem) (a k : Nat) (l : List Nat) : Bool := decide (coldB (hoursH (nOf σ) a (dL σ k l)) (nOf σ) = 0)
def opOrders (σ : Mem) (k a : Int32) : Int32 × Mem := if k < 2 then tl σ 0 else if 5 < k then tl σ 0 else if σ 0 0 < k then tl σ 0 else if refH σ a 24 = 0 then (cntN (fun o => ordP σ (cut a) (cut k) (pcL (cut k) o)) (facN (cut k)), σ) else tlI σ (refH σ a 24)
set_option maxRecDepth 20000 in
theorem cl_memberOf {M : Mem} {m p : Nat} (hm : m < 32) (hp : p < 8) {Q : Option Value → Mem → Prop} (hQ : Q (some (.int (nI (memN m p 8 0)))) M) : CT mX4_memberOf shC 0 [.int (nI m), .int (nI p)] M Q := by
  refine CT.mk [some (.int (nI m)), some (.int (nI p)), none, none] (by decide) (Nat.le_of_ble_eq_true rfl) rfl rfl ?_
  refine G_iconst (K := mX4_memberOf) (v := 0) dX4_memberOf_0 (by decide) ?_
  refine G_istore_n (K := mX4_memberOf) (i := 2) dX4_memberOf_1 rfl (by decide) ?_
  refine G_iconst (K := mX4_memberOf) (v := 0) dX4_memberOf_2 (by decide) ?_
  refine G_istore_n (K := mX4_memberOf) (i := 3) dX4_memberOf_3 rfl (by decide) ?_
  have loop4 : ∀ i, i ≤ 8 → ∀ b : Nat, b ≤ i → memN m p (8 - i) b = memN m p 8 0 → G mX4_memberOf shC 0 Q 4 [some (.int (nI m)), some (.int (nI p)), some (.int (nI b)), some (.int (nI i))] [] M := by
    refine upto 8 (fun i hi ih => ?_)
    intro b hbi hmb
    refine G_iload_n (K := mX4_memberOf) (i := 3) dX4_memberOf_4 rfl rfl ?_
    refine G_bipush (K := mX4_memberOf) (v := 8) dX4_memberOf_5 (by decide) ?_
    refine G_icmp_ge (K := mX4_memberOf) (tgt := 35) dX4_memberOf_7 (by decide) (fun c7 => ?_) (fun c7 => ?_)
    · skip
      rw [show (8 : Int32) = nI 8 from rfl, le_nn (by omega) (by omega)] at c7
      have hi8 : i = 8 := by omega
      subst hi8
      refine G_iconst (K := mX4_memberOf) (v := 0) dX4_memberOf_35 (by decide) ?_
      exact G_irm (K := mX4_memberOf) dX4_memberOf_36 rfl (congrArg nI hmb) rfl hQ
    · skip
      rw [show (8 : Int32) = nI 8 from rfl, le_nn (by omega) (by omega)] at c7
      obtain ⟨f, hf⟩ : ∃ f, 8 - i = f + 1 := ⟨8 - i - 1, by omega⟩
      have em : memN m p (8 - i) b = if m.testBit i = true then (if b = p then i else memN m p f (b + 1)) else memN m p f b := by
        rw [hf, show i = 8 - (f + 1) by omega]
        rfl
      rw [em] at hmb
      have ef : f = 8 - (i + 1) := by omega
      rw [ef] at hmb
      refine G_iload_n (K := mX4_memberOf) (i := 0) dX4_memberOf_10 rfl rfl ?_
      refine G_iload_n (K := mX4_memberOf) (i := 3) dX4_memberOf_11 rfl rfl ?_
      refine G_ishr (K := mX4_memberOf) dX4_memberOf_12 ?_
      refine G_iconst (K := mX4_memberOf) (v := 1) dX4_memberOf_13 (by decide) ?_
      refine G_iand (K := mX4_memberOf) dX4_memberOf_14 ?_
      refine G_iconst (K := mX4_memberOf) (v := 1) dX4_memberOf_15 (by decide) ?_
      refine G_icmp_ne (K := mX4_memberOf) (tgt := 29) dX4_memberOf_16 (by decide) (fun c16 => ?_) (fun c16 => ?_)
      · skip
        have hB : ¬ m.testBit i = true := fun z => c16 ((mask_has ⟨m, by omega⟩ ⟨i, by omega⟩).mpr z)
        rw [if_neg hB] at hmb
        refine G_iincN (K := mX4_memberOf) dX4_memberOf_29 (by decide) rfl ?_
        refine G_goto (K := mX4_memberOf) (tgt := 4) dX4_memberOf_32 (by decide) ?_
        exact ih (i + 1) (by omega) (by omega) b (by omega) hmb
      · skip
        have hB : m.testBit i = true := (mask_has ⟨m, by omega⟩ ⟨i, by omega⟩).mp c16
        rw [if_pos hB] at hmb
        refine G_iload_n (K := mX4_memberOf) (i := 2) dX4_memberOf_19 rfl rfl ?_
        refine G_iload_n (K := mX4_memberOf) (i := 1) dX4_memberOf_20 rfl rfl ?_
        refine G_icmp_ne (K := mX4_memberOf) (tgt := 26) dX4_memberOf_21 (by decide) (fun c21 => ?_) (fun c21 => ?_)
        · skip
          have hbp : ¬ b = p := fun z => c21 (by rw [z])
          rw [if_neg hbp] at hmb
          refine G_iincN (K := mX4_memberOf) dX4_memberOf_26 (by decide) rfl ?_
          refine G_iincN (K := mX4_memberOf) dX4_memberOf_29 (by decide) rfl ?_
          refine G_goto (K := mX4_memberOf) (tgt := 4) dX4_memberOf_32 (by decide) ?_
          exact ih (i + 1) (by omega) (by omega) (b + 1) (by omega) hmb
        · skip
          have hbp : b = p := (nI_eqI (by omega) (by omega)).mp c21
          rw [if_pos hbp] at hmb
          refine G_iload_n (K := mX4_memberOf) (i := 3) dX4_memberOf_24 rfl rfl ?_
          exact G_irm (K := mX4_memberOf) dX4_memberOf_25 rfl (congrArg nI hmb) rfl hQ
  exact loop4 0 (by omega) 0 (by omega) rfl

theorem nI_subI {a b : Nat} (h : b ≤ a) (ha : a < 2147483648) : nI a - nI b = nI (a - b) := by
  apply i32_ext
  rw [sub_I (by rw [nI_toI (by omega), nI_toI (by omega)]; omega) (by rw [nI_toI (by omega), nI_toI (by omega)]; omega), nI_toI (by omega), nI_toI (by omega), nI_toI (by omega)]
  omega
set_option maxRecDepth 20000 in
theorem cl_dealKinds {M : Mem} {k o : Nat} (h2 : 2 ≤ k) (h5 : k ≤ 5) (ho : o < facN k) {Q : Option Value → Mem → Prop} (hQ : ∀ M2 : Mem, (∀ c, c ≠ 13 → M2 c = M c) → (∀ i, i < k → M2 13 i = M 2 (pcF k o i)) → (∀ i, k ≤ i → M2 13 i = M 13 i) → Q none M2) : CT mX4_dealKinds shC 1 [.ref 0, .int (nI k), .int (nI o)] M Q := by
  refine CT.mk [some (.ref 0), some (.int (nI k)), some (.int (nI o)), none, none, none, none, none] (by decide) (Nat.le_of_ble_eq_true rfl) rfl rfl ?_
  have hfac := fac_le h2 h5
  refine G_iconst (K := mX4_dealKinds) (v := 1) dX4_dealKinds_0 (by decide) ?_
  refine G_iload_n (K := mX4_dealKinds) (i := 1) dX4_dealKinds_1 rfl rfl ?_
  refine G_ishl (K := mX4_dealKinds) dX4_dealKinds_2 ?_
  refine G_iconst (K := mX4_dealKinds) (v := 1) dX4_dealKinds_3 (by decide) ?_
  refine G_isub (K := mX4_dealKinds) dX4_dealKinds_4 ?_
  rw [shl_n (by omega), show nI (2 ^ k) - 1 = nI (2 ^ k - 1) from nI_subI (a := 2 ^ k) (b := 1) (Nat.one_le_two_pow) (by have := pow_n (n := k) (by omega); omega)]
  refine G_istore_n (K := mX4_dealKinds) (i := 3) dX4_dealKinds_5 rfl (by decide) ?_
  refine G_iload_n (K := mX4_dealKinds) (i := 2) dX4_dealKinds_6 rfl rfl ?_
  refine G_istore (K := mX4_dealKinds) dX4_dealKinds_7 (by decide) ?_
  refine G_iconst (K := mX4_dealKinds) (v := 0) dX4_dealKinds_9 (by decide) ?_
  refine G_istore (K := mX4_dealKinds) dX4_dealKinds_10 (by decide) ?_
  have loop12 : ∀ r, r ≤ k → ∀ (M3 : Mem) (x6 x7 : Option Value), (∀ c, c ≠ 13 → M3 c = M c) → (∀ i, i < r → M3 13 i = M 2 (pcF k o i)) → (∀ i, r ≤ i → M3 13 i = M 13 i) → G mX4_dealKinds shC 1 Q 12 [some (.ref 0), some (.int (nI k)), some (.int (nI o)), some (.int (nI (lfN k o r))), some (.int (nI (rsN k o r))), some (.int (nI r)), x6, x7] [] M3 := by
    refine upto k (fun r hr ih => ?_)
    intro M3 x6 x7 h3c h13 h13o
    refine G_iload (K := mX4_dealKinds) dX4_dealKinds_12 rfl ?_
    refine G_iload_n (K := mX4_dealKinds) (i := 1) dX4_dealKinds_14 rfl rfl ?_
    refine G_icmp_ge (K := mX4_dealKinds) (tgt := 77) dX4_dealKinds_15 (by decide) (fun c15 => ?_) (fun c15 => ?_)
    · skip
      rw [le_nn (by omega) (by omega)] at c15
      have hrk : r = k := by omega
      subst hrk
      exact G_vrm (K := mX4_dealKinds) dX4_dealKinds_77 rfl rfl (hQ M3 h3c h13 h13o)
    · skip
      rw [le_nn (by omega) (by omega)] at c15
      have hrk : r < k := by omega
      have hpc := pcF_ok h2 h5 ho hrk
      have hrs := rsN_le (k := k) (o := o) r
      refine G_iload_n (K := mX4_dealKinds) (i := 1) dX4_dealKinds_18 rfl rfl ?_
      refine G_iload (K := mX4_dealKinds) dX4_dealKinds_19 rfl ?_
      refine G_isub (K := mX4_dealKinds) dX4_dealKinds_21 ?_
      rw [nI_subI (by omega) (by omega)]
      refine G_istore (K := mX4_dealKinds) dX4_dealKinds_22 (by decide) ?_
      refine G_iload_n (K := mX4_dealKinds) (i := 3) dX4_dealKinds_24 rfl rfl ?_
      refine G_iload (K := mX4_dealKinds) dX4_dealKinds_25 rfl ?_
      refine G_iload (K := mX4_dealKinds) dX4_dealKinds_27 rfl ?_
      refine G_irem (K := mX4_dealKinds) dX4_dealKinds_29 (nI_z (by omega) (by omega)) ?_
      rw [show nI (rsN k o r) - nI (rsN k o r) / nI (k - r) * nI (k - r) = nI (rsN k o r % (k - r)) from nI_rem (by omega) (by omega) (by omega)]
      refine G_sv (K := mX4_dealKinds) (cl_memberOf (M := M3) (m := lfN k o r) (p := rsN k o r % (k - r)) hpc.2 (by have := Nat.mod_lt (rsN k o r) (show 0 < k - r by omega); omega) ⟨rfl, rfl⟩) sX4_memberOf rfl lX4_189 dX4_dealKinds_30 (by decide) rfl (Nat.le_of_ble_eq_true rfl) ?_
      rw [show memN (lfN k o r) (rsN k o r % (k - r)) 8 0 = pcF k o r from rfl]
      refine G_istore (K := mX4_dealKinds) dX4_dealKinds_33 (by decide) ?_
      refine G_iload (K := mX4_dealKinds) dX4_dealKinds_35 rfl ?_
      refine G_iload (K := mX4_dealKinds) dX4_dealKinds_37 rfl ?_
      refine G_idiv (K := mX4_dealKinds) dX4_dealKinds_39 (nI_z (by omega) (by omega)) ?_
      rw [nI_div (by omega) (by omega) (by omega), show rsN k o r / (k - r) = rsN k o (r + 1) from rfl]
      refine G_istore (K := mX4_dealKinds) dX4_dealKinds_40 (by decide) ?_
      refine G_iload_n (K := mX4_dealKinds) (i := 3) dX4_dealKinds_42 rfl rfl ?_
      refine G_iconst (K := mX4_dealKinds) (v := 1) dX4_dealKinds_43 (by decide) ?_
      refine G_iload (K := mX4_dealKinds) dX4_dealKinds_44 rfl ?_
      refine G_ishl (K := mX4_dealKinds) dX4_dealKinds_46 ?_
      refine G_iconst (K := mX4_dealKinds) (v := -1) dX4_dealKinds_47 (by decide) ?_
      refine G_ixor (K := mX4_dealKinds) dX4_dealKinds_48 ?_
      refine G_iand (K := mX4_dealKinds) dX4_dealKinds_49 ?_
      rw [mask_clr ⟨lfN k o r, hpc.2⟩ ⟨pcF k o r, by omega⟩, show clrN (lfN k o r) (pcF k o r) = lfN k o (r + 1) from rfl]
      refine G_istore_n (K := mX4_dealKinds) (i := 3) dX4_dealKinds_50 rfl (by decide) ?_
      refine G_aload_n (K := mX4_dealKinds) (i := 0) dX4_dealKinds_51 rfl rfl ?_
      refine G_getr (K := mX4_dealKinds) fX4_16 dX4_dealKinds_52 rfl rfl ?_
      refine G_getr (K := mX4_dealKinds) fX4_192 dX4_dealKinds_55 rfl rfl ?_
      refine G_iload (K := mX4_dealKinds) dX4_dealKinds_58 rfl ?_
      refine G_aload_n (K := mX4_dealKinds) (i := 0) dX4_dealKinds_60 rfl rfl ?_
      refine G_getr (K := mX4_dealKinds) fX4_12 dX4_dealKinds_61 rfl rfl ?_
      refine G_getr (K := mX4_dealKinds) fX4_192 dX4_dealKinds_64 rfl rfl ?_
      refine G_iload (K := mX4_dealKinds) dX4_dealKinds_67 rfl ?_
      refine G_ld (K := mX4_dealKinds) (pcF k o r) dX4_dealKinds_69 rfl rfl (by omega) (by decide) ?_
      refine G_sto (K := mX4_dealKinds) r dX4_dealKinds_70 rfl rfl (by omega) (by decide) ?_
      refine G_iincN (K := mX4_dealKinds) dX4_dealKinds_71 (by decide) rfl ?_
      refine G_goto (K := mX4_dealKinds) (tgt := 12) dX4_dealKinds_74 (by decide) ?_
      refine ih (r + 1) (by omega) (by omega) _ _ _ (fun c hc => by rw [ups_cell hc]; exact h3c c hc) (fun i hi => ?_) (fun i hi => by rw [ups_ne (by omega)]; exact h13o i (by omega))
      by_cases h : i = r
      · subst h; rw [ups_same, h3c 2 (by decide)]
      · rw [ups_ne (fun z => h z.2)]; exact h13 i (by omega)
  exact loop12 0 (by omega) M _ _ (fun _ _ => rfl) (fun i hi => absurd hi (by omega)) (fun i _ => rfl)
