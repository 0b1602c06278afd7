theorem RC.num {M σ : Mem} {q i : Nat} {x : Int32} (hR : RC M σ) (hq : q < 4) : RC (ups M (62 + 2 * q) i x) (ups σ (46 + q) i x) := by
  obtain ⟨-, -, r3, r4, r5, r6, r7⟩ := id hR
  refine hR.other (fun c h1 h2 => ups_cell (by omega)) (fun c h => ups_cell (by omega)) (by rw [ups_cell (by omega), ups_cell (by omega)]; exact r3) (fun i hi => by rw [ups_cell (by omega), ups_cell (by omega)]; exact r4 i hi) (fun i hi => by rw [ups_cell (by omega), ups_cell (by omega)]; exact r5 i hi) (by rw [ups_cell (by omega), ups_cell (by omega)]; exact r6) (fun s hs => ?_)
  rw [ups_cell (show 61 + 2 * s ≠ 62 + 2 * q by omega), ups_cell (show 44 ≠ 46 + q by omega), ups_cell (show 45 ≠ 46 + q by omega)]
  refine ⟨(r7 s hs).1, (r7 s hs).2.1, fun j hj => ?_⟩
  by_cases h : s = q ∧ j = i
  · obtain ⟨rfl, rfl⟩ := h
    rw [ups_same, ups_same]
  · rw [ups_ne (by omega), ups_ne (by omega)]
    exact (r7 s hs).2.2 j hj
set_option maxRecDepth 20000 in
theorem cl_write {M σ : Mem} {s i v : Int32} (hR : RC M σ) (hI : Inv σ) {Q : Option Value → Mem → Prop} (hQ : ∀ u' M', PostC (opWrite σ s i v) u' M' → Q u' M') : CT mX4_write shC 8 [.ref 0, .int s, .int i, .int v] M Q := by
  refine CT.mk [some (.ref 0), some (.int s), some (.int i), some (.int v), none] (by decide) (Nat.le_of_ble_eq_true rfl) rfl rfl ?_
  refine G_aload_n (K := mX4_write) (i := 0) dX4_write_0 rfl rfl ?_
  refine G_iload_n (K := mX4_write) (i := 1) dX4_write_1 rfl rfl ?_
  refine G_cv (K := mX4_write) (cl_fSheet (s := s) hR hI ⟨rfl, rfl⟩) vX4_findingOfSheet rfl lX4_243 dX4_write_2 ⟨_, _, _, rfl, rfl, rfl⟩ (by decide) rfl (Nat.le_of_ble_eq_true rfl) ?_
  refine G_istore (K := mX4_write) dX4_write_5 (by decide) ?_
  refine G_iload (K := mX4_write) dX4_write_7 rfl ?_
  refine G_if_eq (K := mX4_write) (tgt := 19) dX4_write_9 (by decide) (fun c9 => ?_) (fun c9 => ?_)
  · skip
    obtain ⟨q, hq, rfl, hb⟩ := refS_0 c9
    have hlen := hI.len hq
    refine G_aload_n (K := mX4_write) (i := 0) dX4_write_19 rfl rfl ?_
    refine G_getr (K := mX4_write) fX4_39 dX4_write_20 rfl rfl ?_
    refine G_iload_n (K := mX4_write) (i := 1) dX4_write_23 rfl rfl ?_
    refine G_aald (K := mX4_write) q dX4_write_24 rfl (fun _ => ⟨_, rfl⟩) rfl (sh_r hq) (by decide) ?_
    refine G_iload_n (K := mX4_write) (i := 2) dX4_write_25 rfl rfl ?_
    refine G_iconst (K := mX4_write) (v := 1) dX4_write_26 (by decide) ?_
    refine G_call0 (K := mX4_write) (as := [.int i, .int 1]) (r := 61 + 2 * q) (Q' := fun v M' => v = some (.int (hasS (σ 45 q) i 1)) ∧ M' = M) (c_X1_has (f := i) (n := 1) hq ⟨by rw [hR.s1 hq], rfl⟩) vX1_has rfl lX4_246 ⟨1, _, _, sh_o hq, rfl, rfl⟩ (by decide) (Nat.le_of_ble_eq_true rfl) dX4_write_27 rfl ?_
    rintro v' M' ⟨rfl, e⟩
    obtain rfl := e.symm
    refine G_if_ne (K := mX4_write) (tgt := 40) dX4_write_30 (by decide) (fun c30 => ?_) (fun c30 => ?_)
    · skip
      obtain ⟨j, b1, rfl, hb1, hjb, hjb2, hj2, hb2⟩ := hasS_1 (m := 40) hlen c30
      have hb11 : b1 = 1 := (nI_eq (a := 1) (b := b1) (by decide) (by omega)).mp hb1 |>.symm
      refine G_aload_n (K := mX4_write) (i := 0) dX4_write_40 rfl rfl ?_
      refine G_getr (K := mX4_write) fX4_39 dX4_write_41 rfl rfl ?_
      refine G_iload_n (K := mX4_write) (i := 1) dX4_write_44 rfl rfl ?_
      refine G_aald (K := mX4_write) q dX4_write_45 rfl (fun _ => ⟨_, rfl⟩) rfl (sh_r hq) (by decide) ?_
      refine G_iload_n (K := mX4_write) (i := 2) dX4_write_46 rfl rfl ?_
      refine G_iload_n (K := mX4_write) (i := 3) dX4_write_47 rfl rfl ?_
      refine G_call0 (K := mX4_write) (as := [.int (nI j), .int v]) (r := 61 + 2 * q) (Q' := fun v' M' => v' = none ∧ M' = ups M (62 + 2 * q) j (cutV (σ 44 q) v)) (c_X1_put (i := j) (v := v) hq (by omega) ⟨rfl, by rw [hR.s0 hq]⟩) vX1_put rfl lX4_248 ⟨1, _, _, sh_o hq, rfl, rfl⟩ (by decide) (Nat.le_of_ble_eq_true rfl) dX4_write_48 rfl ?_
      rintro v' M' ⟨rfl, rfl⟩
      refine G_iconst (K := mX4_write) (v := 1) dX4_write_51 (by decide) ?_
      exact G_iret (st := []) (K := mX4_write) dX4_write_52 rfl (hQ _ _ (by rw [show opWrite σ (nI q) (nI j) v = (1, ups σ (46 + cut (nI q)) (cut (nI j)) (cutV (σ 44 (cut (nI q))) v)) from (if_pos c9).trans (if_neg (by rw [cut_nI (by omega)]; exact c30)), cut_nI (by omega), cut_nI (by omega)]; exact ⟨rfl, hR.num hq⟩))
    · skip
      refine G_aload_n (K := mX4_write) (i := 0) dX4_write_33 rfl rfl ?_
      refine G_ldc (K := mX4_write) dX4_write_34 kX4_52 ?_
      refine G_call0 (K := mX4_write) (Q' := PostC (tl σ 0)) (cl_tell hR (k := 0) (by omega) (fun _ _ h => h)) vX4_tell rfl lX4_53 ⟨_, _, _, rfl, rfl, rfl⟩ (by decide) (Nat.le_of_ble_eq_true rfl) dX4_write_36 rfl ?_
      rintro v M1 ⟨rfl, hR1⟩
      exact G_iret (st := []) (K := mX4_write) dX4_write_39 rfl (hQ _ _ (by rw [show opWrite σ (nI q) i v = _ from (by unfold opWrite; exact (if_pos c9).trans (if_pos (by rw [cut_nI (by omega)]; exact c30)))]; exact ⟨rfl, hR1⟩))
  · skip
    refine G_aload_n (K := mX4_write) (i := 0) dX4_write_12 rfl rfl ?_
    refine G_iload (K := mX4_write) dX4_write_13 rfl ?_
    obtain ⟨q, hq, eq⟩ := refS_fin c9
    rw [eq]
    refine G_call0 (K := mX4_write) (Q' := PostC (tl σ q)) (cl_tell hR (k := q) (by omega) (fun _ _ h => h)) vX4_tell rfl lX4_53 ⟨_, _, _, rfl, rfl, rfl⟩ (by decide) (Nat.le_of_ble_eq_true rfl) dX4_write_15 rfl ?_
    rintro v M1 ⟨rfl, hR1⟩
    exact G_iret (st := []) (K := mX4_write) dX4_write_18 rfl (hQ _ _ (by rw [show opWrite σ s i v = _ from (by unfold opWrite; exact (if_neg c9).trans ((congrArg (tlI σ) eq).trans (tlI_fin hq)))]; exact ⟨rfl, hR1⟩))

def ldOK (σ : Mem) (q i : Nat) : Bool := decide (nI i < σ 45 q) && fitB (nOf σ) (nI i) 2 (σ (46 + q) i)
def ldM (σ : Mem) (q : Nat) : Nat := (findF (fun i => !ldOK σ q i) 0 9).getD 9
def ldS (σ : Mem) (q m : Nat) : Mem := fun c i => if c = 3 ∧ i < m then σ (46 + q) i else σ c i
def opLoad (σ : Mem) (s : Int32) : Int32 × Mem := if refS σ s = 0 then (nI (ldM σ (cut s)), ldS σ (cut s) (ldM σ (cut s))) else tlI σ (refS σ s)
theorem ldOK_n {σ : Mem} {q i : Nat} (hI : Inv σ) (hi : i < 2147483648) (h : ldOK σ q i = true) : i < nOf σ := by
  unfold ldOK fitB at h
  have h1 := (Bool.and_eq_true_iff.mp (Bool.and_eq_true_iff.mp h).2).1
  obtain ⟨k, hk, e⟩ := roomB_t (by have := hI.n8; omega) h1
  have := (nI_eq hi (by have := hI.n8; omega)).mp e
  omega
theorem ldS_n {σ : Mem} {q m : Nat} : nOf (ldS σ q m) = nOf σ := rfl
theorem HR.ld {M σ : Mem} {n q i : Nat} (H : HR M (ldS σ q i) n) : HR (ups M 3 i (σ (46 + q) i)) (ldS σ q (i + 1)) n := by
  refine (H.upd1 (by omega) (by omega)).tr ⟨fun k _ => ?_, fun k _ => ?_, fun c h1 h2 k hk => ?_⟩
  · rw [ups_cell (by decide)]; rfl
  · rw [ups_cell (by decide)]; rfl
  · show _ = if c = 3 ∧ k < i + 1 then σ (46 + q) k else σ c k
    by_cases hc : c = 3 ∧ k = i
    · obtain ⟨rfl, rfl⟩ := hc
      rw [ups_same, if_pos (by omega)]
    · rw [ups_ne hc]
      show (if c = 3 ∧ k < i then σ (46 + q) k else σ c k) = _
      by_cases hc2 : c = 3 ∧ k < i
      · rw [if_pos hc2, if_pos (by omega)]
      · rw [if_neg hc2, if_neg (by omega)]
set_option maxRecDepth 20000 in
theorem cl_load {M σ : Mem} {s : Int32} (hR : RC M σ) (hI : Inv σ) {Q : Option Value → Mem → Prop} (hQ : ∀ u' M', PostC (opLoad σ s) u' M' → Q u' M') : CT mX4_load shC 8 [.ref 0, .int s] M Q := by
  refine CT.mk [some (.ref 0), some (.int s), none, none, none] (by decide) (Nat.le_of_ble_eq_true rfl) rfl rfl ?_
  have hn8 := hI.n8
  refine G_aload_n (K := mX4_load) (i := 0) dX4_load_0 rfl rfl ?_
  refine G_iload_n (K := mX4_load) (i := 1) dX4_load_1 rfl rfl ?_
  refine G_cv (K := mX4_load) (cl_fSheet (s := s) hR hI ⟨rfl, rfl⟩) vX4_findingOfSheet rfl lX4_243 dX4_load_2 ⟨_, _, _, rfl, rfl, rfl⟩ (by decide) rfl (Nat.le_of_ble_eq_true rfl) ?_
  refine G_istore_n (K := mX4_load) (i := 2) dX4_load_5 rfl (by decide) ?_
  refine G_iload_n (K := mX4_load) (i := 2) dX4_load_6 rfl rfl ?_
  refine G_if_eq (K := mX4_load) (tgt := 16) dX4_load_7 (by decide) (fun c7 => ?_) (fun c7 => ?_)
  · skip
    obtain ⟨q, hq, rfl, hb⟩ := refS_0 c7
    have hlen := hI.len hq
    refine G_aload_n (K := mX4_load) (i := 0) dX4_load_16 rfl rfl ?_
    refine G_getr (K := mX4_load) fX4_39 dX4_load_17 rfl rfl ?_
    refine G_iload_n (K := mX4_load) (i := 1) dX4_load_20 rfl rfl ?_
    refine G_aald (K := mX4_load) q dX4_load_21 rfl (fun _ => ⟨_, rfl⟩) rfl (sh_r hq) (by decide) ?_
    refine G_astore_n (K := mX4_load) (i := 3) dX4_load_22 rfl (by decide) ?_
    refine G_iconst (K := mX4_load) (v := 0) dX4_load_23 (by decide) ?_
    refine G_istore (K := mX4_load) dX4_load_24 (by decide) ?_
    have loop26 : ∀ i, i ≤ 9 → i ≤ nOf σ → ∀ M1, RC M1 (ldS σ q i) → (∀ j, j < i → ldOK σ q j = true) → G mX4_load shC 8 Q 26 [some (.ref 0), some (.int (nI q)), some (.int (refS σ (nI q))), some (.ref (61 + 2 * q)), some (.int (nI i))] [] M1 := by
      refine upto 9 (fun i hi ih => ?_)
      intro hin0 M1 hRi hno
      have hT : HR (hof M1 1) (ldS σ q i) (nOf σ) := hRi.1
      have e45 : M1 (61 + 2 * q) 1 = σ 45 q := hRi.s1 hq
      have eq0 : ¬ ldOK σ q i = true → ldM σ q = i := fun z => by
        unfold ldM
        rw [findF_0 (j := i) (by omega) (fun z2 hz2 => by rw [hno z2 hz2]; rfl) (by cases h : ldOK σ q i with | false => rfl | true => exact absurd h z)]
        rfl
      refine G_iload (K := mX4_load) dX4_load_26 rfl ?_
      refine G_aload_n (K := mX4_load) (i := 3) dX4_load_28 rfl rfl ?_
      refine G_geti (K := mX4_load) fX4_263 dX4_load_29 (sh_o hq) rfl ?_
      refine G_icmp_ge (K := mX4_load) (tgt := 78) dX4_load_32 (by decide) (fun c32 => ?_) (fun c32 => ?_)
      · skip
        refine G_iload (K := mX4_load) dX4_load_78 rfl ?_
        exact G_iret (st := []) (K := mX4_load) dX4_load_80 rfl (hQ _ _ (by rw [show opLoad σ (nI q) = (nI (ldM σ (cut (nI q))), ldS σ (cut (nI q)) (ldM σ (cut (nI q)))) from if_pos c7, cut_nI (by omega), eq0 (fun z => by unfold ldOK at z; first | (rw [e45] at c32; exact absurd (of_decide_eq_true (Bool.and_eq_true_iff.mp z).1) (Int32.not_lt.mpr c32)) | (have z2 := (Bool.and_eq_true_iff.mp z).2; rw [show fitB (nOf σ) (nI i) 2 (σ (46 + q) i) = false from bI_0 c52] at z2; exact absurd z2 (by decide)))]; exact ⟨rfl, hRi⟩))
      · skip
        have hlt : nI i < σ 45 q := by rw [e45] at c32; exact Int32.not_le.mp c32
        have hi40 : i < 40 := by
          have h := hlt
          unfold rg at hlen
          rw [i32_lt, nI_toI (by omega)] at h
          omega
        refine G_aload_n (K := mX4_load) (i := 0) dX4_load_35 rfl rfl ?_
        refine G_getr (K := mX4_load) fX4_12 dX4_load_36 rfl rfl ?_
        refine G_iload (K := mX4_load) dX4_load_39 rfl ?_
        refine G_iconst (K := mX4_load) (v := 2) dX4_load_41 (by decide) ?_
        refine G_aload_n (K := mX4_load) (i := 3) dX4_load_42 rfl rfl ?_
        refine G_getr (K := mX4_load) fX4_254 dX4_load_43 (sh_o hq) rfl ?_
        refine G_iload (K := mX4_load) dX4_load_46 rfl ?_
        refine G_ld (K := mX4_load) i dX4_load_48 (sh_n hq) rfl (by omega) (by decide) ?_
        have en : M1 (62 + 2 * q) i = σ (46 + q) i := (hRi.sn hq hi40).trans (if_neg (by omega))
        rw [en]
        refine G_hp (K := mX4_load) (b := 1) (by unfold isH; omega) (c_X0_fits (M := hof M1 1) (r := nI i) (w := 2) (v := σ (46 + q) i) ⟨rfl, rfl⟩) vX0_fits rfl lX4_75 dX4_load_49 rfl (by decide) rfl (Nat.le_of_ble_eq_true rfl) ?_
        rw [fits_B (n := nOf σ) ((hT.1 0 (by omega)).trans hI.nI) hn8]
        refine G_if_eq (K := mX4_load) (tgt := 78) dX4_load_52 (by decide) (fun c52 => ?_) (fun c52 => ?_)
        · skip
          
          refine G_iload (K := mX4_load) dX4_load_78 rfl ?_
          exact G_iret (st := []) (K := mX4_load) dX4_load_80 rfl (hQ _ _ (by rw [show opLoad σ (nI q) = (nI (ldM σ (cut (nI q))), ldS σ (cut (nI q)) (ldM σ (cut (nI q)))) from if_pos c7, cut_nI (by omega), eq0 (fun z => by unfold ldOK at z; first | (rw [e45] at c32; exact absurd (of_decide_eq_true (Bool.and_eq_true_iff.mp z).1) (Int32.not_lt.mpr c32)) | (have z2 := (Bool.and_eq_true_iff.mp z).2; rw [show fitB (nOf σ) (nI i) 2 (σ (46 + q) i) = false from bI_0 c52] at z2; exact absurd z2 (by decide)))]; exact ⟨rfl, hRi⟩))
        · skip
          have hok : ldOK σ q i = true := by
            unfold ldOK
            rw [decide_eq_true hlt, Bool.true_and]
            exact bI_1 c52
          have hin := ldOK_n hI (by omega) hok
          refine G_aload_n (K := mX4_load) (i := 0) dX4_load_55 rfl rfl ?_
          refine G_getr (K := mX4_load) fX4_12 dX4_load_56 rfl rfl ?_
          refine G_getr (K := mX4_load) fX4_106 dX4_load_59 rfl rfl ?_
          refine G_iload (K := mX4_load) dX4_load_62 rfl ?_
          refine G_aload_n (K := mX4_load) (i := 3) dX4_load_64 rfl rfl ?_
          refine G_getr (K := mX4_load) fX4_254 dX4_load_65 (sh_o hq) rfl ?_
          refine G_iload (K := mX4_load) dX4_load_68 rfl ?_
          refine G_ld (K := mX4_load) i dX4_load_70 (sh_n hq) rfl (by omega) (by decide) ?_
          have en2 : M1 (62 + 2 * q) i = σ (46 + q) i := (hRi.sn hq hi40).trans (if_neg (by omega))
          rw [en2]
          refine G_sto (K := mX4_load) i dX4_load_71 rfl rfl (by omega) (by decide) ?_
          refine G_iincN (K := mX4_load) dX4_load_72 (by decide) rfl ?_
          refine G_goto (K := mX4_load) (tgt := 26) dX4_load_75 (by decide) ?_
          have e2 : ups M1 (1 + 3) i (σ (46 + q) i) = hput M1 1 (ups (hof M1 1) 3 i (σ (46 + q) i)) := by rw [← hput_ups (by omega), hput_hof]
          refine ih (i + 1) (by omega) (by omega) (by omega) _ ?_ (fun j hj => ?_)
          · show RC (ups M1 (1 + 3) i (σ (46 + q) i)) _
            rw [e2]
            exact hRi.house (σ' := ldS σ q (i + 1)) (fun c hc => by funext k; show (if c = 3 ∧ k < i + 1 then _ else σ c k) = (if c = 3 ∧ k < i then _ else σ c k); rw [if_neg (by omega), if_neg (by omega)]) (HR.ld hT)
          · by_cases hji : j = i
            · rw [hji]; exact hok
            · exact hno j (by omega)
    have e0 : ldS σ q 0 = σ := by funext c i; exact if_neg (by omega)
    exact loop26 0 (by omega) (by omega) _ (by rw [e0]; exact hR) (fun j hj => absurd hj (by omega))
  · skip
    refine G_aload_n (K := mX4_load) (i := 0) dX4_load_10 rfl rfl ?_
    refine G_iload_n (K := mX4_load) (i := 2) dX4_load_11 rfl rfl ?_
    obtain ⟨q, hq, eq⟩ := refS_fin c7
    rw [eq]
    refine G_call0 (K := mX4_load) (Q' := PostC (tl σ q)) (cl_tell hR (k := q) (by omega) (fun _ _ h => h)) vX4_tell rfl lX4_53 ⟨_, _, _, rfl, rfl, rfl⟩ (by decide) (Nat.le_of_ble_eq_true rfl) dX4_load_12 rfl ?_
    rintro v M1 ⟨rfl, hR1⟩
    exact G_iret (st := []) (K := mX4_load) dX4_load_15 rfl (hQ _ _ (by rw [show opLoad σ s = _ from (by unfold opLoad; exact (if_neg c7).trans ((congrArg (tlI σ) eq).trans (tlI_fin hq)))]; exact ⟨rfl, hR1⟩))

def jgB (σ : Mem) (q r i : Nat) : Bool := decide (¬ hoursH (nOf σ) (i + 1) σ 2 r = σ (46 + q) i)
def jgV (o : Option Nat) : Int32 := match o with
  | some i => nI (i + 1)
  | none => 0
def opJudge (σ : Mem) (s r : Int32) : Int32 × Mem := if refS σ s = 0 then (if roomB (nOf σ) r = true then (if 9999 < σ 0 2 + σ 45 (cut s) then tl σ 4 else (jgV (findF (jgB σ (cut s) (cut r)) 0 (cut (σ 45 (cut s)))), σ)) else tl σ 0) else tlI σ (refS σ s)
set_option maxRecDepth 20000 in
theorem cl_judge {M σ : Mem} {s r : Int32} (hR : RC M σ) (hI : Inv σ) {Q : Option Value → Mem → Prop} (hQ : ∀ u' M', PostC (opJudge σ s r) u' M' → Q u' M') : CT mX4_judge shC 8 [.ref 0, .int s, .int r] M Q := by
  refine CT.mk [some (.ref 0), some (.int s), some (.int r), none, none, none] (by decide) (Nat.le_of_ble_eq_true rfl) rfl rfl ?_
  have hn8 := hI.n8
  refine G_aload_n (K := mX4_judge) (i := 0) dX4_judge_0 rfl rfl ?_
  refine G_iload_n (K := mX4_judge) (i := 1) dX4_judge_1 rfl rfl ?_
  refine G_cv (K := mX4_judge) (cl_fSheet (s := s) hR hI ⟨rfl, rfl⟩) vX4_findingOfSheet rfl lX4_243 dX4_judge_2 ⟨_, _, _, rfl, rfl, rfl⟩ (by decide) rfl (Nat.le_of_ble_eq_true rfl) ?_
  refine G_istore_n (K := mX4_judge) (i := 3) dX4_judge_5 rfl (by decide) ?_
  refine G_iload_n (K := mX4_judge) (i := 3) dX4_judge_6 rfl rfl ?_
  refine G_if_eq (K := mX4_judge) (tgt := 16) dX4_judge_7 (by decide) (fun c7 => ?_) (fun c7 => ?_)
  · skip
    obtain ⟨q, hq, rfl, hb⟩ := refS_0 c7
    have hlen := hI.len hq
    obtain ⟨L, hL40, eL⟩ : ∃ L, L ≤ 40 ∧ σ 45 q = nI L := by
      unfold rg at hlen
      refine ⟨(σ 45 q).toInt.toNat, by omega, i32_ext ?_⟩
      rw [nI_toI (by omega)]
      omega
    refine G_aload_n (K := mX4_judge) (i := 0) dX4_judge_16 rfl rfl ?_
    refine G_getr (K := mX4_judge) fX4_12 dX4_judge_17 rfl rfl ?_
    refine G_iload_n (K := mX4_judge) (i := 2) dX4_judge_20 rfl rfl ?_
    refine G_hp (K := mX4_judge) (b := 1) (by unfold isH; omega) (c_X0_has (M := hof M 1) (r := r) ⟨rfl, rfl⟩) vX0_has rfl lX4_65 dX4_judge_21 rfl (by decide) rfl (Nat.le_of_ble_eq_true rfl) ?_
    rw [hasI_B (hR.nI hI) hI.n8]
    refine G_if_ne (K := mX4_judge) (tgt := 34) dX4_judge_24 (by decide) (fun c24 => ?_) (fun c24 => ?_)
    · skip
      obtain ⟨j, hj, rfl⟩ := roomB_t (by omega) (bI_1 c24)
      refine G_aload_n (K := mX4_judge) (i := 0) dX4_judge_34 rfl rfl ?_
      refine G_getr (K := mX4_judge) fX4_39 dX4_judge_35 rfl rfl ?_
      refine G_iload_n (K := mX4_judge) (i := 1) dX4_judge_38 rfl rfl ?_
      refine G_aald (K := mX4_judge) q dX4_judge_39 rfl (fun _ => ⟨_, rfl⟩) rfl (sh_r hq) (by decide) ?_
      refine G_astore (K := mX4_judge) dX4_judge_40 (by decide) ?_
      refine G_aload_n (K := mX4_judge) (i := 0) dX4_judge_42 rfl rfl ?_
      refine G_getr (K := mX4_judge) fX4_12 dX4_judge_43 rfl rfl ?_
      refine G_geti (K := mX4_judge) fX4_99 dX4_judge_46 rfl rfl ?_
      refine G_aload (K := mX4_judge) dX4_judge_49 rfl ?_
      refine G_geti (K := mX4_judge) fX4_263 dX4_judge_51 (sh_o hq) rfl ?_
      rw [hR.s1 hq, hR.hour]
      refine G_iadd (K := mX4_judge) dX4_judge_54 ?_
      refine G_sipush (K := mX4_judge) (v := 9999) dX4_judge_55 (by decide) ?_
      refine G_icmp_le (K := mX4_judge) (tgt := 68) dX4_judge_58 (by decide) (fun c58 => ?_) (fun c58 => ?_)
      · skip
        refine G_aload_n (K := mX4_judge) (i := 0) dX4_judge_68 rfl rfl ?_
        refine G_st12 (K := mX4_judge) hR hI lX4_120 dX4_judge_69 (by decide) (Nat.le_of_ble_eq_true rfl) (fun h1 hh1 hR12 => ?_)
        refine G_iconst (K := mX4_judge) (v := 0) dX4_judge_72 (by decide) ?_
        refine G_istore (K := mX4_judge) dX4_judge_73 (by decide) ?_
        have loop75 : ∀ i, i ≤ L → ∀ M1, RC M1 σ → HR (hof M1 12) (hoursH (nOf σ) i σ) (nOf σ) → (∀ z, z < i → jgB σ q j z = false) → G mX4_judge shC 8 Q 75 [some (.ref 0), some (.int (nI q)), some (.int (nI j)), some (.int (refS σ (nI q))), some (.ref (61 + 2 * q)), some (.int (nI i))] [] M1 := by
          refine upto L (fun i hi ih => ?_)
          intro M1 hRi hT hno
          have e45 : M1 (61 + 2 * q) 1 = nI L := (hRi.s1 hq).trans eL
          refine G_iload (K := mX4_judge) dX4_judge_75 rfl ?_
          refine G_aload (K := mX4_judge) dX4_judge_77 rfl ?_
          refine G_geti (K := mX4_judge) fX4_263 dX4_judge_79 (sh_o hq) rfl ?_
          refine G_icmp_ge (K := mX4_judge) (tgt := 124) dX4_judge_82 (by decide) (fun c82 => ?_) (fun c82 => ?_)
          · skip
            rw [e45, le_nn (by omega) (by omega)] at c82
            have hiL : i = L := by omega
            refine G_iconst (K := mX4_judge) (v := 0) dX4_judge_124 (by decide) ?_
            exact G_iret (st := []) (K := mX4_judge) dX4_judge_125 rfl (hQ _ _ (by rw [show opJudge σ (nI q) (nI j) = (jgV (findF (jgB σ (cut (nI q)) (cut (nI j))) 0 (cut (σ 45 (cut (nI q))))), σ) from (if_pos c7).trans ((if_pos (bI_1 c24)).trans (if_neg (by rw [cut_nI (by omega)]; exact Int32.not_lt.mpr c58))), cut_nI (by omega), cut_nI (by omega), eL, cut_nI (by omega), findF_n0 (fun z hz => hno z (by omega))]; exact ⟨rfl, hRi⟩))
          · skip
            rw [e45, le_nn (by omega) (by omega)] at c82
            have hiL : i < L := by omega
            refine G_aload_n (K := mX4_judge) (i := 0) dX4_judge_85 rfl rfl ?_
            refine G_getr (K := mX4_judge) fX4_16 dX4_judge_86 rfl rfl ?_
            refine G_hr1 (K := mX4_judge) (b := 12) (n := nOf σ) (h := hoursH (nOf σ) i σ) (by unfold isH; omega) (hT) ((hoursH_0 σ (nOf σ) i).trans hI.nI) hI.n8 (hoursH_w hI.wall i) lX4_134 dX4_judge_89 (by decide) (Nat.le_of_ble_eq_true rfl) (fun h2 hh2 => ?_)
            have hRi2 := hRi.scr (b := 12) (h := h2) (Or.inl rfl)
            have hX2 : HR (hof (hput M1 12 h2) 12) (hoursH (nOf σ) (i + 1) σ) (nOf σ) := HR.hp hh2
            have ew : hput M1 12 h2 14 j = hoursH (nOf σ) (i + 1) σ 2 j := hX2.f 2 (by omega) (by omega) hj
            refine G_pop (K := mX4_judge) dX4_judge_92 rfl ?_
            refine G_aload_n (K := mX4_judge) (i := 0) dX4_judge_93 rfl rfl ?_
            refine G_getr (K := mX4_judge) fX4_16 dX4_judge_94 rfl rfl ?_
            refine G_getr (K := mX4_judge) fX4_113 dX4_judge_97 rfl rfl ?_
            refine G_iload_n (K := mX4_judge) (i := 2) dX4_judge_100 rfl rfl ?_
            refine G_ld (K := mX4_judge) j dX4_judge_101 rfl rfl (by omega) (by decide) ?_
            refine G_aload (K := mX4_judge) dX4_judge_102 rfl ?_
            refine G_getr (K := mX4_judge) fX4_254 dX4_judge_104 (sh_o hq) rfl ?_
            refine G_iload (K := mX4_judge) dX4_judge_107 rfl ?_
            refine G_ld (K := mX4_judge) i dX4_judge_109 (sh_n hq) rfl (by omega) (by decide) ?_
            have en : hput M1 12 h2 (62 + 2 * q) i = σ (46 + q) i := hRi2.sn hq (by omega)
            rw [en, ew]
            refine G_icmp_eq (K := mX4_judge) (tgt := 118) dX4_judge_110 (by decide) (fun c110 => ?_) (fun c110 => ?_)
            · skip
              refine G_iincN (K := mX4_judge) dX4_judge_118 (by decide) rfl ?_
              refine G_goto (K := mX4_judge) (tgt := 75) dX4_judge_121 (by decide) ?_
              refine ih (i + 1) (by omega) (by omega) _ hRi2 hX2 (fun z hz => ?_)
              by_cases hzi : z = i
              · rw [hzi]; exact decide_eq_false (fun w => w c110)
              · exact hno z (by omega)
            · skip
              refine G_iconst (K := mX4_judge) (v := 1) dX4_judge_113 (by decide) ?_
              refine G_iload (K := mX4_judge) dX4_judge_114 rfl ?_
              refine G_iadd (K := mX4_judge) dX4_judge_116 ?_
              rw [show (1 : Int32) + nI i = nI (i + 1) from (Int32.add_comm _ _).trans (nI_1 i)]
              exact G_iret (st := []) (K := mX4_judge) dX4_judge_117 rfl (hQ _ _ (by rw [show opJudge σ (nI q) (nI j) = (jgV (findF (jgB σ (cut (nI q)) (cut (nI j))) 0 (cut (σ 45 (cut (nI q))))), σ) from (if_pos c7).trans ((if_pos (bI_1 c24)).trans (if_neg (by rw [cut_nI (by omega)]; exact Int32.not_lt.mpr c58))), cut_nI (by omega), cut_nI (by omega), eL, cut_nI (by omega), findF_0 (j := i) (by omega) hno (decide_eq_true c110)]; exact ⟨rfl, hRi2⟩))
        exact loop75 0 (by omega) _ hR12 (HR.hp hh1) (fun z hz => absurd hz (by omega))
      · skip
        refine G_aload_n (K := mX4_judge) (i := 0) dX4_judge_61 rfl rfl ?_
        refine G_ldc (K := mX4_judge) dX4_judge_62 kX4_119 ?_
        refine G_call0 (K := mX4_judge) (Q' := PostC (tl σ 4)) (cl_tell hR (k := 4) (by omega) (fun _ _ h => h)) vX4_tell rfl lX4_53 ⟨_, _, _, rfl, rfl, rfl⟩ (by decide) (Nat.le_of_ble_eq_true rfl) dX4_judge_64 rfl ?_
        rintro v M1 ⟨rfl, hR1⟩
        exact G_iret (st := []) (K := mX4_judge) dX4_judge_67 rfl (hQ _ _ (by rw [show opJudge σ (nI q) (nI j) = _ from (by unfold opJudge; exact (if_pos c7).trans ((if_pos (bI_1 c24)).trans (if_pos (by rw [cut_nI (by omega)]; exact Int32.not_le.mp c58))))]; exact ⟨rfl, hR1⟩))
    · skip
      refine G_aload_n (K := mX4_judge) (i := 0) dX4_judge_27 rfl rfl ?_
      refine G_ldc (K := mX4_judge) dX4_judge_28 kX4_52 ?_
      refine G_call0 (K := mX4_judge) (Q' := PostC (tl σ 0)) (cl_tell hR (k := 0) (by omega) (fun _ _ h => h)) vX4_tell rfl lX4_53 ⟨_, _, _, rfl, rfl, rfl⟩ (by decide) (Nat.le_of_ble_eq_true rfl) dX4_judge_30 rfl ?_
      rintro v M1 ⟨rfl, hR1⟩
      exact G_iret (st := []) (K := mX4_judge) dX4_judge_33 rfl (hQ _ _ (by rw [show opJudge σ (nI q) r = _ from (by unfold opJudge; exact (if_pos c7).trans (if_neg (by rw [bI_0 c24]; decide)))]; exact ⟨rfl, hR1⟩))
  · skip
    refine G_aload_n (K := mX4_judge) (i := 0) dX4_judge_10 rfl rfl ?_
    refine G_iload_n (K := mX4_judge) (i := 3) dX4_judge_11 rfl rfl ?_
    obtain ⟨q, hq, eq⟩ := refS_fin c7
    rw [eq]
    refine G_call0 (K := mX4_judge) (Q' := PostC (tl σ q)) (cl_tell hR (k := q) (by omega) (fun _ _ h => h)) vX4_tell rfl lX4_53 ⟨_, _, _, rfl, rfl, rfl⟩ (by decide) (Nat.le_of_ble_eq_true rfl) dX4_judge_12 rfl ?_
    rintro v M1 ⟨rfl, hR1⟩
    exact G_iret (st := []) (K := mX4_judge) dX4_judge_15 rfl (hQ _ _ (by rw [show opJudge σ s r = _ from (by unfold opJudge; exact (if_neg c7).trans ((congrArg (tlI σ) eq).trans (tlI_fin hq)))]; exact ⟨rfl, hR1⟩))
