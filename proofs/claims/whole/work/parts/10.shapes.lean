/-! the shapes: a house, two houses, a row, the class, the reference -/
def shH : Shp := [.inl (0, [none, none, none, none, some 1, some 2, some 3, some 4, some 5, some 6, some 7, some 8, some 9, some 10]), .inr (.inl 8), .inr (.inl 8), .inr (.inl 8), .inr (.inl 8), .inr (.inl 8), .inr (.inl 8), .inr (.inl 8), .inr (.inl 8), .inr (.inl 8), .inr (.inl 10)]
def shH2 : Shp := [.inl (0, [none, none, none, none, some 1, some 2, some 3, some 4, some 5, some 6, some 7, some 8, some 9, some 10]), .inr (.inl 8), .inr (.inl 8), .inr (.inl 8), .inr (.inl 8), .inr (.inl 8), .inr (.inl 8), .inr (.inl 8), .inr (.inl 8), .inr (.inl 8), .inr (.inl 10), .inl (0, [none, none, none, none, some 12, some 13, some 14, some 15, some 16, some 17, some 18, some 19, some 20, some 21]), .inr (.inl 8), .inr (.inl 8), .inr (.inl 8), .inr (.inl 8), .inr (.inl 8), .inr (.inl 8), .inr (.inl 8), .inr (.inl 8), .inr (.inl 8), .inr (.inl 10)]
def shI (n : Nat) : Shp := [.inr (.inl n)]
def shS : Shp := [.inl (1, [none, none, some 1]), .inr (.inl 40)]
def shT : Shp := [.inl (2, [some 1, none]), .inr (.inl 120)]
def shC : Shp := [.inl (4, [some 1, some 12, some 23, some 34, none, some 45, some 46, some 59, some 60]), .inl (0, [none, none, none, none, some 2, some 3, some 4, some 5, some 6, some 7, some 8, some 9, some 10, some 11]), .inr (.inl 8), .inr (.inl 8), .inr (.inl 8), .inr (.inl 8), .inr (.inl 8), .inr (.inl 8), .inr (.inl 8), .inr (.inl 8), .inr (.inl 8), .inr (.inl 10), .inl (0, [none, none, none, none, some 13, some 14, some 15, some 16, some 17, some 18, some 19, some 20, some 21, some 22]), .inr (.inl 8), .inr (.inl 8), .inr (.inl 8), .inr (.inl 8), .inr (.inl 8), .inr (.inl 8), .inr (.inl 8), .inr (.inl 8), .inr (.inl 8), .inr (.inl 10), .inl (0, [none, none, none, none, some 24, some 25, some 26, some 27, some 28, some 29, some 30, some 31, some 32, some 33]), .inr (.inl 8), .inr (.inl 8), .inr (.inl 8), .inr (.inl 8), .inr (.inl 8), .inr (.inl 8), .inr (.inl 8), .inr (.inl 8), .inr (.inl 8), .inr (.inl 10), .inl (0, [none, none, none, none, some 35, some 36, some 37, some 38, some 39, some 40, some 41, some 42, some 43, some 44]), .inr (.inl 8), .inr (.inl 8), .inr (.inl 8), .inr (.inl 8), .inr (.inl 8), .inr (.inl 8), .inr (.inl 8), .inr (.inl 8), .inr (.inl 8), .inr (.inl 10), .inl (3, [some 46, some 48, none, none, none, none]), .inl (2, [some 47, none]), .inr (.inl 120), .inl (0, [none, none, none, none, some 49, some 50, some 51, some 52, some 53, some 54, some 55, some 56, some 57, some 58]), .inr (.inl 8), .inr (.inl 8), .inr (.inl 8), .inr (.inl 8), .inr (.inl 8), .inr (.inl 8), .inr (.inl 8), .inr (.inl 8), .inr (.inl 8), .inr (.inl 10), .inr (.inr (2, [61, 63, 65, 67])), .inr (.inl 7), .inl (1, [none, none, some 62]), .inr (.inl 40), .inl (1, [none, none, some 64]), .inr (.inl 40), .inl (1, [none, none, some 66]), .inr (.inl 40), .inl (1, [none, none, some 68]), .inr (.inl 40)]
def shR : Shp := [.inl (5, [some 1, some 2, some 3, none, some 4, some 5, some 6, some 7, some 8, some 9, some 10, none, none, none, some 11, none, none, none, some 12, none, none, none, none, none, none, some 13, some 14, some 15, none, none, none, some 16, some 17, some 18, some 19]),
  .inr (.inl 86), .inr (.inl 86), .inr (.inl 86), .inr (.inl 8), .inr (.inl 9), .inr (.inl 9), .inr (.inl 8), .inr (.inl 8), .inr (.inl 8), .inr (.inl 8), .inr (.inl 86), .inr (.inl 120), .inr (.inr (1, [1100, 1101, 1102, 1103, 1104, 1105, 1106])), .inr (.inr (1, [1107, 1108, 1109, 1110])), .inr (.inl 2160), .inr (.inl 4), .inr (.inl 4), .inr (.inl 160), .inr (.inl 40)]
/-! a house among the cells -/
def hsub (b : Nat) : Nat → Nat := fun j => if j < 11 then b + j else j
def hsub2 (b c : Nat) : Nat → Nat := fun j => if j < 11 then b + j else if j < 22 then c + (j - 11) else j
def hof (M : Mem) (b : Nat) : Mem := fun j => M (b + j)
def hof2 (M : Mem) (b c : Nat) : Mem := fun j => if j < 11 then M (b + j) else M (c + (j - 11))
def hput (M : Mem) (b : Nat) (h : Mem) : Mem := fun c => if b ≤ c ∧ c < b + 11 then h (c - b) else M c
theorem hput_in {M h : Mem} {b j : Nat} (hj : j < 11) : hput M b h (b + j) = h j := by
  unfold hput
  rw [if_pos (by omega), Nat.add_sub_cancel_left]
theorem hput_out {M h : Mem} {b c : Nat} (hc : c < b ∨ b + 11 ≤ c) : hput M b h c = M c := if_neg (by omega)
/-- where a house may lie -/
def isH (b : Nat) : Prop := b = 1 ∨ b = 12 ∨ b = 23 ∨ b = 34 ∨ b = 48
theorem subH_k {b : Nat} (hb : isH b) : ∀ k, k < shH.length → shC[hsub b k]? = (shH[k]?).map (mapE (hsub b)) := by
  intro k hk
  have hk2 : k < 11 := hk
  have h : k = 0 ∨ k = 1 ∨ k = 2 ∨ k = 3 ∨ k = 4 ∨ k = 5 ∨ k = 6 ∨ k = 7 ∨ k = 8 ∨ k = 9 ∨ k = 10 := by omega
  rcases hb with rfl | rfl | rfl | rfl | rfl <;> rcases h with rfl | rfl | rfl | rfl | rfl | rfl | rfl | rfl | rfl | rfl | rfl <;> rfl
theorem subH {b : Nat} (hb : isH b) : Sub shH (hsub b) shC := by
  refine ⟨subH_k hb, fun i j hi hj e => ?_, fun j hj => ?_⟩
  · have h1 : i < 11 := hi
    have h2 : j < 11 := hj
    unfold hsub at e
    rw [if_pos h1, if_pos h2] at e
    omega
  · unfold hsub
    rw [if_neg (by omega)]
theorem mrgH {b : Nat} (M M' : Mem) : Mrg shH.length (hsub b) shC.length M M' (hput M b M') := by
  refine ⟨fun j hj => ?_, fun c _ h => ?_⟩
  · have h1 : j < 11 := hj
    unfold hsub
    rw [if_pos h1, hput_in h1]
  · refine hput_out ?_
    rcases Nat.lt_or_ge c b with h1 | h1
    · exact Or.inl h1
    · refine Or.inr (Nat.not_lt.mp fun h2 => h (c - b) (show c - b < 11 by omega) ?_)
      unfold hsub
      rw [if_pos (by omega)]
      omega
theorem hofM {M : Mem} {b : Nat} : ∀ j, j < shH.length → hof M b j = M (hsub b j) := by
  intro j hj
  have h1 : j < 11 := hj
  unfold hof hsub
  rw [if_pos h1]
def apart (b c : Nat) : Prop := b + 11 ≤ c ∨ c + 11 ≤ b
theorem subH2_k {b c : Nat} (hb : isH b) (hc : isH c) : ∀ k, k < shH2.length → shC[hsub2 b c k]? = (shH2[k]?).map (mapE (hsub2 b c)) := by
  intro k hk
  have hk2 : k < 22 := hk
  have h : k = 0 ∨ k = 1 ∨ k = 2 ∨ k = 3 ∨ k = 4 ∨ k = 5 ∨ k = 6 ∨ k = 7 ∨ k = 8 ∨ k = 9 ∨ k = 10 ∨ k = 11 ∨ k = 12 ∨ k = 13 ∨ k = 14 ∨ k = 15 ∨ k = 16 ∨ k = 17 ∨ k = 18 ∨ k = 19 ∨ k = 20 ∨ k = 21 := by omega
  rcases hb with rfl | rfl | rfl | rfl | rfl <;> rcases hc with rfl | rfl | rfl | rfl | rfl <;> rcases h with rfl | rfl | rfl | rfl | rfl | rfl | rfl | rfl | rfl | rfl | rfl | rfl | rfl | rfl | rfl | rfl | rfl | rfl | rfl | rfl | rfl | rfl <;> rfl
theorem subH2 {b c : Nat} (hb : isH b) (hc : isH c) (hbc : apart b c) : Sub shH2 (hsub2 b c) shC := by
  refine ⟨subH2_k hb hc, fun i j hi hj e => ?_, fun j hj => ?_⟩
  · have h1 : i < 22 := hi
    have h2 : j < 22 := hj
    unfold hsub2 at e
    unfold apart at hbc
    split at e <;> split at e <;> (try split at e) <;> (try split at e) <;> omega
  · unfold hsub2
    rw [if_neg (by omega), if_neg (by omega)]
def hput2 (M : Mem) (b c : Nat) (h : Mem) : Mem := hput (hput M b h) c (fun j => h (j + 11))
theorem mrgH2 {b c : Nat} (hbc : apart b c) (M M' : Mem) : Mrg shH2.length (hsub2 b c) shC.length M M' (hput2 M b c M') := by
  unfold apart at hbc
  refine ⟨fun j hj => ?_, fun q _ h => ?_⟩
  · have h1 : j < 22 := hj
    unfold hsub2 hput2
    by_cases h2 : j < 11
    · rw [if_pos h2, hput_out (by omega), hput_in h2]
    · rw [if_neg h2, if_pos h1, hput_in (by omega)]
      show M' (j - 11 + 11) = M' j
      rw [show j - 11 + 11 = j by omega]
  · unfold hput2
    have hb' : q < b ∨ b + 11 ≤ q := by
      rcases Nat.lt_or_ge q b with h1 | h1
      · exact Or.inl h1
      · refine Or.inr (Nat.not_lt.mp fun h2 => h (q - b) (show q - b < 22 by omega) ?_)
        unfold hsub2
        rw [if_pos (by omega)]
        omega
    have hc' : q < c ∨ c + 11 ≤ q := by
      rcases Nat.lt_or_ge q c with h1 | h1
      · exact Or.inl h1
      · refine Or.inr (Nat.not_lt.mp fun h2 => h (q - c + 11) (show q - c + 11 < 22 by omega) ?_)
        unfold hsub2
        rw [if_neg (by omega), if_pos (by omega)]
        omega
    rw [hput_out hc', hput_out hb']
theorem hofM2 {M : Mem} {b c : Nat} : ∀ j, j < shH2.length → hof2 M b c j = M (hsub2 b c j) := by
  intro j hj
  have h1 : j < 22 := hj
  unfold hof2 hsub2
  by_cases h2 : j < 11
  · rw [if_pos h2, if_pos h2]
  · rw [if_neg h2, if_neg h2, if_pos h1]
/-! calls in the same world -/
theorem tv_id (v : Value) : tv (fun j => j) v = v := by cases v <;> rfl
theorem map_tv_id (as : List Value) : as.map (tv fun j => j) = as := by
  rw [show tv (fun j => j) = _root_.id from funext tv_id, List.map_id]
theorem omap_tv_id (v : Option Value) : v.map (tv fun j => j) = v := by
  rw [show tv (fun j => j) = _root_.id from funext tv_id, Option.map_id]; rfl
section Calls0
variable {K : MI} {sh : Shp} {d : Nat} {Q : Option Value → Mem → Prop} {pc : Nat} {ls : List (Option Value)} {st : List Value} {M : Mem} {idx n d' r : Nat} {y : MI} {as rest : List Value} {Q' : Option Value → Mem → Prop}
theorem G_call0 (hc : CT y sh d' (.ref r :: as) M Q') (hy : VI y n) (hn : as.length = n) (hlink : Cond.methodLink K.1.cls idx y.1 ∈ gtbl) (hrec : ∃ ci fs q, sh[r]? = some (.inl (ci, fs)) ∧ vwCl[ci]? = some q ∧ q.1 = y.1.cls)
    (hd' : d' + 1 ≤ d) (hrest : (rest.map fun v => v.category).sum ≤ 8) (hd : decode K.2.1 pc = .ok (.invokevirtual idx, 3)) (hst : st = as.reverse ++ .ref r :: rest) (kk : ∀ v M', Q' v M' → G K sh d Q (pc + 3) ls (v.toList ++ rest) M') : G K sh d Q pc ls st M :=
  G_callV y sh (fun j => j) (fun M' => M') d' r as rest hc (Sub.id sh) (fun _ _ => rfl) (fun M' => Mrg.id _ _ M') hy hn hlink hrec hd' hrest hd (by rw [map_tv_id]; exact hst) (fun v M' h => by rw [omap_tv_id]; exact kk v M' h)
theorem G_callS0 (hc : CT y sh d' as M Q') (hy : SI y n) (hn : as.length = n) (hlink : Cond.methodLink K.1.cls idx y.1 ∈ gtbl)
    (hd' : d' + 1 ≤ d) (hrest : (rest.map fun v => v.category).sum ≤ 8) (hd : decode K.2.1 pc = .ok (.invokestatic idx, 3)) (hst : st = as.reverse ++ rest) (kk : ∀ v M', Q' v M' → G K sh d Q (pc + 3) ls (v.toList ++ rest) M') : G K sh d Q pc ls st M :=
  G_callS y sh (fun j => j) (fun M' => M') d' as rest hc (Sub.id sh) (fun _ _ => rfl) (fun M' => Mrg.id _ _ M') hy hn hlink hd' hrest hd (by rw [map_tv_id]; exact hst) (fun v M' h => by rw [omap_tv_id]; exact kk v M' h)
/-- an int, the memory as said -/
theorem G_cv {x : Int32} {M2 : Mem} (hc : CT y sh d' (.ref r :: as) M (fun v M' => v = some (.int x) ∧ M' = M2)) (hy : VI y n) (hn : as.length = n) (hlink : Cond.methodLink K.1.cls idx y.1 ∈ gtbl) (hd : decode K.2.1 pc = .ok (.invokevirtual idx, 3)) (hrec : ∃ ci fs q, sh[r]? = some (.inl (ci, fs)) ∧ vwCl[ci]? = some q ∧ q.1 = y.1.cls)
    (hd' : d' + 1 ≤ d) (hst : st = as.reverse ++ .ref r :: rest) (hrest : (rest.map fun v => v.category).sum ≤ 8) (kk : G K sh d Q (pc + 3) ls (.int x :: rest) M2) : G K sh d Q pc ls st M :=
  G_call0 hc hy hn hlink hrec hd' hrest hd hst (by rintro v M' ⟨rfl, rfl⟩; exact kk)
theorem G_cn {M2 : Mem} (hc : CT y sh d' (.ref r :: as) M (fun v M' => v = none ∧ M' = M2)) (hy : VI y n) (hn : as.length = n) (hlink : Cond.methodLink K.1.cls idx y.1 ∈ gtbl) (hd : decode K.2.1 pc = .ok (.invokevirtual idx, 3)) (hrec : ∃ ci fs q, sh[r]? = some (.inl (ci, fs)) ∧ vwCl[ci]? = some q ∧ q.1 = y.1.cls)
    (hd' : d' + 1 ≤ d) (hst : st = as.reverse ++ .ref r :: rest) (hrest : (rest.map fun v => v.category).sum ≤ 8) (kk : G K sh d Q (pc + 3) ls rest M2) : G K sh d Q pc ls st M :=
  G_call0 hc hy hn hlink hrec hd' hrest hd hst (by rintro v M' ⟨rfl, rfl⟩; exact kk)
theorem G_sv {x : Int32} {M2 : Mem} (hc : CT y sh d' as M (fun v M' => v = some (.int x) ∧ M' = M2)) (hy : SI y n) (hn : as.length = n) (hlink : Cond.methodLink K.1.cls idx y.1 ∈ gtbl) (hd : decode K.2.1 pc = .ok (.invokestatic idx, 3))
    (hd' : d' + 1 ≤ d) (hst : st = as.reverse ++ rest) (hrest : (rest.map fun v => v.category).sum ≤ 8) (kk : G K sh d Q (pc + 3) ls (.int x :: rest) M2) : G K sh d Q pc ls st M :=
  G_callS0 hc hy hn hlink hd' hrest hd hst (by rintro v M' ⟨rfl, rfl⟩; exact kk)
theorem G_sn {M2 : Mem} (hc : CT y sh d' as M (fun v M' => v = none ∧ M' = M2)) (hy : SI y n) (hn : as.length = n) (hlink : Cond.methodLink K.1.cls idx y.1 ∈ gtbl) (hd : decode K.2.1 pc = .ok (.invokestatic idx, 3))
    (hd' : d' + 1 ≤ d) (hst : st = as.reverse ++ rest) (hrest : (rest.map fun v => v.category).sum ≤ 8) (kk : G K sh d Q (pc + 3) ls rest M2) : G K sh d Q pc ls st M :=
  G_callS0 hc hy hn hlink hd' hrest hd hst (by rintro v M' ⟨rfl, rfl⟩; exact kk)
end Calls0
section CallsH
variable {K : MI} {d : Nat} {Q : Option Value → Mem → Prop} {pc : Nat} {ls : List (Option Value)} {st : List Value} {M : Mem} {idx n d' : Nat} {y : MI} {as rest : List Value} {Q' : Option Value → Mem → Prop}
/-- a house's method, from the class -/
theorem G_callH {b : Nat} (hb : isH b) (hc : CT y shH d' (.ref 0 :: as) (hof M b) Q') (hy : VI y n) (hn : as.length = n) (hlink : Cond.methodLink K.1.cls idx y.1 ∈ gtbl) (hcls : y.1.cls = RX0)
    (hd' : d' + 1 ≤ d) (hrest : (rest.map fun v => v.category).sum ≤ 8) (hd : decode K.2.1 pc = .ok (.invokevirtual idx, 3)) (hst : st = (as.map (tv (hsub b))).reverse ++ .ref b :: rest) (kk : ∀ v M', Q' v M' → G K shC d Q (pc + 3) ls ((v.map (tv (hsub b))).toList ++ rest) (hput M b M')) : G K shC d Q pc ls st M :=
  G_callV y shH (hsub b) (hput M b) d' 0 as rest hc (subH hb) hofM (fun M' => mrgH M M') hy hn hlink ⟨0, _, _, rfl, rfl, hcls.symm⟩ hd' hrest hd hst kk
theorem G_hv {b : Nat} {x : Int32} {h2 : Mem} (hb : isH b) (hc : CT y shH d' (.ref 0 :: as) (hof M b) (fun v M' => v = some (.int x) ∧ M' = h2)) (hy : VI y n) (hn : as.length = n) (hlink : Cond.methodLink K.1.cls idx y.1 ∈ gtbl) (hd : decode K.2.1 pc = .ok (.invokevirtual idx, 3)) (hcls : y.1.cls = RX0)
    (hd' : d' + 1 ≤ d) (hst : st = (as.map (tv (hsub b))).reverse ++ .ref b :: rest) (hrest : (rest.map fun v => v.category).sum ≤ 8) (kk : G K shC d Q (pc + 3) ls (.int x :: rest) (hput M b h2)) : G K shC d Q pc ls st M :=
  G_callH hb hc hy hn hlink hcls hd' hrest hd hst (by rintro v M' ⟨rfl, rfl⟩; exact kk)
theorem hput_hof (M : Mem) (b : Nat) : hput M b (hof M b) = M := by
  funext c
  unfold hput hof
  split
  · rw [show b + (c - b) = c by omega]
  · rfl
/-- .. that reads alone -/
theorem G_hp {b : Nat} {x : Int32} (hb : isH b) (hc : CT y shH d' (.ref 0 :: as) (hof M b) (fun v M' => v = some (.int x) ∧ M' = hof M b)) (hy : VI y n) (hn : as.length = n) (hlink : Cond.methodLink K.1.cls idx y.1 ∈ gtbl) (hd : decode K.2.1 pc = .ok (.invokevirtual idx, 3)) (hcls : y.1.cls = RX0)
    (hd' : d' + 1 ≤ d) (hst : st = (as.map (tv (hsub b))).reverse ++ .ref b :: rest) (hrest : (rest.map fun v => v.category).sum ≤ 8) (kk : G K shC d Q (pc + 3) ls (.int x :: rest) M) : G K shC d Q pc ls st M :=
  G_hv hb hc hy hn hlink hd hcls hd' hst hrest (by rw [hput_hof]; exact kk)
theorem G_hn {b : Nat} {h2 : Mem} (hb : isH b) (hc : CT y shH d' (.ref 0 :: as) (hof M b) (fun v M' => v = none ∧ M' = h2)) (hy : VI y n) (hn : as.length = n) (hlink : Cond.methodLink K.1.cls idx y.1 ∈ gtbl) (hd : decode K.2.1 pc = .ok (.invokevirtual idx, 3)) (hcls : y.1.cls = RX0)
    (hd' : d' + 1 ≤ d) (hst : st = (as.map (tv (hsub b))).reverse ++ .ref b :: rest) (hrest : (rest.map fun v => v.category).sum ≤ 8) (kk : G K shC d Q (pc + 3) ls rest (hput M b h2)) : G K shC d Q pc ls st M :=
  G_callH hb hc hy hn hlink hcls hd' hrest hd hst (by rintro v M' ⟨rfl, rfl⟩; exact kk)
theorem G_callH2 {b c : Nat} (hb : isH b) (hc' : isH c) (hbc : apart b c) (hc : CT y shH2 d' (.ref 0 :: as) (hof2 M b c) Q') (hy : VI y n) (hn : as.length = n) (hlink : Cond.methodLink K.1.cls idx y.1 ∈ gtbl) (hcls : y.1.cls = RX0)
    (hd' : d' + 1 ≤ d) (hrest : (rest.map fun v => v.category).sum ≤ 8) (hd : decode K.2.1 pc = .ok (.invokevirtual idx, 3)) (hst : st = (as.map (tv (hsub2 b c))).reverse ++ .ref b :: rest) (kk : ∀ v M', Q' v M' → G K shC d Q (pc + 3) ls ((v.map (tv (hsub2 b c))).toList ++ rest) (hput2 M b c M')) : G K shC d Q pc ls st M :=
  G_callV y shH2 (hsub2 b c) (hput2 M b c) d' 0 as rest hc (subH2 hb hc' hbc) hofM2 (fun M' => mrgH2 hbc M M') hy hn hlink ⟨0, _, _, rfl, rfl, hcls.symm⟩ hd' hrest hd hst kk
end CallsH
