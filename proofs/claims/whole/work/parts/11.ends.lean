section Ends
variable {K : MI} {sh : Shp} {d : Nat} {Q : Option Value → Mem → Prop} {pc : Nat} {ls : List (Option Value)} {st : List Value} {M M2 : Mem}
theorem G_irm {x y : Int32} (hd : decode K.2.1 pc = .ok (.ireturn, 1)) (hr : K.2.2.2 = some .int) (hx : x = y) (hM : M = M2) (hQ : Q (some (.int y)) M2) : G K sh d Q pc ls [.int x] M := G_iret (st := []) hd hr (by rw [hx, hM]; exact hQ)
theorem G_zrm {x y : Int32} (hd : decode K.2.1 pc = .ok (.ireturn, 1)) (hr : K.2.2.2 = some .boolean) (hn : narrow .boolean (.int x) = .int x) (hx : x = y) (hM : M = M2) (hQ : Q (some (.int y)) M2) : G K sh d Q pc ls [.int x] M := G_zret (st := []) hd hr hn (by rw [hx, hM]; exact hQ)
theorem G_vrm (hd : decode K.2.1 pc = .ok (.return_, 1)) (hr : K.2.2.2 = none) (hM : M = M2) (hQ : Q none M2) : G K sh d Q pc ls [] M := G_vret (st := []) hd hr (by rw [hM]; exact hQ)
end Ends
/-! comparisons of numbers -/
theorem nI_toI {n : Nat} (h : n < 2147483648) : (nI n).toInt = (n : Int) := nI_toInt h
theorem i32_le {a b : Int32} : a ≤ b ↔ a.toInt ≤ b.toInt := Int32.le_iff_toInt_le
theorem i32_lt {a b : Int32} : a < b ↔ a.toInt < b.toInt := Int32.lt_iff_toInt_lt
/-- a number at least 0 and below nI n is one of them -/
theorem nI_of_has {x : Int32} {n : Nat} (hn : n < 2147483648) (h0 : ¬ x < 0) (h1 : ¬ nI n ≤ x) : ∃ k, k < n ∧ x = nI k := by
  rw [i32_lt] at h0
  rw [i32_le, nI_toI hn] at h1
  have h0' : ¬ x.toInt < 0 := h0
  have e : x = nI x.toInt.toNat := by
    apply Int32.toInt_inj.mp
    rw [nI_toI (by omega)]
    omega
  exact ⟨x.toInt.toNat, by omega, e⟩
theorem le_nn {i n : Nat} (hi : i < 2147483648) (hn : n < 2147483648) : nI n ≤ nI i ↔ n ≤ i := nI_leI hn hi
theorem lt_nn {i n : Nat} (hi : i < 2147483648) (hn : n < 2147483648) : nI i < nI n ↔ i < n := nI_ltI hi hn
theorem G_tlen {K : MI} {sh : Shp} {d : Nat} {Q : Option Value → Mem → Prop} {pc : Nat} {ls : List (Option Value)} {st : List Value} {M : Mem} (t : Nat) (ht : t < 3) (hd : decode K.2.1 pc = .ok (.arraylength, 1)) (kk : G K sh d Q (pc + 1) ls (.int (nI (tvl t).length) :: st) M) : G K sh d Q pc ls (.ref (1000 + t) :: st) M := by
  intro p l e s m args below meth c D cts ad H locs lsA F hP hS hl
  exact va_tlen F.1.1 F.1.2.1 (F.2.2.2.1 t ht).2 hS rfl hd (kk F hP hS hl)
theorem nI_z {n : Nat} (h : n < 2147483648) (h0 : 0 < n) : ¬ nI n = 0 := nI_ne0 h0 h
