theorem N_newq {K : MI} {sh : Shp} {PM : Mem → Prop} {d kc ks : Nat} {D : va_G} {cts : Nat → ClassId} {ad0 : Nat → Nat} {h0 : Nat} {ws : va_W} {k n pc : Nat} {ls : List (Option Value)} {st : List Value} {idx N t0 : Nat} {C : String} {z : Int32}
    (w1 : Cond.classLink K.1.cls idx C ∈ gtbl) (w2 : ∀ U, NFs U → va_AO C U) (ht : ∀ c : Nat → ClassId, (tysOf c)[t0]? = some (c t0, .object C)) (hn : ¬ z < 0) (hN : z.toNatClampNeg = N) (hb : N * 4 ≤ 536870912) (hk : k + 1 ≤ kc) (hs : n + N ≤ ks) (hd : decode K.2.1 pc = .ok (.anewarray idx, 3))
    (g : ∀ q, GN K sh PM d kc ks D cts ad0 h0 (ws ++ [(q, .inl (cts t0, N, .inr (.inr (.inr (.inr (fun _ => none))))))]) (k + 1) (n + N) (pc + 3) ls (.ref q :: st)) : GN K sh PM d kc ks D cts ad0 h0 ws k n pc ls (.int z :: st) := by
  intro p l e s m args below meth c H locs lsA F hin hK hF hP hD hS hl
  refine va_newq F.1 F.2.1 F.2.2.2.1 (F.2.2.2.2.1 _ w1) (w2 _ hF.2) hK hP hD hS (fun q hq => Or.inr hq) hn hN hb hk hs hd (fun q cA H1 hK1 hP1 hD1 hS1 => ?_)
  have e : cA = cts t0 := by
    obtain ⟨_, _, _, _, _, h1⟩ := (hK1.2 3 _ rfl).2
    obtain ⟨_, _, _, _, _, h2⟩ := (hK.2 t0 _ (ht cts)).2
    exact Option.some.inj (h1.symm.trans h2)
  subst e
  exact g q F hin hK hF hP1 hD1 hS1 hl
theorem N_astq {K : MI} {sh : Shp} {PM : Mem → Prop} {d kc ks : Nat} {D : va_G} {cts : Nat → ClassId} {ad0 : Nat → Nat} {h0 : Nat} {ws ws2 : va_W} {k n pc : Nat} {ls : List (Option Value)} {st : List Value} {t0 ci N a v : Nat} {r : vw_C} {vs : List Value} {f : Nat → Option Nat} {i : Int32}
    (q0 qk : Nat) (ha : ws[q0]? = some (a, .inl (cts t0, N, .inr (.inr (.inr (.inr f)))))) (ht : ∀ c : Nat → ClassId, (tysOf c)[t0]? = some (c t0, .object r.1)) (hv : ws[qk]? = some (v, .inr (ci, vs))) (hc : vwCl[ci]? = some r) (hin : vp_in i N) (hd : decode K.2.1 pc = .ok (.aastore, 1))
    (hw : ws.set q0 (a, .inl (cts t0, N, .inr (.inr (.inr (.inr (va_up f i.toNatClampNeg (some v))))))) = ws2) (g : GN K sh PM d kc ks D cts ad0 h0 ws2 k n (pc + 1) ls st) : GN K sh PM d kc ks D cts ad0 h0 ws k n pc ls (.ref v :: .int i :: .ref a :: st) := by
  intro p l e s m args below meth c H locs lsA F hnm hK hF hP hD hS hl
  subst hw
  exact va_astq F.1 F.2.1 hK hP hD hS q0 t0 qk ci ha (ht cts) hv hc hin hd (fun H1 locs1 hP1 hD1 hS1 => g F hnm hK hF hP1 hD1 hS1 hl)
theorem at59 {x y : Nat × va_E} {P R : va_W} (hP : P.length = 58) : (x :: (P ++ (y :: R)))[59]? = some y := by
  rw [List.getElem?_cons_succ, List.getElem?_append_right (by omega), hP]
  rfl
theorem atK {x : Nat × va_E} {P R : va_W} {n : Nat} {z : Nat × va_E} (hP : P.length = 58) (h : R[n]? = some z) : (x :: (P ++ R))[59 + n]? = some z := by
  rw [show 59 + n = 58 + n + 1 by omega, List.getElem?_cons_succ, List.getElem?_append_right (by omega), hP, Nat.add_sub_cancel_left]
  exact h
theorem set59 {x y z : Nat × va_E} {P R : va_W} (hP : P.length = 58) : (x :: (P ++ (y :: R))).set 59 z = x :: (P ++ (z :: R)) := by
  rw [List.set_cons_succ, List.set_append_right _ _ (by omega), hP]
  rfl
def SAe (cts : Nat → ClassId) (f : Nat → Option Nat) : va_E := .inl (cts 2, 4, .inr (.inr (.inr (.inr f))))
def TAe (cts : Nat → ClassId) : va_E := .inl (cts 0, 7, .inl fun _ => 0)
/-- the class, new -/
theorem pmh_congr {M M2 : Mem} (h : ∀ j, j < 11 → M2 j = M j) (H : PMH M) : PMH M2 := by
  obtain ⟨h1, h2, h3, h4, h5, h6⟩ := H
  refine ⟨by rw [h 0 (by omega)]; exact h1, by rw [h 0 (by omega)]; exact h2, by rw [h 0 (by omega)]; exact h3, by rw [h 0 (by omega)]; exact h4, fun c a b i => by rw [h c (by omega)]; exact h5 c a b i, fun j hj => by rw [h 10 (by omega)]; exact h6 j hj⟩
def wldF (cts : Nat → ClassId) (ad : Nat → Nat) (M : Mem) : Nat → Shp → va_W
  | _, [] => []
  | j, s :: r => (ad j, cel cts ad M j s) :: wldF cts ad M (j + 1) r
theorem wldF_at (cts : Nat → ClassId) (ad : Nat → Nat) (M : Mem) : ∀ (sh : Shp) (j k : Nat), (wldF cts ad M j sh)[k]? = (sh[k]?).map (fun s => (ad (j + k), cel cts ad M (j + k) s))
  | [], _, _ => rfl
  | s :: r, j, 0 => rfl
  | s :: r, j, k + 1 => by
    show (wldF cts ad M (j + 1) r)[k]? = (r[k]?).map _
    rw [wldF_at cts ad M r (j + 1) k, show j + 1 + k = j + (k + 1) by omega]
theorem wld_eq (cts : Nat → ClassId) (ad : Nat → Nat) (M : Mem) (sh : Shp) : wld cts ad M sh = wldF cts ad M 0 sh := by
  apply List.ext_getElem?
  intro k
  rw [wldF_at, wld, List.getElem?_mapIdx, Nat.zero_add]
def PMC (M : Mem) : Prop := PMH (hof M 1) ∧ PMH (hof M 34) ∧ M 0 4 = 0 ∧ (∀ i, M 60 i = 0) ∧ (∀ i, M 47 i = 0) ∧ M 46 1 = 0 ∧ ∀ s, s < 4 → M (61 + 2 * s) 0 = 0 ∧ M (61 + 2 * s) 1 = 0 ∧ ∀ i, M (62 + 2 * s) i = 0
