theorem RR.hj {M σ : Mem} (hR : RR M σ) (hI : Inv σ) : HJ (toH (M 1)) (nOf σ) := fun i hi => by
  rw [hR.1.f 2 (by omega) (by omega) hi, hR.1.f 3 (by omega) (by omega) hi, hR.1.f 4 (by omega) (by omega) hi, hR.1.f 7 (by omega) (by omega) hi, hR.1.f 8 (by omega) (by omega) hi, hR.1.f 9 (by omega) (by omega) hi]
  exact hI.1.j i hi
theorem RR.ho {M σ : Mem} (hR : RR M σ) (hI : Inv σ) : 0 ≤ (toH (M 1) 0 1).toInt := by
  rw [hR.1.1 1 (by omega)]
  exact hI.1.2.2.1.1
theorem RR.wH {M σ : Mem} (hR : RR M σ) {k w q o : Nat} {x : Int32} (hw : w < 9) (ho : o < nOf σ) : hoursH (nOf σ) k (ups (toH (M 1)) (1 + w) q x) 2 o = wH σ k w q x 2 o := (hoursH_congr (hR.1.upd1 (c := 1 + w) (by omega) (by omega)) k).f 2 (by omega) (by omega) ho