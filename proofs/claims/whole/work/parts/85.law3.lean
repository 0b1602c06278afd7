theorem law_sw {L : Nat} {xs : Nat → Int32} {i : Nat} {M σ : Mem} (hL : L ≤ 3072) (hi : i + 6 ≤ L) (hF : LI M σ) (k : ∀ M2 σ2, LI M2 σ2 → GL L xs 1450 (lsL i) [] M2) : GL L xs 33 (lsL i) [.int (xs i &&& 63)] M := by
  obtain ⟨t, ht, e⟩ := and_nat (xs i) (m := 63) (by omega)
  rw [show (63 : Int32) = nI 63 from rfl, e]
  have hI := hF.2.2
  by_cases h45 : 45 < t
  · refine L_tableOut dL_law_33 (tgt := 1450) (Or.inr ?_) (by decide) (k M σ hF)
    rw [nI_toI (by omega)]
    omega
  · have h1 : ¬ (nI t).toInt < 0 := by rw [nI_toI (by omega)]; omega
    have h2 : ¬ (45 : Int) < (nI t).toInt := by rw [nI_toI (by omega)]; omega
    have hc : t ∈ List.range 46 := List.mem_range.mpr (by omega)
    have hd : t = 0 ∨ t = 1 ∨ t = 2 ∨ t = 3 ∨ t = 4 ∨ t = 5 ∨ t = 6 ∨ t = 7 ∨ t = 8 ∨ t = 9 ∨ t = 10 ∨ t = 11 ∨ t = 12 ∨ t = 13 ∨ t = 14 ∨ t = 15 ∨ t = 16 ∨ t = 17 ∨ t = 18 ∨ t = 19 ∨ t = 20 ∨ t = 21 ∨ t = 22 ∨ t = 23 ∨ t = 24 ∨ t = 25 ∨ t = 26 ∨ t = 27 ∨ t = 28 ∨ t = 29 ∨ t = 30 ∨ t = 31 ∨ t = 32 ∨ t = 33 ∨ t = 34 ∨ t = 35 ∨ t = 36 ∨ t = 37 ∨ t = 38 ∨ t = 39 ∨ t = 40 ∨ t = 41 ∨ t = 42 ∨ t = 43 ∨ t = 44 ∨ t = 45 := by omega
    rcases hd with rfl | rfl | rfl | rfl | rfl | rfl | rfl | rfl | rfl | rfl | rfl | rfl | rfl | rfl | rfl | rfl | rfl | rfl | rfl | rfl | rfl | rfl | rfl | rfl | rfl | rfl | rfl | rfl | rfl | rfl | rfl | rfl | rfl | rfl | rfl | rfl | rfl | rfl | rfl | rfl | rfl | rfl | rfl | rfl | rfl | rfl
    · exact L_tableIn dL_law_33 (off := 199) (tgt := 232) h1 h2 rfl (by decide) (law_room hL hi hF (inv_room hI) k)
    · exact L_tableIn dL_law_33 (off := 222) (tgt := 255) h1 h2 rfl (by decide) (law_of hL hi hF (inv_of hI) k)
    · exact L_tableIn dL_law_33 (off := 255) (tgt := 288) h1 h2 rfl (by decide) (law_change hL hi hF (inv_change hI) k)
    · exact L_tableIn dL_law_33 (off := 298) (tgt := 331) h1 h2 rfl (by decide) (law_out hL hi hF (inv_out hI) k)
    · exact L_tableIn dL_law_33 (off := 321) (tgt := 354) h1 h2 rfl (by decide) (law_heaters hL hi hF (inv_heaters hI) k)
    · exact L_tableIn dL_law_33 (off := 344) (tgt := 377) h1 h2 rfl (by decide) (law_reach hL hi hF (inv_reach hI) k)
    · exact L_tableIn dL_law_33 (off := 367) (tgt := 400) h1 h2 rfl (by decide) (law_move hL hi hF (inv_move hI) k)
    · exact L_tableIn dL_law_33 (off := 400) (tgt := 433) h1 h2 rfl (by decide) (law_hours hL hi hF (inv_hours hI) k)
    · exact L_tableIn dL_law_33 (off := 423) (tgt := 456) h1 h2 rfl (by decide) (law_now hL hi hF (inv_now hI) k)
    · exact L_tableIn dL_law_33 (off := 446) (tgt := 479) h1 h2 rfl (by decide) (law_ahead hL hi hF (inv_ahead hI) k)
    · exact L_tableIn dL_law_33 (off := 479) (tgt := 512) h1 h2 rfl (by decide) (law_cold hL hi hF (inv_first hI) k)
    · exact L_tableIn dL_law_33 (off := 502) (tgt := 535) h1 h2 rfl (by decide) (law_spent hL hi hF (inv_first hI) k)
    · exact L_tableIn dL_law_33 (off := 525) (tgt := 558) h1 h2 rfl (by decide) (law_rest hL hi hF (inv_rest hI) k)
    · exact L_tableIn dL_law_33 (off := 538) (tgt := 571) h1 h2 rfl (by decide) (law_circle hL hi hF (inv_circle hI) k)
    · exact L_tableIn dL_law_33 (off := 551) (tgt := 584) h1 h2 rfl (by decide) (law_spread hL hi hF (inv_spread hI) k)
    · exact L_tableIn dL_law_33 (off := 584) (tgt := 617) h1 h2 rfl (by decide) (law_kindFor hL hi hF (inv_best hI) k)
    · exact L_tableIn dL_law_33 (off := 617) (tgt := 650) h1 h2 rfl (by decide) (law_tempted hL hi hF (inv_tempted hI) k)
    · exact L_tableIn dL_law_33 (off := 640) (tgt := 673) h1 h2 rfl (by decide) (law_missed hL hi hF (inv_missed hI) k)
    · exact L_tableIn dL_law_33 (off := 663) (tgt := 696) h1 h2 rfl (by decide) (law_warmest hL hi hF (inv_warmest hI) k)
    · exact L_tableIn dL_law_33 (off := 686) (tgt := 719) h1 h2 rfl (by decide) (law_exchange hL hi hF (inv_exchange hI) k)
    · exact L_tableIn dL_law_33 (off := 709) (tgt := 742) h1 h2 rfl (by decide) (law_deal hL hi hF (inv_deal hI) k)
    · exact L_tableIn dL_law_33 (off := 732) (tgt := 765) h1 h2 rfl (by decide) (law_orders hL hi hF (inv_orders hI) k)
    · exact L_tableIn dL_law_33 (off := 765) (tgt := 798) h1 h2 rfl (by decide) (law_coal hL hi hF (inv_coal hI) k)
    · exact L_tableIn dL_law_33 (off := 798) (tgt := 831) h1 h2 rfl (by decide) (law_wall hL hi hF (inv_wall hI) k)
    · exact L_tableIn dL_law_33 (off := 831) (tgt := 864) h1 h2 rfl (by decide) (law_turn hL hi hF (inv_turn hI) k)
    · exact L_tableIn dL_law_33 (off := 864) (tgt := 897) h1 h2 rfl (by decide) (law_damper hL hi hF (inv_best hI) k)
    · exact L_tableIn dL_law_33 (off := 897) (tgt := 930) h1 h2 rfl (by decide) (law_own hL hi hF (inv_own hI) k)
    · exact L_tableIn dL_law_33 (off := 920) (tgt := 953) h1 h2 rfl (by decide) (law_culprits hL hi hF (inv_culprits hI) k)
    · exact L_tableIn dL_law_33 (off := 933) (tgt := 966) h1 h2 rfl (by decide) (law_surely hL hi hF (inv_surely hI) k)
    · exact L_tableIn dL_law_33 (off := 956) (tgt := 989) h1 h2 rfl (by decide) (law_travel hL hi hF (inv_travel hI) k)
    · exact L_tableIn dL_law_33 (off := 979) (tgt := 1012) h1 h2 rfl (by decide) (law_seed hL hi hF (inv_seed hI) k)
    · exact L_tableIn dL_law_33 (off := 1002) (tgt := 1035) h1 h2 rfl (by decide) (law_feed hL hi hF (inv_feed hI) k)
    · exact L_tableIn dL_law_33 (off := 1035) (tgt := 1068) h1 h2 rfl (by decide) (law_wipe hL hi hF (inv_wipe hI) k)
    · exact L_tableIn dL_law_33 (off := 1048) (tgt := 1081) h1 h2 rfl (by decide) (law_text hL hi hF (inv_text hI) k)
    · exact L_tableIn dL_law_33 (off := 1061) (tgt := 1094) h1 h2 rfl (by decide) (law_hold hL hi hF (inv_hold hI) k)
    · exact L_tableIn dL_law_33 (off := 1094) (tgt := 1127) h1 h2 rfl (by decide) (law_as hL hi hF (inv_as hI) k)
    · exact L_tableIn dL_law_33 (off := 1127) (tgt := 1160) h1 h2 rfl (by decide) (law_sheet hL hi hF (inv_sheet hI) k)
    · exact L_tableIn dL_law_33 (off := 1170) (tgt := 1203) h1 h2 rfl (by decide) (law_write hL hi hF (inv_write hI) k)
    · exact L_tableIn dL_law_33 (off := 1213) (tgt := 1246) h1 h2 rfl (by decide) (law_copy hL hi hF (inv_copy hI) k)
    · exact L_tableIn dL_law_33 (off := 1276) (tgt := 1309) h1 h2 rfl (by decide) (law_load hL hi hF (inv_load hI) k)
    · exact L_tableIn dL_law_33 (off := 1299) (tgt := 1332) h1 h2 rfl (by decide) (law_judge hL hi hF (inv_judge hI) k)
    · exact L_tableIn dL_law_33 (off := 1332) (tgt := 1365) h1 h2 rfl (by decide) (law_image hL hi hF (inv_image hI) k)
    · exact L_tableIn dL_law_33 (off := 1345) (tgt := 1378) h1 h2 rfl (by decide) (law_undo hL hi hF (inv_undo hI) k)
    · exact L_tableIn dL_law_33 (off := 1358) (tgt := 1391) h1 h2 rfl (by decide) (law_tear hL hi hF (inv_tear hI) k)
    · exact L_tableIn dL_law_33 (off := 1371) (tgt := 1404) h1 h2 rfl (by decide) (law_count hL hi hF (inv_count hI) k)
    · exact L_tableIn dL_law_33 (off := 1394) (tgt := 1427) h1 h2 rfl (by decide) (law_status hL hi hF (inv_status hI) k)
theorem law_go {L : Nat} {xs : Nat → Int32} (hL : L ≤ 3072) : ∀ (f i : Nat) (M σ : Mem), L ≤ i + f → i ≤ 4000 → LI M σ → GL L xs 18 (lsL i) [] M := by
  intro f
  induction f with
  | zero =>
    intro i M σ h hi hF
    refine L_iload_n dL_law_18 (i := 3) (x := nI i) rfl rfl ?_
    refine L_aload_n dL_law_19 (i := 0) (x := 2000) rfl rfl ?_
    refine L_slen dL_law_20 ?_
    refine L_bipush dL_law_21 (v := 6) (by decide) ?_
    refine L_isub dL_law_23 ?_
    have e : (nI L - 6).toInt = (L : Int) - 6 := by
      rw [sub_I (by rw [nI_toI (by omega)]; show (-2147483648 : Int) ≤ (L : Int) - 6; omega) (by rw [nI_toI (by omega)]; show (L : Int) - 6 < 2147483648; omega), nI_toI (by omega)]
      rfl
    refine L_icmp_gt dL_law_24 (tgt := 1456) (by decide) (fun _ => ?_) (fun q => absurd ?_ q)
    · exact L_iconst dL_law_1456 (v := 1) (by decide) (L_ret dL_law_1457)
    · rw [i32_lt, e, nI_toI (by omega)]
      omega
  | succ f ih =>
    intro i M σ h hi hF
    refine L_iload_n dL_law_18 (i := 3) (x := nI i) rfl rfl ?_
    refine L_aload_n dL_law_19 (i := 0) (x := 2000) rfl rfl ?_
    refine L_slen dL_law_20 ?_
    refine L_bipush dL_law_21 (v := 6) (by decide) ?_
    refine L_isub dL_law_23 ?_
    have e : (nI L - 6).toInt = (L : Int) - 6 := by
      rw [sub_I (by rw [nI_toI (by omega)]; show (-2147483648 : Int) ≤ (L : Int) - 6; omega) (by rw [nI_toI (by omega)]; show (L : Int) - 6 < 2147483648; omega), nI_toI (by omega)]
      rfl
    refine L_icmp_gt dL_law_24 (tgt := 1456) (by decide) (fun _ => ?_) (fun q => ?_)
    · exact L_iconst dL_law_1456 (v := 1) (by decide) (L_ret dL_law_1457)
    · rw [i32_lt, e, nI_toI (by omega)] at q
      have hi6 : i + 6 ≤ L := by omega
      refine L_aload_n dL_law_27 (i := 0) (x := 2000) rfl rfl ?_
      refine L_iload_n dL_law_28 (i := 3) (x := nI i) rfl rfl ?_
      refine L_sld (by omega) hL dL_law_29 ?_
      refine L_bipush dL_law_30 (v := 63) (by decide) ?_
      refine L_iand dL_law_32 ?_
      refine law_sw hL hi6 hF (fun M2 σ2 hF2 => ?_)
      refine L_iinc dL_law_1450 (i := 3) (x := nI i) (v := nI (i + 6)) (by omega) rfl (nI_add i 6) ?_
      refine L_goto dL_law_1453 (tgt := 18) (by decide) ?_
      exact ih (i + 6) M2 σ2 (by omega) (by omega) hF2
