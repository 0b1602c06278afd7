theorem jf_value : Cond.fieldLink RJ0 9 "java/lang/String" "value" "[B" ∈ gtbl := tb_6 46 (by decide +kernel)
theorem jf_coder : Cond.fieldLink RJ0 15 "java/lang/String" "coder" "B" ∈ gtbl := tb_6 47 (by decide +kernel)
theorem jf_compact : Cond.fieldLink RJ0 38 "java/lang/String" "COMPACT_STRINGS" "Z" ∈ gtbl := tb_3 75 (by decide +kernel)
theorem jf_sioobe : Cond.fieldLink RJ0 1053 "jdk/internal/util/Preconditions" "SIOOBE_FORMATTER" "Ljava/util/function/BiFunction;" ∈ gtbl := tb_3 91 (by decide +kernel)
/-! the String constants: bytes at 1200 + i -/
theorem G_sval {K : MI} {sh : Shp} {d : Nat} {Q : Option Value → Mem → Prop} {pc : Nat} {ls : List (Option Value)} {st : List Value} {M : Mem} {idx i : Nat} (hi : i < 14) (hlink : Cond.fieldLink K.1.cls idx "java/lang/String" "value" "[B" ∈ gtbl) (hd : decode K.2.1 pc = .ok (.getfield idx, 3)) (kk : G K sh d Q (pc + 3) ls (.ref (1200 + i) :: st) M) : G K sh d Q pc ls (.ref (1100 + i) :: st) M := by
  intro p l e s m args below meth c D cts ad H locs lsA F hP hS hl
  exact vk_getf F.1.1 F.1.2.1 (F.2.2.2.2.2.2.1.1 i hi).2.2.1 hS F.1.2.2.2.1 (F.1.2.2.2.2.1 _ hlink) (fun _ h => h) hd (kk F hP hS hl)
theorem G_scod {K : MI} {sh : Shp} {d : Nat} {Q : Option Value → Mem → Prop} {pc : Nat} {ls : List (Option Value)} {st : List Value} {M : Mem} {idx i : Nat} (hi : i < 14) (hlink : Cond.fieldLink K.1.cls idx "java/lang/String" "coder" "B" ∈ gtbl) (hd : decode K.2.1 pc = .ok (.getfield idx, 3)) (kk : G K sh d Q (pc + 3) ls (.int 0 :: st) M) : G K sh d Q pc ls (.ref (1100 + i) :: st) M := by
  intro p l e s m args below meth c D cts ad H locs lsA F hP hS hl
  exact vk_getf F.1.1 F.1.2.1 (F.2.2.2.2.2.2.1.1 i hi).2.1 hS F.1.2.2.2.1 (F.1.2.2.2.2.1 _ hlink) (fun _ h => h) hd (kk F hP hS hl)
theorem G_gcs {K : MI} {sh : Shp} {d : Nat} {Q : Option Value → Mem → Prop} {pc : Nat} {ls : List (Option Value)} {st : List Value} {M : Mem} {idx : Nat} (hlink : Cond.fieldLink K.1.cls idx "java/lang/String" "COMPACT_STRINGS" "Z" ∈ gtbl) (hd : decode K.2.1 pc = .ok (.getstatic idx, 3)) (kk : G K sh d Q (pc + 3) ls (.int 1 :: st) M) : G K sh d Q pc ls st M := by
  intro p l e s m args below meth c D cts ad H locs lsA F hP hS hl
  exact va_gets F.1.1 F.1.2.1 F.2.2.2.2.1 hS F.1.2.2.2.1 (F.1.2.2.2.2.1 _ hlink) (fun _ h => h) hd (kk F hP hS hl)
theorem G_gsf {K : MI} {sh : Shp} {d : Nat} {Q : Option Value → Mem → Prop} {pc : Nat} {ls : List (Option Value)} {st : List Value} {M : Mem} {idx : Nat} (hlink : Cond.fieldLink K.1.cls idx "jdk/internal/util/Preconditions" "SIOOBE_FORMATTER" "Ljava/util/function/BiFunction;" ∈ gtbl) (hd : decode K.2.1 pc = .ok (.getstatic idx, 3)) (k1 : G K sh d Q (pc + 3) ls (.null :: st) M) (k2 : G K sh d Q (pc + 3) ls (.ref 1300 :: st) M) : G K sh d Q pc ls st M := by
  intro p l e s m args below meth c D cts ad H locs lsA F hP hS hl
  rcases F.2.2.2.2.2.1 with z | z
  · exact va_gets F.1.1 F.1.2.1 z hS F.1.2.2.2.1 (F.1.2.2.2.2.1 _ hlink) (fun _ h => h) hd (k1 F hP hS hl)
  · exact va_gets F.1.1 F.1.2.1 z hS F.1.2.2.2.1 (F.1.2.2.2.2.1 _ hlink) (fun _ h => h) hd (k2 F hP hS hl)
theorem G_slen {K : MI} {sh : Shp} {d : Nat} {Q : Option Value → Mem → Prop} {pc : Nat} {ls : List (Option Value)} {st : List Value} {M : Mem} {i : Nat} (hi : i < 14) (hd : decode K.2.1 pc = .ok (.arraylength, 1)) (kk : G K sh d Q (pc + 1) ls (.int (nI (strLen.getD i 0)) :: st) M) : G K sh d Q pc ls (.ref (1200 + i) :: st) M := by
  intro p l e s m args below meth c D cts ad H locs lsA F hP hS hl
  exact va_tlen F.1.1 F.1.2.1 (F.2.2.2.2.2.2.1.1 i hi).2.2.2 hS rfl hd (kk F hP hS hl)
theorem str_small : ∀ i : Fin 14, strLen.getD i.1 0 < 9 := by decide +kernel
theorem G_sbal {K : MI} {sh : Shp} {d : Nat} {Q : Option Value → Mem → Prop} {pc : Nat} {ls : List (Option Value)} {st : List Value} {M : Mem} {i k : Nat} (hi : i < 14) (hk : k < strLen.getD i 0) (hd : decode K.2.1 pc = .ok (.baload, 1)) (kk : G K sh d Q (pc + 1) ls (.int ((strByt.getD i []).getD k 0) :: st) M) : G K sh d Q pc ls (.int (nI k) :: .ref (1200 + i) :: st) M := by
  intro p l e s m args below meth c D cts ad H locs lsA F hP hS hl
  have hL := str_small ⟨i, hi⟩
  have hL2 : strLen.getD i 0 < 9 := hL
  exact va_tb F.1.1 F.1.2.1 (F.2.2.2.2.2.2.1.1 i hi).2.2.2 hS (vp_in_nI hk (by omega)) (by rw [nI_clamp (by omega)]; rfl) hd (kk F hP hS hl)
theorem G_i2cc {K : MI} {sh : Shp} {d : Nat} {Q : Option Value → Mem → Prop} {pc : Nat} {ls : List (Option Value)} {st : List Value} {M : Mem} {x y : Int32} (hd : decode K.2.1 pc = .ok (.i2c, 1)) (hv : (x.toUInt32 % 65536).toInt32 = y) (kk : G K sh d Q (pc + 1) ls (.int y :: st) M) : G K sh d Q pc ls (.int x :: st) M := by
  intro p l e s m args below meth c D cts ad H locs lsA F hP hS hl
  exact lv_i2c F.1.1 F.1.2.1 hd hv (kk F hP hS hl)
theorem G_tret {K : MI} {sh : Shp} {d : Nat} {Q : Option Value → Mem → Prop} {pc : Nat} {ls : List (Option Value)} {M : Mem} {x : Int32} {ty : FieldType} (hd : decode K.2.1 pc = .ok (.ireturn, 1)) (hr : K.2.2.2 = some ty) (hn : narrow ty (.int x) = .int x) (hQ : Q (some (.int x)) M) : G K sh d Q pc ls [.int x] M := by
  intro p l e s m args below meth c D cts ad H locs lsA F hP hS hl
  exact W.zret F.1.1 F.1.2.1 (F.1.2.2.2.2.2.1.trans hr) hn (fun t ht _ => ⟨⟨some (.int x), M, rfl, hQ, by rw [ht]; exact hP⟩, hS.F ht⟩) hS.2.2 hd F.1.2.2.2.2.2.2
theorem G_callStr {K y : MI} {sh : Shp} {d d' n idx i : Nat} {Q Q' : Option Value → Mem → Prop} {pc : Nat} {ls : List (Option Value)} {st as rest : List Value} {M : Mem} (hi : i < 14)
    (hc : CT y sh d' (.ref (1100 + i) :: as) M Q') (hy : VI y n) (hn : as.length = n) (hlink : Cond.methodLink K.1.cls idx y.1 ∈ gtbl) (hcls : y.1.cls = "java/lang/String")
    (hd' : d' + 1 ≤ d) (hrest : (rest.map fun v => v.category).sum ≤ 8) (hd : decode K.2.1 pc = .ok (.invokevirtual idx, 3)) (hst : st = as.reverse ++ .ref (1100 + i) :: rest)
    (kk : ∀ v M', Q' v M' → G K sh d Q (pc + 3) ls (v.toList ++ rest) M') : G K sh d Q pc ls st M := by
  intro p l e s m args below meth c D cts ad H locs lsA F hP hS hl
  subst hst
  obtain ⟨v1, v2, v3, v4, v5, v6⟩ := hy
  have hts := F.1.2.2.2.2.1
  have hrec2 := vk_recv (F.2.2.2.2.2.2.1) hi hS
  rw [← hcls] at hrec2
  have hst : (as.reverse ++ Value.ref (1100 + i) :: rest).map (tv ad) = ((as.map (tv fun j => j)).reverse ++ Value.ref (1100 + i) :: rest).map (tv ad) := by rw [map_tv_id]
  rw [hst]
  refine G_run (ι := fun j => j) (mg := fun M' => M') (av := (Value.ref (ad (1100 + i)) :: as.map (tv fun j => ad j)).toArray) (Sub.id sh) (fun M' => Mrg.id _ _ M') (fun v M' h => by rw [omap_tv_id]; exact kk v M' h) F hP hS hl ?_
  refine va_runV (As := as.map (tv fun j => ad j)) (n := n) (Ts := gtbl) (own := K.1.cls) (y := y.1) (C := y.1.cls) ⟨F.1.1, F.1.2.1, F.1.2.2.1, F.1.2.2.2.1, hts⟩ (hc l D cts (fun j => ad j))
    ⟨callB_of n hts (good_y v1) rfl rfl rfl (hts _ v4) (hts _ hlink) v5 (rmd_le hd' v6), hts _ v2, hts _ v3⟩
    ⟨WU.blind, hrec2, fun U hU hW => ⟨rfl, WU.of F hP hS (Sub.id sh) (fun _ _ => rfl) U hU hW⟩⟩ rfl (by rw [List.length_map]; exact hn) hl.1.1 (map_args ad (fun j => j) as _) ?_ hd ⟨Nat.le_refl 0, Nat.le_refl 0⟩
  exact lv_room (by rw [tv_cats]; exact hrest)
set_option maxRecDepth 20000 in
theorem j_coder {sh : Shp} {M : Mem} {i : Nat} (hi : i < 14) {Q : Option Value → Mem → Prop} (hQ : Q (some (.int 0)) M) : CT mJ0_coder_7d493 sh 0 [.ref (1100 + i)] M Q := by
  refine CT.mk [some (.ref (1100 + i))] (by decide) (Nat.le_of_ble_eq_true rfl) rfl rfl ?_
  refine G_gcs (K := mJ0_coder_7d493) jf_compact dJ0_coder_7d493_0 ?_
  refine G_if_eq (K := mJ0_coder_7d493) (tgt := 13) dJ0_coder_7d493_3 (by decide) (fun c => absurd c (by decide)) (fun _ => ?_)
  refine G_aload_n (K := mJ0_coder_7d493) (i := 0) dJ0_coder_7d493_6 rfl rfl ?_
  refine G_scod (K := mJ0_coder_7d493) hi jf_coder dJ0_coder_7d493_7 ?_
  refine G_goto (K := mJ0_coder_7d493) (tgt := 14) dJ0_coder_7d493_10 (by decide) ?_
  exact G_tret (K := mJ0_coder_7d493) dJ0_coder_7d493_14 rfl rfl hQ
set_option maxRecDepth 20000 in
theorem j_latin {sh : Shp} {M : Mem} {i : Nat} (hi : i < 14) {Q : Option Value → Mem → Prop} (hQ : Q (some (.int 1)) M) : CT mJ0_isLatin1_aae02 sh 0 [.ref (1100 + i)] M Q := by
  refine CT.mk [some (.ref (1100 + i))] (by decide) (Nat.le_of_ble_eq_true rfl) rfl rfl ?_
  refine G_gcs (K := mJ0_isLatin1_aae02) jf_compact dJ0_isLatin1_aae02_0 ?_
  refine G_if_eq (K := mJ0_isLatin1_aae02) (tgt := 17) dJ0_isLatin1_aae02_3 (by decide) (fun c => absurd c (by decide)) (fun _ => ?_)
  refine G_aload_n (K := mJ0_isLatin1_aae02) (i := 0) dJ0_isLatin1_aae02_6 rfl rfl ?_
  refine G_scod (K := mJ0_isLatin1_aae02) hi jf_coder dJ0_isLatin1_aae02_7 ?_
  refine G_if_ne (K := mJ0_isLatin1_aae02) (tgt := 17) dJ0_isLatin1_aae02_10 (by decide) (fun c => absurd rfl c) (fun _ => ?_)
  refine G_iconst (K := mJ0_isLatin1_aae02) (v := 1) dJ0_isLatin1_aae02_13 (by decide) ?_
  refine G_goto (K := mJ0_isLatin1_aae02) (tgt := 18) dJ0_isLatin1_aae02_14 (by decide) ?_
  exact G_tret (K := mJ0_isLatin1_aae02) dJ0_isLatin1_aae02_18 rfl rfl hQ
set_option maxRecDepth 20000 in
theorem j_chk3n {sh : Shp} {M : Mem} {k n : Nat} (hk : k < n) (hn : n < 2147483648) {Q : Option Value → Mem → Prop} (hQ : Q (some (.int (nI k))) M) : CT mJ3_checkIndex_8e157 sh 0 [.int (nI k), .int (nI n), .null] M Q := by
  refine CT.mk [some (.int (nI k)), some (.int (nI n)), some (.null)] (by decide) (Nat.le_of_ble_eq_true rfl) rfl rfl ?_
  refine G_iload_n (K := mJ3_checkIndex_8e157) (i := 0) dJ3_checkIndex_8e157_0 rfl rfl ?_
  refine G_if_lt (K := mJ3_checkIndex_8e157) (tgt := 9) dJ3_checkIndex_8e157_1 (by decide) (fun c => absurd c (nI_pos (by omega))) (fun _ => ?_)
  refine G_iload_n (K := mJ3_checkIndex_8e157) (i := 0) dJ3_checkIndex_8e157_4 rfl rfl ?_
  refine G_iload_n (K := mJ3_checkIndex_8e157) (i := 1) dJ3_checkIndex_8e157_5 rfl rfl ?_
  refine G_icmp_lt (K := mJ3_checkIndex_8e157) (tgt := 16) dJ3_checkIndex_8e157_6 (by decide) (fun _ => ?_) (fun c => absurd ((lt_nn (by omega) (by omega)).mpr hk) c)
  refine G_iload_n (K := mJ3_checkIndex_8e157) (i := 0) dJ3_checkIndex_8e157_16 rfl rfl ?_
  exact G_iret (st := []) (K := mJ3_checkIndex_8e157) dJ3_checkIndex_8e157_17 rfl hQ
set_option maxRecDepth 20000 in
theorem j_chk3r {sh : Shp} {M : Mem} {k n : Nat} (hk : k < n) (hn : n < 2147483648) {Q : Option Value → Mem → Prop} (hQ : Q (some (.int (nI k))) M) : CT mJ3_checkIndex_8e157 sh 0 [.int (nI k), .int (nI n), .ref 1300] M Q := by
  refine CT.mk [some (.int (nI k)), some (.int (nI n)), some (.ref 1300)] (by decide) (Nat.le_of_ble_eq_true rfl) rfl rfl ?_
  refine G_iload_n (K := mJ3_checkIndex_8e157) (i := 0) dJ3_checkIndex_8e157_0 rfl rfl ?_
  refine G_if_lt (K := mJ3_checkIndex_8e157) (tgt := 9) dJ3_checkIndex_8e157_1 (by decide) (fun c => absurd c (nI_pos (by omega))) (fun _ => ?_)
  refine G_iload_n (K := mJ3_checkIndex_8e157) (i := 0) dJ3_checkIndex_8e157_4 rfl rfl ?_
  refine G_iload_n (K := mJ3_checkIndex_8e157) (i := 1) dJ3_checkIndex_8e157_5 rfl rfl ?_
  refine G_icmp_lt (K := mJ3_checkIndex_8e157) (tgt := 16) dJ3_checkIndex_8e157_6 (by decide) (fun _ => ?_) (fun c => absurd ((lt_nn (by omega) (by omega)).mpr hk) c)
  refine G_iload_n (K := mJ3_checkIndex_8e157) (i := 0) dJ3_checkIndex_8e157_16 rfl rfl ?_
  exact G_iret (st := []) (K := mJ3_checkIndex_8e157) dJ3_checkIndex_8e157_17 rfl hQ
set_option maxRecDepth 20000 in
theorem j_chk {sh : Shp} {M : Mem} {k n : Nat} (hk : k < n) (hn : n < 2147483648) {Q : Option Value → Mem → Prop} (hQ : Q none M) : CT mJ0_checkIndex_df160 sh 1 [.int (nI k), .int (nI n)] M Q := by
  refine CT.mk [some (.int (nI k)), some (.int (nI n))] (by decide) (Nat.le_of_ble_eq_true rfl) rfl rfl ?_
  refine G_iload_n (K := mJ0_checkIndex_df160) (i := 0) dJ0_checkIndex_df160_0 rfl rfl ?_
  refine G_iload_n (K := mJ0_checkIndex_df160) (i := 1) dJ0_checkIndex_df160_1 rfl rfl ?_
  refine G_gsf (K := mJ0_checkIndex_df160) jf_sioobe dJ0_checkIndex_df160_2 ?_ ?_
  · refine G_sv (K := mJ0_checkIndex_df160) (j_chk3n (sh := sh) (M := M) hk hn ⟨rfl, rfl⟩) sJ3_checkIndex_8e157 rfl lJ0_1059 dJ0_checkIndex_df160_5 (by decide) rfl (Nat.le_of_ble_eq_true rfl) ?_
    refine G_pop (K := mJ0_checkIndex_df160) dJ0_checkIndex_df160_8 rfl ?_
    exact G_vret (st := []) (K := mJ0_checkIndex_df160) dJ0_checkIndex_df160_9 rfl hQ
  · refine G_sv (K := mJ0_checkIndex_df160) (j_chk3r (sh := sh) (M := M) hk hn ⟨rfl, rfl⟩) sJ3_checkIndex_8e157 rfl lJ0_1059 dJ0_checkIndex_df160_5 (by decide) rfl (Nat.le_of_ble_eq_true rfl) ?_
    refine G_pop (K := mJ0_checkIndex_df160) dJ0_checkIndex_df160_8 rfl ?_
    exact G_vret (st := []) (K := mJ0_checkIndex_df160) dJ0_checkIndex_df160_9 rfl hQ
theorem chr_ok : ∀ i : Fin 14, ∀ k : Fin 9, k.1 < strLen.getD i.1 0 → ((((strByt.getD i.1 []).getD k.1 0) &&& 255).toUInt32 % 65536).toInt32 = (strByt.getD i.1 []).getD k.1 0 := by decide +kernel
theorem chr_nar : ∀ i : Fin 14, ∀ k : Fin 9, k.1 < strLen.getD i.1 0 → (((strByt.getD i.1 []).getD k.1 0).toUInt32 % 65536).toInt32 = (strByt.getD i.1 []).getD k.1 0 := by decide +kernel
theorem chr_nar2 {i k : Nat} (hi : i < 14) (hk : k < strLen.getD i 0) : narrow .char (.int ((strByt.getD i []).getD k 0)) = .int ((strByt.getD i []).getD k 0) := by
  have hL : strLen.getD i 0 < 9 := str_small ⟨i, hi⟩
  exact congrArg Value.int (chr_nar ⟨i, hi⟩ ⟨k, by omega⟩ hk)
theorem len_ok : ∀ i : Fin 14, nI (strLen.getD i.1 0) >>> ((0 : Int32) &&& 31) = nI (strLen.getD i.1 0) := by decide +kernel
set_option maxRecDepth 20000 in
theorem j_charL {sh : Shp} {M : Mem} {i : Nat} (hi : i < 14) {k : Nat} (hk : k < strLen.getD i 0) {Q : Option Value → Mem → Prop} (hQ : Q (some (.int ((strByt.getD i []).getD k 0))) M) : CT mJ1_charAt_3b067 sh 2 [.ref (1200 + i), .int (nI k)] M Q := by
  refine CT.mk [some (.ref (1200 + i)), some (.int (nI k))] (by decide) (Nat.le_of_ble_eq_true rfl) rfl rfl ?_
  have hL : strLen.getD i 0 < 9 := str_small ⟨i, hi⟩
  refine G_iload_n (K := mJ1_charAt_3b067) (i := 1) dJ1_charAt_3b067_0 rfl rfl ?_
  refine G_aload_n (K := mJ1_charAt_3b067) (i := 0) dJ1_charAt_3b067_1 rfl rfl ?_
  refine G_slen (K := mJ1_charAt_3b067) hi dJ1_charAt_3b067_2 ?_
  refine G_sn (K := mJ1_charAt_3b067) (j_chk (sh := sh) (M := M) hk (by omega) ⟨rfl, rfl⟩) sJ0_checkIndex_df160 rfl lJ1_9 dJ1_charAt_3b067_3 (by decide) rfl (Nat.le_of_ble_eq_true rfl) ?_
  refine G_aload_n (K := mJ1_charAt_3b067) (i := 0) dJ1_charAt_3b067_6 rfl rfl ?_
  refine G_iload_n (K := mJ1_charAt_3b067) (i := 1) dJ1_charAt_3b067_7 rfl rfl ?_
  refine G_sbal (K := mJ1_charAt_3b067) hi hk dJ1_charAt_3b067_8 ?_
  refine G_sipush (K := mJ1_charAt_3b067) (v := 255) dJ1_charAt_3b067_9 (by decide) ?_
  refine G_iand (K := mJ1_charAt_3b067) dJ1_charAt_3b067_12 ?_
  refine G_i2cc (K := mJ1_charAt_3b067) dJ1_charAt_3b067_13 (chr_ok ⟨i, hi⟩ ⟨k, by omega⟩ hk) ?_
  exact G_tret (K := mJ1_charAt_3b067) dJ1_charAt_3b067_14 rfl (chr_nar2 hi hk) hQ
set_option maxRecDepth 20000 in
theorem j_length {sh : Shp} {M : Mem} {i : Nat} (hi : i < 14) {Q : Option Value → Mem → Prop} (hQ : Q (some (.int (nI (strLen.getD i 0)))) M) : CT mJ0_length_8abf5 sh 1 [.ref (1100 + i)] M Q := by
  refine CT.mk [some (.ref (1100 + i))] (by decide) (Nat.le_of_ble_eq_true rfl) rfl rfl ?_
  refine G_aload_n (K := mJ0_length_8abf5) (i := 0) dJ0_length_8abf5_0 rfl rfl ?_
  refine G_sval (K := mJ0_length_8abf5) hi jf_value dJ0_length_8abf5_1 ?_
  refine G_slen (K := mJ0_length_8abf5) hi dJ0_length_8abf5_4 ?_
  refine G_aload_n (K := mJ0_length_8abf5) (i := 0) dJ0_length_8abf5_5 rfl rfl ?_
  refine G_callStr (K := mJ0_length_8abf5) (as := []) (Q' := fun v M' => v = some (.int 0) ∧ M' = M) hi (j_coder hi ⟨rfl, rfl⟩) vJ0_coder_7d493 rfl lJ0_335 rfl (by decide) (Nat.le_of_ble_eq_true rfl) dJ0_length_8abf5_6 rfl ?_
  rintro v M' ⟨rfl, e⟩
  subst e
  refine G_ishr (K := mJ0_length_8abf5) dJ0_length_8abf5_9 ?_
  rw [len_ok ⟨i, hi⟩]
  exact G_iret (st := []) (K := mJ0_length_8abf5) dJ0_length_8abf5_10 rfl hQ
set_option maxRecDepth 20000 in
theorem j_charAt {sh : Shp} {M : Mem} {i : Nat} (hi : i < 14) {k : Nat} (hk : k < strLen.getD i 0) {Q : Option Value → Mem → Prop} (hQ : Q (some (.int ((strByt.getD i []).getD k 0))) M) : CT mJ0_charAt_5068e sh 3 [.ref (1100 + i), .int (nI k)] M Q := by
  refine CT.mk [some (.ref (1100 + i)), some (.int (nI k))] (by decide) (Nat.le_of_ble_eq_true rfl) rfl rfl ?_
  refine G_aload_n (K := mJ0_charAt_5068e) (i := 0) dJ0_charAt_5068e_0 rfl rfl ?_
  refine G_callStr (K := mJ0_charAt_5068e) (as := []) (Q' := fun v M' => v = some (.int 1) ∧ M' = M) hi (j_latin hi ⟨rfl, rfl⟩) vJ0_isLatin1_aae02 rfl lJ0_492 rfl (by decide) (Nat.le_of_ble_eq_true rfl) dJ0_charAt_5068e_1 rfl ?_
  rintro v M' ⟨rfl, e⟩
  subst e
  refine G_if_eq (K := mJ0_charAt_5068e) (tgt := 16) dJ0_charAt_5068e_4 (by decide) (fun c => absurd c (by decide)) (fun _ => ?_)
  refine G_aload_n (K := mJ0_charAt_5068e) (i := 0) dJ0_charAt_5068e_7 rfl rfl ?_
  refine G_sval (K := mJ0_charAt_5068e) hi jf_value dJ0_charAt_5068e_8 ?_
  refine G_iload_n (K := mJ0_charAt_5068e) (i := 1) dJ0_charAt_5068e_11 rfl rfl ?_
  refine G_sv (K := mJ0_charAt_5068e) (j_charL hi hk ⟨rfl, rfl⟩) sJ1_charAt_3b067 rfl lJ0_495 dJ0_charAt_5068e_12 (by decide) rfl (Nat.le_of_ble_eq_true rfl) ?_
  exact G_tret (K := mJ0_charAt_5068e) dJ0_charAt_5068e_15 rfl (chr_nar2 hi hk) hQ
