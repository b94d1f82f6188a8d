/-! Strings: the constants -/
abbrev m107_coder : Mt := (yJ0_coder_7d493, cJ0_coder_7d493, 1, some .byte)
theorem dX107_coder_0 : decode cJ0_coder_7d493 0 = .ok (.getstatic 38, 3) := by decide +kernel
theorem dX107_coder_3 : decode cJ0_coder_7d493 3 = .ok (.ifCond .eq 10, 3) := by decide +kernel
theorem dX107_coder_6 : decode cJ0_coder_7d493 6 = .ok (.aload_n 0, 1) := by decide +kernel
theorem dX107_coder_7 : decode cJ0_coder_7d493 7 = .ok (.getfield 15, 3) := by decide +kernel
theorem dX107_coder_10 : decode cJ0_coder_7d493 10 = .ok (.goto 4, 3) := by decide +kernel
theorem dX107_coder_13 : decode cJ0_coder_7d493 13 = .ok (.iconst 1, 1) := by decide +kernel
theorem dX107_coder_14 : decode cJ0_coder_7d493 14 = .ok (.ireturn, 1) := by decide +kernel
abbrev m107_length : Mt := (yJ0_length_8abf5, cJ0_length_8abf5, 1, some .int)
theorem dX107_length_0 : decode cJ0_length_8abf5 0 = .ok (.aload_n 0, 1) := by decide +kernel
theorem dX107_length_1 : decode cJ0_length_8abf5 1 = .ok (.getfield 9, 3) := by decide +kernel
theorem dX107_length_4 : decode cJ0_length_8abf5 4 = .ok (.arraylength, 1) := by decide +kernel
theorem dX107_length_5 : decode cJ0_length_8abf5 5 = .ok (.aload_n 0, 1) := by decide +kernel
theorem dX107_length_6 : decode cJ0_length_8abf5 6 = .ok (.invokevirtual 335, 3) := by decide +kernel
theorem dX107_length_9 : decode cJ0_length_8abf5 9 = .ok (.ishr, 1) := by decide +kernel
theorem dX107_length_10 : decode cJ0_length_8abf5 10 = .ok (.ireturn, 1) := by decide +kernel
abbrev m107_isLatin1 : Mt := (yJ0_isLatin1_aae02, cJ0_isLatin1_aae02, 1, some .boolean)
theorem dX107_isLatin1_0 : decode cJ0_isLatin1_aae02 0 = .ok (.getstatic 38, 3) := by decide +kernel
theorem dX107_isLatin1_3 : decode cJ0_isLatin1_aae02 3 = .ok (.ifCond .eq 14, 3) := by decide +kernel
theorem dX107_isLatin1_6 : decode cJ0_isLatin1_aae02 6 = .ok (.aload_n 0, 1) := by decide +kernel
theorem dX107_isLatin1_7 : decode cJ0_isLatin1_aae02 7 = .ok (.getfield 15, 3) := by decide +kernel
theorem dX107_isLatin1_10 : decode cJ0_isLatin1_aae02 10 = .ok (.ifCond .ne 7, 3) := by decide +kernel
theorem dX107_isLatin1_13 : decode cJ0_isLatin1_aae02 13 = .ok (.iconst 1, 1) := by decide +kernel
theorem dX107_isLatin1_14 : decode cJ0_isLatin1_aae02 14 = .ok (.goto 4, 3) := by decide +kernel
theorem dX107_isLatin1_17 : decode cJ0_isLatin1_aae02 17 = .ok (.iconst 0, 1) := by decide +kernel
theorem dX107_isLatin1_18 : decode cJ0_isLatin1_aae02 18 = .ok (.ireturn, 1) := by decide +kernel
abbrev m107_charAt : Mt := (yJ0_charAt_5068e, cJ0_charAt_5068e, 2, some .char)
theorem dX107_charAt_0 : decode cJ0_charAt_5068e 0 = .ok (.aload_n 0, 1) := by decide +kernel
theorem dX107_charAt_1 : decode cJ0_charAt_5068e 1 = .ok (.invokevirtual 492, 3) := by decide +kernel
theorem dX107_charAt_4 : decode cJ0_charAt_5068e 4 = .ok (.ifCond .eq 12, 3) := by decide +kernel
theorem dX107_charAt_7 : decode cJ0_charAt_5068e 7 = .ok (.aload_n 0, 1) := by decide +kernel
theorem dX107_charAt_8 : decode cJ0_charAt_5068e 8 = .ok (.getfield 9, 3) := by decide +kernel
theorem dX107_charAt_11 : decode cJ0_charAt_5068e 11 = .ok (.iload_n 1, 1) := by decide +kernel
theorem dX107_charAt_12 : decode cJ0_charAt_5068e 12 = .ok (.invokestatic 495, 3) := by decide +kernel
theorem dX107_charAt_15 : decode cJ0_charAt_5068e 15 = .ok (.ireturn, 1) := by decide +kernel
theorem dX107_charAt_16 : decode cJ0_charAt_5068e 16 = .ok (.aload_n 0, 1) := by decide +kernel
theorem dX107_charAt_17 : decode cJ0_charAt_5068e 17 = .ok (.getfield 9, 3) := by decide +kernel
theorem dX107_charAt_20 : decode cJ0_charAt_5068e 20 = .ok (.iload_n 1, 1) := by decide +kernel
theorem dX107_charAt_21 : decode cJ0_charAt_5068e 21 = .ok (.invokestatic 498, 3) := by decide +kernel
theorem dX107_charAt_24 : decode cJ0_charAt_5068e 24 = .ok (.ireturn, 1) := by decide +kernel
abbrev m107_checkIndex : Mt := (yJ0_checkIndex_df160, cJ0_checkIndex_df160, 2, none)
theorem dX107_checkIndex_0 : decode cJ0_checkIndex_df160 0 = .ok (.iload_n 0, 1) := by decide +kernel
theorem dX107_checkIndex_1 : decode cJ0_checkIndex_df160 1 = .ok (.iload_n 1, 1) := by decide +kernel
theorem dX107_checkIndex_2 : decode cJ0_checkIndex_df160 2 = .ok (.getstatic 1053, 3) := by decide +kernel
theorem dX107_checkIndex_5 : decode cJ0_checkIndex_df160 5 = .ok (.invokestatic 1059, 3) := by decide +kernel
theorem dX107_checkIndex_8 : decode cJ0_checkIndex_df160 8 = .ok (.pop, 1) := by decide +kernel
theorem dX107_checkIndex_9 : decode cJ0_checkIndex_df160 9 = .ok (.return_, 1) := by decide +kernel
abbrev m108_charAt8 : Mt := (yJ1_charAt_3b067, cJ1_charAt_3b067, 2, some .char)
theorem dX108_charAt8_0 : decode cJ1_charAt_3b067 0 = .ok (.iload_n 1, 1) := by decide +kernel
theorem dX108_charAt8_1 : decode cJ1_charAt_3b067 1 = .ok (.aload_n 0, 1) := by decide +kernel
theorem dX108_charAt8_2 : decode cJ1_charAt_3b067 2 = .ok (.arraylength, 1) := by decide +kernel
theorem dX108_charAt8_3 : decode cJ1_charAt_3b067 3 = .ok (.invokestatic 9, 3) := by decide +kernel
theorem dX108_charAt8_6 : decode cJ1_charAt_3b067 6 = .ok (.aload_n 0, 1) := by decide +kernel
theorem dX108_charAt8_7 : decode cJ1_charAt_3b067 7 = .ok (.iload_n 1, 1) := by decide +kernel
theorem dX108_charAt8_8 : decode cJ1_charAt_3b067 8 = .ok (.baload, 1) := by decide +kernel
theorem dX108_charAt8_9 : decode cJ1_charAt_3b067 9 = .ok (.sipush 255, 3) := by decide +kernel
theorem dX108_charAt8_12 : decode cJ1_charAt_3b067 12 = .ok (.iand, 1) := by decide +kernel
theorem dX108_charAt8_13 : decode cJ1_charAt_3b067 13 = .ok (.i2c, 1) := by decide +kernel
theorem dX108_charAt8_14 : decode cJ1_charAt_3b067 14 = .ok (.ireturn, 1) := by decide +kernel
abbrev m109_preCheck : Mt := (yJ3_checkIndex_8e157, cJ3_checkIndex_8e157, 3, some .int)
theorem dX109_preCheck_0 : decode cJ3_checkIndex_8e157 0 = .ok (.iload_n 0, 1) := by decide +kernel
theorem dX109_preCheck_1 : decode cJ3_checkIndex_8e157 1 = .ok (.ifCond .lt 8, 3) := by decide +kernel
theorem dX109_preCheck_4 : decode cJ3_checkIndex_8e157 4 = .ok (.iload_n 0, 1) := by decide +kernel
theorem dX109_preCheck_5 : decode cJ3_checkIndex_8e157 5 = .ok (.iload_n 1, 1) := by decide +kernel
theorem dX109_preCheck_6 : decode cJ3_checkIndex_8e157 6 = .ok (.if_icmp .lt 10, 3) := by decide +kernel
theorem dX109_preCheck_9 : decode cJ3_checkIndex_8e157 9 = .ok (.aload_n 2, 1) := by decide +kernel
theorem dX109_preCheck_10 : decode cJ3_checkIndex_8e157 10 = .ok (.iload_n 0, 1) := by decide +kernel
theorem dX109_preCheck_11 : decode cJ3_checkIndex_8e157 11 = .ok (.iload_n 1, 1) := by decide +kernel
theorem dX109_preCheck_12 : decode cJ3_checkIndex_8e157 12 = .ok (.invokestatic 95, 3) := by decide +kernel
theorem dX109_preCheck_15 : decode cJ3_checkIndex_8e157 15 = .ok (.athrow, 1) := by decide +kernel
theorem dX109_preCheck_16 : decode cJ3_checkIndex_8e157 16 = .ok (.iload_n 0, 1) := by decide +kernel
theorem dX109_preCheck_17 : decode cJ3_checkIndex_8e157 17 = .ok (.ireturn, 1) := by decide +kernel
theorem mo_107_coder : MO m107_coder 0 false := ⟨Ts_in (in_t4 _ (List.mem_of_getElem? (i := 110) rfl)) rfl, Ts_in (in_t1 _ (List.mem_of_getElem? (i := 15) rfl)) rfl, ⟨by decide +kernel, by decide +kernel, by decide +kernel⟩, ⟨Ts_in (in_t4 _ (List.mem_of_getElem? (i := 108) rfl)) rfl, Ts_in (in_t4 _ (List.mem_of_getElem? (i := 109) rfl)) rfl⟩⟩
theorem mo_107_length : MO m107_length 0 false := ⟨Ts_in (in_t4 _ (List.mem_of_getElem? (i := 106) rfl)) rfl, Ts_in (in_t1 _ (List.mem_of_getElem? (i := 15) rfl)) rfl, ⟨by decide +kernel, by decide +kernel, by decide +kernel⟩, ⟨Ts_in (in_t4 _ (List.mem_of_getElem? (i := 104) rfl)) rfl, Ts_in (in_t4 _ (List.mem_of_getElem? (i := 105) rfl)) rfl⟩⟩
theorem mo_107_isLatin1 : MO m107_isLatin1 0 false := ⟨Ts_in (in_t4 _ (List.mem_of_getElem? (i := 120) rfl)) rfl, Ts_in (in_t1 _ (List.mem_of_getElem? (i := 15) rfl)) rfl, ⟨by decide +kernel, by decide +kernel, by decide +kernel⟩, ⟨Ts_in (in_t4 _ (List.mem_of_getElem? (i := 118) rfl)) rfl, Ts_in (in_t4 _ (List.mem_of_getElem? (i := 119) rfl)) rfl⟩⟩
theorem mo_107_charAt : MO m107_charAt 1 false := ⟨Ts_in (in_t4 _ (List.mem_of_getElem? (i := 116) rfl)) rfl, Ts_in (in_t1 _ (List.mem_of_getElem? (i := 15) rfl)) rfl, ⟨by decide +kernel, by decide +kernel, by decide +kernel⟩, ⟨Ts_in (in_t4 _ (List.mem_of_getElem? (i := 114) rfl)) rfl, Ts_in (in_t4 _ (List.mem_of_getElem? (i := 115) rfl)) rfl⟩⟩
theorem mo_107_checkIndex : MO m107_checkIndex 2 true := ⟨Ts_in (in_t4 _ (List.mem_of_getElem? (i := 126) rfl)) rfl, Ts_in (in_t1 _ (List.mem_of_getElem? (i := 15) rfl)) rfl, ⟨by decide +kernel, by decide +kernel, by decide +kernel⟩, Ts_in (in_t4 _ (List.mem_of_getElem? (i := 125) rfl)) rfl⟩
theorem mo_108_charAt8 : MO m108_charAt8 2 true := ⟨Ts_in (in_t4 _ (List.mem_of_getElem? (i := 123) rfl)) rfl, Ts_in (in_t1 _ (List.mem_of_getElem? (i := 22) rfl)) rfl, ⟨by decide +kernel, by decide +kernel, by decide +kernel⟩, Ts_in (in_t4 _ (List.mem_of_getElem? (i := 122) rfl)) rfl⟩
theorem mo_109_preCheck : MO m109_preCheck 3 true := ⟨Ts_in (in_t4 _ (List.mem_of_getElem? (i := 131) rfl)) rfl, Ts_in (in_t1 _ (List.mem_of_getElem? (i := 21) rfl)) rfl, ⟨by decide +kernel, by decide +kernel, by decide +kernel⟩, Ts_in (in_t4 _ (List.mem_of_getElem? (i := 130) rfl)) rfl⟩
theorem jf_value : Cond.fieldLink RJ0 9 "java/lang/String" "value" "[B" ∈ Ts := Ts_in (in_t6 _ (List.mem_of_getElem? (i := 0) rfl)) rfl
theorem jf_coder : Cond.fieldLink RJ0 15 "java/lang/String" "coder" "B" ∈ Ts := Ts_in (in_t6 _ (List.mem_of_getElem? (i := 1) rfl)) rfl
theorem jf_cs : Cond.fieldLink RJ0 38 "java/lang/String" "COMPACT_STRINGS" "Z" ∈ Ts := Ts_in (in_t4 _ (List.mem_of_getElem? (i := 111) rfl)) rfl
theorem jf_fmt : Cond.fieldLink RJ0 1053 "jdk/internal/util/Preconditions" "SIOOBE_FORMATTER" "Ljava/util/function/BiFunction;" ∈ Ts := Ts_in (in_t4 _ (List.mem_of_getElem? (i := 127) rfl)) rfl
theorem jm_coder : Cond.methodLink RJ0 335 m107_coder.1 ∈ Ts := Ts_in (in_t4 _ (List.mem_of_getElem? (i := 107) rfl)) rfl
theorem jm_lat : Cond.methodLink RJ0 492 m107_isLatin1.1 ∈ Ts := Ts_in (in_t4 _ (List.mem_of_getElem? (i := 117) rfl)) rfl
theorem jm_c8 : Cond.methodLink RJ0 495 m108_charAt8.1 ∈ Ts := Ts_in (in_t4 _ (List.mem_of_getElem? (i := 121) rfl)) rfl
theorem jm_ci : Cond.methodLink RJ1 9 m107_checkIndex.1 ∈ Ts := Ts_in (in_t4 _ (List.mem_of_getElem? (i := 124) rfl)) rfl
theorem jm_pre : Cond.methodLink RJ0 1059 m109_preCheck.1 ∈ Ts := Ts_in (in_t4 _ (List.mem_of_getElem? (i := 129) rfl)) rfl
theorem jm_len : Cond.methodLink RX9 70 m107_length.1 ∈ Ts := Ts_in (in_t4 _ (List.mem_of_getElem? (i := 210) rfl)) rfl
theorem jm_chr : Cond.methodLink RX9 75 m107_charAt.1 ∈ Ts := Ts_in (in_t4 _ (List.mem_of_getElem? (i := 211) rfl)) rfl
section STR
variable {G : Gl} {S : Sh} {C : Cx} {Z : State → Prop} {k w n : Nat} {pc : Nat} {ls : List (Option V)} {st : List V} {M : Mem} {y : Mt}
def lnS (i : Nat) : Nat := lenS.getD i 0
def bS (i : Nat) (j : Int) : Int := ((bytS.getD i []).getD j.toNat 0).toInt
theorem XW_of (hC : CxOK G y C) : XW G C.2.2.2.2.1 C.2.2.2.2.1.heap := hC.2.2.2.2.2.1.2.2.2
theorem R_ldcS (hC : CxOK G y C) {idx h : Nat} {tx : String} (hd : decode y.2.1 pc = .ok (.ldc idx, 2)) (hq : (y.1.cls, idx, tx, h) ∈ txS) (kk : RZ G S C Z k w n (pc + 2) ls (vR h :: st) M) : RZ G S C Z k w n pc ls st M := by
  intro H locs ar hp hs hm hl hv ha
  exact va_ldcS hC.1 hC.2.1 (own := y.1.cls) hC.2.2.2.1 ((XW_of hC).2.1 _ hq) hd (kk H locs ar hp hs hm hl ⟨trivial, hv⟩ ha)
theorem R_strV (hC : CxOK G y C) {i idx : Nat} (hi : i < 13) (hd : decode y.2.1 pc = .ok (.getfield idx, 3)) (hlk : Cond.fieldLink y.1.cls idx "java/lang/String" "value" "[B" ∈ Ts) (kk : RZ G S C Z k w n (pc + 3) ls (vR (1050 + i) :: st) M) : RZ G S C Z k w n pc ls (vR (1000 + i) :: st) M := by
  intro H locs ar hp hs hm hl hv ha
  exact vk_getf hC.1 hC.2.1 ((XW_of hC).1.1.1 i hi).2.2.1 hs hC.2.2.2.1 (hC.2.2.2.2.1 _ hlk) (fun _ q => q) hd (kk H locs ar hp hs hm hl ⟨trivial, hv.2⟩ ha)
theorem R_strC (hC : CxOK G y C) {i idx : Nat} (hi : i < 13) (hd : decode y.2.1 pc = .ok (.getfield idx, 3)) (hlk : Cond.fieldLink y.1.cls idx "java/lang/String" "coder" "B" ∈ Ts) (kk : RZ G S C Z k w n (pc + 3) ls (vI 0 :: st) M) : RZ G S C Z k w n pc ls (vR (1000 + i) :: st) M := by
  intro H locs ar hp hs hm hl hv ha
  exact vk_getf hC.1 hC.2.1 ((XW_of hC).1.1.1 i hi).2.1 hs hC.2.2.2.1 (hC.2.2.2.2.1 _ hlk) (fun _ q => q) hd (kk H locs ar hp hs hm hl ⟨⟨by decide, by decide⟩, hv.2⟩ ha)
theorem R_csz (hC : CxOK G y C) {idx : Nat} (hd : decode y.2.1 pc = .ok (.getstatic idx, 3)) (hlk : Cond.fieldLink y.1.cls idx "java/lang/String" "COMPACT_STRINGS" "Z" ∈ Ts) (kk : RZ G S C Z k w n (pc + 3) ls (vI 1 :: st) M) : RZ G S C Z k w n pc ls st M := by
  intro H locs ar hp hs hm hl hv ha
  exact va_gets hC.1 hC.2.1 (XW_of hC).1.2.1 hs hC.2.2.2.1 (hC.2.2.2.2.1 _ hlk) (fun _ q => q) hd (kk H locs ar hp hs hm hl ⟨⟨by decide, by decide⟩, hv⟩ ha)
theorem R_alenS (hC : CxOK G y C) {i : Nat} (hi : i < 13) (hd : decode y.2.1 pc = .ok (.arraylength, 1)) (kk : RZ G S C Z k w n (pc + 1) ls (vI (lnS i) :: st) M) : RZ G S C Z k w n pc ls (vR (1050 + i) :: st) M := by
  intro H locs ar hp hs hm hl hv ha
  have hb : ∀ i, i < 13 → (lnS i : Int) ≤ 8 := by decide
  have := hb i hi
  exact va_tlen hC.1 hC.2.1 ((XW_of hC).1.1.1 i hi).2.2.2 hs (nI_ofInt (lnS i)) hd (kk H locs ar hp hs hm hl ⟨show inI _ from ⟨by omega, by omega⟩, hv.2⟩ ha)
theorem R_balS (hC : CxOK G y C) {i : Nat} {a : Int} (hi : i < 13) (hd : decode y.2.1 pc = .ok (.baload, 1)) (h0 : 0 ≤ a) (h1 : a < lnS i) (kk : RZ G S C Z k w n (pc + 1) ls (vI (bS i a) :: st) M) : RZ G S C Z k w n pc ls (vI a :: vR (1050 + i) :: st) M := by
  intro H locs ar hp hs hm hl hv ha
  refine va_tb hC.1 hC.2.1 ((XW_of hC).1.1.1 i hi).2.2.2 hs (i_in hv.1 h0 h1) (v := .int (Int32.ofInt (bS i a))) ?_ hd (kk H locs ar hp hs hm hl ⟨inI_of _, hv.2.2⟩ ha)
  show Value.int _ = Value.int _
  rw [i_cl hv.1]
  exact congrArg Value.int (Int32.ofInt_toInt _).symm
theorem cst_i2c : ∀ n, n < 256 → ((nI n).toUInt32 % 65536).toInt32 = nI n := by decide +kernel
theorem cst_nc : ∀ n, n < 256 → narrow .char (.int (nI n)) = .int (nI n) := by decide +kernel
theorem R_i2c (hC : CxOK G y C) {a : Int} (hd : decode y.2.1 pc = .ok (.i2c, 1)) (h0 : 0 ≤ a) (h1 : a < 256) (kk : RZ G S C Z k w n (pc + 1) ls (vI a :: st) M) : RZ G S C Z k w n pc ls (vI a :: st) M := by
  intro H locs ar hp hs hm hl hv ha
  refine lv_i2c hC.1 hC.2.1 hd ?_ (kk H locs ar hp hs hm hl hv ha)
  rw [ofInt_nI h0]
  exact cst_i2c _ (by omega)
theorem R_creturn (hC : CxOK G y C) {v : Int} {Q : Option V → Mem → Prop} (hd : decode y.2.1 pc = .ok (.ireturn, 1)) (hr : y.2.2.2 = some .char) (h0 : 0 ≤ v) (h1 : v < 256) (hq : Q (some (vI v)) M) : RZ G S C (Zn G S n C Q) 0 0 n pc ls [vI v] M := by
  intro H locs ar hp hs hm hl hv ha
  exact W.zret hC.1 hC.2.1 (hC.2.2.2.2.2.2.2.1.trans hr) (by rw [ofInt_nI h0]; exact cst_nc _ (by omega)) (fun t ht hW => ⟨⟨some (vI v), M, rfl, hq, by rw [ht]; exact hp, hm, hv.1, trivial⟩, hs.F ht⟩) hs.2.2 hd hC.2.2.2.2.2.2.1
theorem R_breturn (hC : CxOK G y C) {v : Int} {Q : Option V → Mem → Prop} (hd : decode y.2.1 pc = .ok (.ireturn, 1)) (hr : y.2.2.2 = some .byte) (hb : v = 0) (hq : Q (some (vI v)) M) : RZ G S C (Zn G S n C Q) 0 0 n pc ls [vI v] M := by
  subst hb
  intro H locs ar hp hs hm hl hv ha
  exact W.zret hC.1 hC.2.1 (hC.2.2.2.2.2.2.2.1.trans hr) (by decide +kernel) (fun t ht hW => ⟨⟨some (vI 0), M, rfl, hq, by rw [ht]; exact hp, hm, hv.1, trivial⟩, hs.F ht⟩) hs.2.2 hd hC.2.2.2.2.2.2.1
theorem R_callVS {d na idx i : Nat} {z : Mt} {as : List V} {st0 : List V} {v : V} (hC : CxOK G y C) (hd : decode y.2.1 pc = .ok (.invokevirtual idx, 3)) (hz : MO z na false) (hlk : Cond.methodLink y.1.cls idx z.1 ∈ Ts)
    (hi : i < 13) (hcl : z.1.cls = "java/lang/String") (hct : Ct G S n C.2.1 d z (vR (1000 + i) :: as) M (Ret v M)) (hst : st0 = as.reverse ++ vR (1000 + i) :: st) (hna : as.length = na)
    {d' : Nat} (hR : RmOK C d') (hdd : d + 1 ≤ d') (hmx : z.2.2.1 ≤ 21) (hcat : (st.map vcat).sum ≤ 8)
    (kk : RZ G S C Z 0 0 n (pc + 3) ls (v :: st) M) : RZ G S C Z 0 0 n pc ls st0 M := by
  intro H locs ar hp hs hm hl hv ha
  have hR := room_ok hR hdd hmx
  obtain ⟨z1, z2, z3, z4⟩ := hz
  rw [if_neg (by decide)] at z4
  subst hst
  have hv2 := (okVs_app _ _).mp hv
  have hrv := vk_recv (XW_of hC).1.1 hi hs
  have hGo : GoodIn Ts (wsV y.1.cls idx z.1.cls z.1 (wsY z)) := by
    intro u hu
    have hu2 : u ∈ Ts := by
      unfold wsV at hu
      rcases List.mem_append.mp hu with e | e
      · rcases List.mem_cons.mp e with e | e
        · rw [e]; exact hlk
        rcases List.mem_cons.mp e with e | e
        · rw [e]; exact z4.1
        rcases List.mem_cons.mp e with e | e
        · rw [e]; exact z4.2
        rcases List.mem_cons.mp e with e | e
        · rw [e]; exact z2
        · cases e
      · exact (good_wsY z1 u e).1
    exact ⟨hu2, good_of_word (List.mem_filter.mp hu2).2⟩
  rw [← hcl] at hrv
  have hpre := Pn.pre (args := vR (1000 + i) :: as) hC hp hs hm ⟨trivial, okVs_rev _ hv2.1⟩
  refine R_call (S := S) (n := n) (args := vR (1000 + i) :: as) (Q := Ret v M) hC hcat hs hl hv2.2.2 ha ?_ (fun r M' h => by rw [h.1, h.2]; exact kk)
  refine va_runV (As := as.map (enc G)) (b := G.1 (1000 + i)) (ws := wsY z) (rm := rmD d) (nL := C.2.2.2.2.2.2.2.2.2.maxLocals) (cc := y.2.1) ⟨hC.1, hC.2.1, rfl, hC.2.2.2.1, hC.2.2.2.2.1⟩ hct (cwV na (hC.2.2.2.2.1) hGo rfl rfl rfl ⟨rfl, z3⟩ ⟨hR.1, hR.2.1⟩) ⟨hpre.1, hrv, hpre.2⟩ rfl (by rw [List.length_map]; exact hna) ha.1 ?_ (lv_room (by rw [enc_cats]; exact hcat)) hd ⟨hR.2.2.1, hR.2.2.2⟩
  show List.map (enc G) (as.reverse ++ vR (1000 + i) :: st) = _
  rw [List.map_append, List.map_reverse]
  rfl
/-! a method that gets a value that nobody looks at -/
def PnA (G : Gl) (S : Sh) (n : Nat) (As : List Value) (M : Mem) : Array Value → State → Prop := fun a U =>
  a = As.toArray ∧ Hp G S n M U.heap ∧ KK G U ∧ okM S M ∧ ∀ q : Nat, U.heap.size ≤ q → aA G q
theorem PnA.pre (hC : CxOK G y C) {H : Heap} {locs : List Loc} {As : List Value} {M : Mem} (hp : Hp G S n M H) (hs : va_S (aA G) C.2.2.2.2.1.heap H locs) (hm : okM S M) : FrameBlind (PnA G S n As M) ∧ ∀ U : State, U.heap = H → C.2.2.2.2.1.WarmedH U.vm → PnA G S n As M As.toArray U :=
  ⟨fun a U g mk q => ⟨q.1, q.2.1, q.2.2.1.calling, q.2.2.2⟩, fun U hU hW => ⟨rfl, by rw [hU]; exact hp, hC.2.2.2.2.2.1.moved hW (by rw [hU]; exact hs.2.1), hm, by rw [hU]; exact fun q hq => hC.2.2.2.2.2.2.2.2 q (Nat.le_trans hs.1 hq)⟩⟩
theorem pre_ok {G : Gl} {l : Launch} {M : Mem} {n : Nat} {S : Sh} {a b : Int} {v : Value} (hv : v = .null ∨ ∃ t, v = .ref t) (ia : inI a) (ib : inI b) (h0 : 0 ≤ a) (h1 : a < b) :
    Met l m109_preCheck.1 (wsY m109_preCheck) (rmD 0) (PnA G S n [.int (Int32.ofInt a), .int (Int32.ofInt b), v] M) (Qn G S n (Ret (vI a) M)) 0 0 (aA G) := by
  refine Met.ofW (cc := m109_preCheck.2.1) (maxL := 3) (ret := some .int) (by decide +kernel) rfl ?_
  intro p e s m ars below meth c s₁ B hml hv'
  obtain ⟨rfl, hp, hK, hm, hz⟩ := hv'
  have hts : ∀ q ∈ Ts, q.before [Value.int (Int32.ofInt a), .int (Int32.ofInt b), v].toArray s = true := fun q hq => atoms_spec (ws := wsY m109_preCheck) B.pre q (List.mem_cons_of_mem _ hq)
  have hC : CxOK G m109_preCheck (p, l, e, (headSpec (wsY m109_preCheck) (rmD 0)).room, s, m, [Value.int (Int32.ofInt a), .int (Int32.ofInt b), v].toArray, below, meth, c) :=
    ⟨B.exec, B.bytes, hml, findClass_of_methodNamed B.named, hts, hK, B.notSynchronized, B.returns, hz⟩
  have hent := lv_entry [Value.int (Int32.ofInt a), .int (Int32.ofInt b), v] (n := 3) (by rcases hv with rfl | ⟨t, rfl⟩ <;> simp [lg_sl, Value.category])
  have hlR : lsR G c.maxLocals [some (vI a), some (vI b), none] ((lg_sl [Value.int (Int32.ofInt a), .int (Int32.ofInt b), v] ++ List.replicate (3 - (lg_sl [Value.int (Int32.ofInt a), .int (Int32.ofInt b), v]).length) Slot.unset).toArray) := by
    rw [hml]
    refine ⟨hent.1, Nat.le_refl 3, hent.2.1, fun i u hi => ?_⟩
    match i, hi with
    | 0, hi =>
      cases hi
      exact hent.2.2 (0, .int (Int32.ofInt a)) (by simp [lv_args])
    | 1, hi =>
      cases hi
      exact hent.2.2 (1, .int (Int32.ofInt b)) (by simp [lv_args, Value.category])
    | 2, hi => cases hi
    | i + 3, hi => cases hi
  have hW : RZ G S (p, l, e, (headSpec (wsY m109_preCheck) (rmD 0)).room, s, m, [Value.int (Int32.ofInt a), .int (Int32.ofInt b), v].toArray, below, meth, c) (Zn G S n (p, l, e, (headSpec (wsY m109_preCheck) (rmD 0)).room, s, m, [Value.int (Int32.ofInt a), .int (Int32.ofInt b), v].toArray, below, meth, c) (Ret (vI a) M)) 0 0 n 0 [some (vI a), some (vI b), none] [] M := by
    refine R_iload_0 hC dX109_preCheck_0 ?_
    refine R_if_lt hC dX109_preCheck_1 (tgt := 9) (by decide) (fun hb => ?_) (fun hb => ?_)
    · omega
    refine R_iload_0 hC dX109_preCheck_4 ?_
    refine R_iload_1 hC dX109_preCheck_5 ?_
    refine R_icmp_lt hC dX109_preCheck_6 (tgt := 16) (by decide) (fun hb => ?_) (fun hb => ?_)
    · refine R_iload_0 hC dX109_preCheck_16 ?_
      exact R_ireturn hC dX109_preCheck_17 rfl ⟨rfl, rfl⟩
    · omega
  have hX := hW s.heap [] _ hp va_S.rf hm ⟨ia, ib, trivial⟩ trivial hlR
  rw [lg_entry_eq]
  exact hX
theorem R_chk (hC : CxOK G y C) {i1 i2 : Nat} {a b : Int} (d2 : decode y.2.1 pc = .ok (.getstatic i1, 3)) (d5 : decode y.2.1 (pc + 3) = .ok (.invokestatic i2, 3))
    (hl1 : Cond.fieldLink y.1.cls i1 "jdk/internal/util/Preconditions" "SIOOBE_FORMATTER" "Ljava/util/function/BiFunction;" ∈ Ts) (hl2 : Cond.methodLink y.1.cls i2 m109_preCheck.1 ∈ Ts) (h0 : 0 ≤ a) (h1 : a < b)
    {d' : Nat} (hR : RmOK C d') (hdd : 1 ≤ d') (hcat : (st.map vcat).sum ≤ 8) (kk : RZ G S C Z 0 0 n (pc + 6) ls (vI a :: st) M) : RZ G S C Z 0 0 n pc ls (vI b :: vI a :: st) M := by
  intro H locs ar hp hs hm hl hv ha
  have hR2 := room_ok (mL := 3) (d := 0) hR hdd (by decide)
  obtain ⟨v, hz, hvc⟩ : ∃ v : Value, va_Z "jdk/internal/util/Preconditions" "SIOOBE_FORMATTER" "Ljava/util/function/BiFunction;" v (aA G) C.2.2.2.2.1 C.2.2.2.2.1.heap ∧ (v = .null ∨ ∃ t, v = .ref t) := by
    rcases (XW_of hC).1.2.2 with h | ⟨t, h⟩
    · exact ⟨_, h, .inl rfl⟩
    · exact ⟨_, h, .inr ⟨t, rfl⟩⟩
  refine va_gets hC.1 hC.2.1 hz hs hC.2.2.2.1 (hC.2.2.2.2.1 _ hl1) (fun _ q => q) d2 ?_
  obtain ⟨z1, z2, z3, z4⟩ := mo_109_preCheck
  rw [if_pos rfl] at z4
  have hGo : GoodIn Ts (va_wsS y.1.cls i2 m109_preCheck.1 (wsY m109_preCheck)) := by
    intro u hu
    have hu2 : u ∈ Ts := by
      unfold va_wsS at hu
      rcases List.mem_append.mp hu with e | e
      · rcases List.mem_cons.mp e with e | e
        · rw [e]; exact hl2
        rcases List.mem_cons.mp e with e | e
        · rw [e]; exact z4
        rcases List.mem_cons.mp e with e | e
        · rw [e]; exact z2
        · cases e
      · exact (good_wsY z1 u e).1
    exact ⟨hu2, good_of_word (List.mem_filter.mp hu2).2⟩
  refine R_call (S := S) (n := n) (pc := pc + 3) (args := []) (Q := Ret (vI a) M) hC hcat hs hl hv.2.2 ha ?_ (fun r M' h => by rw [h.1, h.2]; exact kk)
  exact va_runS (As := [.int (Int32.ofInt a), .int (Int32.ofInt b), v]) (ws := wsY m109_preCheck) (rm := rmD 0) (nL := C.2.2.2.2.2.2.2.2.2.maxLocals) (cc := y.2.1) (Ts := Ts) (own := y.1.cls) ⟨hC.1, hC.2.1, rfl, hC.2.2.2.1, hC.2.2.2.2.1⟩ (pre_ok hvc hv.2.1 hv.1 h0 h1) (va_cwS 3 (hC.2.2.2.2.1) hGo rfl rfl rfl z3 ⟨hR2.1, hR2.2.1⟩) (PnA.pre hC hp hs hm) rfl rfl ha.1 rfl (lv_room (by rw [enc_cats]; exact hcat)) d5 ⟨hR2.2.2.1, hR2.2.2.2⟩
end STR
theorem c107_coder {G : Gl} {S : Sh} {n : Nat} {l : Launch} {M : Mem} {i : Nat} (hi : i < 13) : Ct G S n l 0 m107_coder [vR (1000 + i)] M (Ret (vI 0) M) := by
  refine R_start (by decide +kernel) (Nat.le_of_ble_eq_true rfl) (fun C hC hRm hlau => ?_)
  show RZ G S C (Zn G S n C (Ret (vI 0) M)) 0 0 n 0 [some (vR (1000 + i))] [] M
  refine R_csz hC dX107_coder_0 jf_cs ?_
  refine R_if_eq hC dX107_coder_3 (tgt := 13) (by decide) (fun hb => ?_) (fun hb => ?_)
  · omega
  refine R_aload_0 hC dX107_coder_6 ?_
  refine R_strC hC hi dX107_coder_7 jf_coder ?_
  refine R_goto hC dX107_coder_10 (tgt := 14) (by decide) ?_
  exact R_breturn hC dX107_coder_14 rfl rfl ⟨rfl, rfl⟩
theorem c107_length {G : Gl} {S : Sh} {n : Nat} {l : Launch} {M : Mem} {i : Nat} (hi : i < 13) : Ct G S n l 1 m107_length [vR (1000 + i)] M (Ret (vI (lnS i)) M) := by
  refine R_start (by decide +kernel) (Nat.le_of_ble_eq_true rfl) (fun C hC hRm hlau => ?_)
  show RZ G S C (Zn G S n C (Ret (vI (lnS i)) M)) 0 0 n 0 [some (vR (1000 + i))] [] M
  refine R_aload_0 hC dX107_length_0 ?_
  refine R_strV hC hi dX107_length_1 jf_value ?_
  refine R_alenS hC hi dX107_length_4 ?_
  refine R_aload_0 hC dX107_length_5 ?_
  refine R_callVS (as := []) hC dX107_length_6 mo_107_coder jm_coder hi rfl (c107_coder hi) rfl rfl hRm (by decide) (by decide) (Nat.le_of_ble_eq_true rfl) ?_
  refine R_ishr hC dX107_length_9 (by decide) (by decide) ?_
  exact R_ireturn hC dX107_length_10 rfl (ret_I (by simp))
theorem c107_isLatin1 {G : Gl} {S : Sh} {n : Nat} {l : Launch} {M : Mem} {i : Nat} (hi : i < 13) : Ct G S n l 0 m107_isLatin1 [vR (1000 + i)] M (Ret (vI 1) M) := by
  refine R_start (by decide +kernel) (Nat.le_of_ble_eq_true rfl) (fun C hC hRm hlau => ?_)
  show RZ G S C (Zn G S n C (Ret (vI 1) M)) 0 0 n 0 [some (vR (1000 + i))] [] M
  refine R_csz hC dX107_isLatin1_0 jf_cs ?_
  refine R_if_eq hC dX107_isLatin1_3 (tgt := 17) (by decide) (fun hb => ?_) (fun hb => ?_)
  · omega
  refine R_aload_0 hC dX107_isLatin1_6 ?_
  refine R_strC hC hi dX107_isLatin1_7 jf_coder ?_
  refine R_if_ne hC dX107_isLatin1_10 (tgt := 17) (by decide) (fun hb => ?_) (fun hb => ?_)
  · omega
  refine R_iconst hC dX107_isLatin1_13 ⟨by decide, by decide⟩ ?_
  refine R_goto hC dX107_isLatin1_14 (tgt := 18) (by decide) ?_
  exact R_zreturn hC dX107_isLatin1_18 rfl (.inr rfl) ⟨rfl, rfl⟩
theorem c107_checkIndex {G : Gl} {S : Sh} {n : Nat} {l : Launch} {M : Mem} {a b : Int} (h0 : 0 ≤ a) (h1 : a < b) : Ct G S n l 1 m107_checkIndex [vI a, vI b] M (RV (fun M' => M' = M)) := by
  refine R_start (by decide +kernel) (Nat.le_of_ble_eq_true rfl) (fun C hC hRm hlau => ?_)
  show RZ G S C (Zn G S n C (RV (fun M' => M' = M))) 0 0 n 0 [some (vI a), some (vI b)] [] M
  refine R_iload_0 hC dX107_checkIndex_0 ?_
  refine R_iload_1 hC dX107_checkIndex_1 ?_
  refine R_chk hC dX107_checkIndex_2 dX107_checkIndex_5 jf_fmt jm_pre h0 h1 hRm (by decide) (Nat.le_of_ble_eq_true rfl) ?_
  refine R_pop hC dX107_checkIndex_8 rfl ?_
  exact R_return hC dX107_checkIndex_9 rfl ⟨rfl, rfl⟩
theorem c108_charAt8 {G : Gl} {S : Sh} {n : Nat} {l : Launch} {M : Mem} {i : Nat} {a : Int} (hi : i < 13) (h0 : 0 ≤ a) (h1 : a < lnS i) : Ct G S n l 2 m108_charAt8 [vR (1050 + i), vI a] M (Ret (vI (bS i a % 2 ^ 8)) M) := by
  refine R_start (by decide +kernel) (Nat.le_of_ble_eq_true rfl) (fun C hC hRm hlau => ?_)
  show RZ G S C (Zn G S n C (Ret (vI (bS i a % 2 ^ 8)) M)) 0 0 n 0 [some (vR (1050 + i)), some (vI a)] [] M
  refine R_iload_1 hC dX108_charAt8_0 ?_
  refine R_aload_0 hC dX108_charAt8_1 ?_
  refine R_alenS hC hi dX108_charAt8_2 ?_
  refine R_callSv (as := [vI _, vI _]) hC dX108_charAt8_3 mo_107_checkIndex jm_ci (c107_checkIndex h0 h1) rfl rfl hRm (by decide) (by decide) (Nat.le_of_ble_eq_true rfl) (fun M' e => ?_)
  subst e
  refine R_aload_0 hC dX108_charAt8_6 ?_
  refine R_iload_1 hC dX108_charAt8_7 ?_
  refine R_balS hC hi dX108_charAt8_8 h0 h1 ?_
  refine R_sipush hC dX108_charAt8_9 (by decide +kernel) ⟨by decide, by decide⟩ ?_
  refine R_iandm hC dX108_charAt8_12 (m := 8) (by decide) (by decide) ?_
  refine R_i2c hC dX108_charAt8_13 (by omega) (by omega) ?_
  exact R_creturn hC dX108_charAt8_14 rfl (by omega) (by omega) ⟨rfl, rfl⟩
theorem c107_charAt {G : Gl} {S : Sh} {n : Nat} {l : Launch} {M : Mem} {i : Nat} {a : Int} (hi : i < 13) (h0 : 0 ≤ a) (h1 : a < lnS i) : Ct G S n l 3 m107_charAt [vR (1000 + i), vI a] M (Ret (vI (bS i a % 2 ^ 8)) M) := by
  refine R_start (by decide +kernel) (Nat.le_of_ble_eq_true rfl) (fun C hC hRm hlau => ?_)
  show RZ G S C (Zn G S n C (Ret (vI (bS i a % 2 ^ 8)) M)) 0 0 n 0 [some (vR (1000 + i)), some (vI a)] [] M
  refine R_aload_0 hC dX107_charAt_0 ?_
  refine R_callVS (as := []) hC dX107_charAt_1 mo_107_isLatin1 jm_lat hi rfl (c107_isLatin1 hi) rfl rfl hRm (by decide) (by decide) (Nat.le_of_ble_eq_true rfl) ?_
  refine R_if_eq hC dX107_charAt_4 (tgt := 16) (by decide) (fun hb => ?_) (fun hb => ?_)
  · omega
  refine R_aload_0 hC dX107_charAt_7 ?_
  refine R_strV hC hi dX107_charAt_8 jf_value ?_
  refine R_iload_1 hC dX107_charAt_11 ?_
  refine R_callSq (as := [vR _, vI _]) hC dX107_charAt_12 mo_108_charAt8 jm_c8 (c108_charAt8 hi h0 h1) rfl rfl hRm (by decide) (by decide) (Nat.le_of_ble_eq_true rfl) ?_
  exact R_creturn hC dX107_charAt_15 rfl (by omega) (by omega) ⟨rfl, rfl⟩

