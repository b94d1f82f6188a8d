abbrev mL_law : Mt := (yL_law, cL_law, 7, some .boolean)
theorem ml_L50 : Cond.methodLink RL 50 m11_feed.1 ∈ Ts := Ts_in (in_t2 _ (List.mem_of_getElem? (i := 188) rfl)) rfl
theorem ml_L54 : Cond.methodLink RL 54 m12_feed.1 ∈ Ts := Ts_in (in_t7 _ (List.mem_of_getElem? (i := 63) rfl)) rfl
theorem ml_L60 : Cond.methodLink RL 60 m12_desk.1 ∈ Ts := Ts_in (in_t7 _ (List.mem_of_getElem? (i := 67) rfl)) rfl
theorem ml_L61 : Cond.methodLink RL 61 m12_thrown.1 ∈ Ts := Ts_in (in_t7 _ (List.mem_of_getElem? (i := 59) rfl)) rfl
theorem ml_L65 : Cond.methodLink RL 65 m11_fault.1 ∈ Ts := Ts_in (in_t2 _ (List.mem_of_getElem? (i := 196) rfl)) rfl
theorem ml_L68 : Cond.methodLink RL 68 m12_fault.1 ∈ Ts := Ts_in (in_t7 _ (List.mem_of_getElem? (i := 129) rfl)) rfl
theorem ml_L71 : Cond.methodLink RL 71 m12_count.1 ∈ Ts := Ts_in (in_t7 _ (List.mem_of_getElem? (i := 133) rfl)) rfl
theorem ml_L75 : Cond.methodLink RL 75 m12_library.1 ∈ Ts := Ts_in (in_t8 _ (List.mem_of_getElem? (i := 87) rfl)) rfl
theorem ml_L78 : Cond.methodLink RL 78 m12_work.1 ∈ Ts := Ts_in (in_t8 _ (List.mem_of_getElem? (i := 115) rfl)) rfl
theorem ml_L82 : Cond.methodLink RL 82 m12_held.1 ∈ Ts := Ts_in (in_t8 _ (List.mem_of_getElem? (i := 143) rfl)) rfl
theorem ml_L85 : Cond.methodLink RL 85 m12_lack.1 ∈ Ts := Ts_in (in_t8 _ (List.mem_of_getElem? (i := 151) rfl)) rfl
theorem ml_L88 : Cond.methodLink RL 88 m12_order.1 ∈ Ts := Ts_in (in_t8 _ (List.mem_of_getElem? (i := 155) rfl)) rfl
theorem ml_L89 : Cond.methodLink RL 89 m11_own.1 ∈ Ts := Ts_in (in_t2 _ (List.mem_of_getElem? (i := 200) rfl)) rfl
theorem ml_L92 : Cond.methodLink RL 92 m12_own.1 ∈ Ts := Ts_in (in_t8 _ (List.mem_of_getElem? (i := 159) rfl)) rfl
theorem ml_L93 : Cond.methodLink RL 93 m11_promise.1 ∈ Ts := Ts_in (in_t2 _ (List.mem_of_getElem? (i := 239) rfl)) rfl
theorem ml_L97 : Cond.methodLink RL 97 m12_promise.1 ∈ Ts := Ts_in (in_t8 _ (List.mem_of_getElem? (i := 182) rfl)) rfl
theorem ml_L98 : Cond.methodLink RL 98 m11_keep.1 ∈ Ts := Ts_in (in_t3 _ (List.mem_of_getElem? (i := 7) rfl)) rfl
theorem ml_L101 : Cond.methodLink RL 101 m12_keep.1 ∈ Ts := Ts_in (in_t8 _ (List.mem_of_getElem? (i := 186) rfl)) rfl
theorem ml_L102 : Cond.methodLink RL 102 m11_room.1 ∈ Ts := Ts_in (in_t3 _ (List.mem_of_getElem? (i := 16) rfl)) rfl
theorem ml_L105 : Cond.methodLink RL 105 m12_room.1 ∈ Ts := Ts_in (in_t8 _ (List.mem_of_getElem? (i := 190) rfl)) rfl
theorem ml_L106 : Cond.methodLink RL 106 m11_go.1 ∈ Ts := Ts_in (in_t3 _ (List.mem_of_getElem? (i := 21) rfl)) rfl
theorem ml_L109 : Cond.methodLink RL 109 m12_go_.1 ∈ Ts := Ts_in (in_t8 _ (List.mem_of_getElem? (i := 194) rfl)) rfl
theorem ml_L110 : Cond.methodLink RL 110 m11_give.1 ∈ Ts := Ts_in (in_t3 _ (List.mem_of_getElem? (i := 52) rfl)) rfl
theorem ml_L113 : Cond.methodLink RL 113 m12_give.1 ∈ Ts := Ts_in (in_t8 _ (List.mem_of_getElem? (i := 202) rfl)) rfl
theorem ml_L114 : Cond.methodLink RL 114 m11_send.1 ∈ Ts := Ts_in (in_t3 _ (List.mem_of_getElem? (i := 72) rfl)) rfl
theorem ml_L117 : Cond.methodLink RL 117 m12_send.1 ∈ Ts := Ts_in (in_t8 _ (List.mem_of_getElem? (i := 206) rfl)) rfl
theorem ml_L118 : Cond.methodLink RL 118 m11_carry.1 ∈ Ts := Ts_in (in_t3 _ (List.mem_of_getElem? (i := 88) rfl)) rfl
theorem ml_L121 : Cond.methodLink RL 121 m12_carry.1 ∈ Ts := Ts_in (in_t8 _ (List.mem_of_getElem? (i := 210) rfl)) rfl
theorem ml_L122 : Cond.methodLink RL 122 m11_years.1 ∈ Ts := Ts_in (in_t3 _ (List.mem_of_getElem? (i := 173) rfl)) rfl
theorem ml_L125 : Cond.methodLink RL 125 m12_years.1 ∈ Ts := Ts_in (in_t8 _ (List.mem_of_getElem? (i := 218) rfl)) rfl
theorem ml_L126 : Cond.methodLink RL 126 m11_undo.1 ∈ Ts := Ts_in (in_t3 _ (List.mem_of_getElem? (i := 177) rfl)) rfl
theorem ml_L129 : Cond.methodLink RL 129 m12_undo.1 ∈ Ts := Ts_in (in_t8 _ (List.mem_of_getElem? (i := 222) rfl)) rfl
theorem ml_L130 : Cond.methodLink RL 130 m11_note.1 ∈ Ts := Ts_in (in_t3 _ (List.mem_of_getElem? (i := 193) rfl)) rfl
theorem ml_L133 : Cond.methodLink RL 133 m12_note.1 ∈ Ts := Ts_in (in_t8 _ (List.mem_of_getElem? (i := 226) rfl)) rfl
theorem ml_L136 : Cond.methodLink RL 136 m12_fits.1 ∈ Ts := Ts_in (in_t8 _ (List.mem_of_getElem? (i := 230) rfl)) rfl
theorem ml_L139 : Cond.methodLink RL 139 m12_look.1 ∈ Ts := Ts_in (in_t9 _ (List.mem_of_getElem? (i := 2) rfl)) rfl
theorem ml_L140 : Cond.methodLink RL 140 m11_forget.1 ∈ Ts := Ts_in (in_t3 _ (List.mem_of_getElem? (i := 201) rfl)) rfl
theorem ml_L143 : Cond.methodLink RL 143 m12_forget.1 ∈ Ts := Ts_in (in_t9 _ (List.mem_of_getElem? (i := 14) rfl)) rfl
theorem ml_L146 : Cond.methodLink RL 146 m12_drawn.1 ∈ Ts := Ts_in (in_t9 _ (List.mem_of_getElem? (i := 18) rfl)) rfl
theorem ml_L147 : Cond.methodLink RL 147 m11_image.1 ∈ Ts := Ts_in (in_t3 _ (List.mem_of_getElem? (i := 205) rfl)) rfl
theorem ml_L150 : Cond.methodLink RL 150 m12_image.1 ∈ Ts := Ts_in (in_t9 _ (List.mem_of_getElem? (i := 31) rfl)) rfl
theorem ml_L151 : Cond.methodLink RL 151 m11_restore.1 ∈ Ts := Ts_in (in_t3 _ (List.mem_of_getElem? (i := 226) rfl)) rfl
theorem ml_L155 : Cond.methodLink RL 155 m12_restore.1 ∈ Ts := Ts_in (in_t9 _ (List.mem_of_getElem? (i := 35) rfl)) rfl
theorem sh_Ldesk : SHh mL_desk hhL_desk 3 := ⟨cw_Ldesk, in_L, st_Ldesk, by decide +kernel, by decide +kernel, by decide +kernel⟩
theorem sh_Lcount : SHh mL_count hhL_count 3 := ⟨cw_Lcount, in_L, st_Lcount, by decide +kernel, by decide +kernel, by decide +kernel⟩
theorem sh_Llibrary : SHh mL_library hhL_library 4 := ⟨cw_Llibrary, in_L, st_Llibrary, by decide +kernel, by decide +kernel, by decide +kernel⟩
theorem sh_Lwork : SHh mL_work hhL_work 4 := ⟨cw_Lwork, in_L, st_Lwork, by decide +kernel, by decide +kernel, by decide +kernel⟩
theorem sh_Lheld : SHh mL_held hhL_held 5 := ⟨cw_Lheld, in_L, st_Lheld, by decide +kernel, by decide +kernel, by decide +kernel⟩
theorem sh_Llack : SHh mL_lack hhL_lack 3 := ⟨cw_Llack, in_L, st_Llack, by decide +kernel, by decide +kernel, by decide +kernel⟩
theorem sh_Lorder : SHh mL_order hhL_order 3 := ⟨cw_Lorder, in_L, st_Lorder, by decide +kernel, by decide +kernel, by decide +kernel⟩
theorem sh_Lfits : SHh mL_fits hhL_fits 3 := ⟨cw_Lfits, in_L, st_Lfits, by decide +kernel, by decide +kernel, by decide +kernel⟩
theorem sh_Llook : SHh mL_look hhL_look 3 := ⟨cw_Llook, in_L, st_Llook, by decide +kernel, by decide +kernel, by decide +kernel⟩
theorem sh_Ldrawn : SHh mL_drawn hhL_drawn 5 := ⟨cw_Ldrawn, in_L, st_Ldrawn, by decide +kernel, by decide +kernel, by decide +kernel⟩
section LAWQ
variable {G : Gl} {C : Cx} {Z : State → Prop} {k w : Nat} {pc : Nat} {ls : List (Option V)} {st : List V} {M : Mem} {y : Mt}
theorem R_thrown {idx : Nat} (hC : CxOK G mL_law C) (hrm : C.2.2.2.1 = room_1) (hG : GR M) (hd : decode cL_law pc = .ok (.invokevirtual 61, 3)) (hkw : k ≤ 601024 ∧ w ≤ 7293034) (hcat : (st.map vcat).sum ≤ 8) (kk : RZ G LY C Z k w 82 (pc + 3) ls (vI (M 57 4) :: st) M) : RZ G LY C Z k w 82 pc ls (vR 57 :: st) M :=
  R_callV (as := []) hC hd mo_12_thrown ml_L61 (by decide) rfl rfl (c12_thrown hG) rfl rfl (by rw [hrm]; exact ⟨by decide, by decide, hkw.1, hkw.2⟩) hcat (fun r M' h => by obtain ⟨rfl, rfl⟩ := h; exact kk)
end LAWQ
theorem bk_0 {G : Gl} {C : Cx} {Z : State → Prop} {k w L : Nat} {M : Mem} {xs : Nat → Int32} {i c : Int} (hC : CxOK G mL_law C) (hX : SCR G C xs L) (hrm : C.2.2.2.1 = room_1) (hNc : va_Nc eI eN C.2.2.2.2.1) (h0 : 0 ≤ i) (h1 : i + 6 ≤ L) (hkw : k + 1 ≤ 601024 ∧ w + 6 ≤ 7293034) (hs : StA G C.2.1 M c m11_feed m12_feed [vI (xv xs (i + 1)), vI (xv xs (i + 2)), vI (xv xs (i + 3)), vI (xv xs (i + 4)), vI (xv xs (i + 5))]) (kk : ∀ M2 X', REL M2 X' (c + 1) → RZ G LY C Z (k + 1) (w + 6) 82 1308 [some (vR 1030), some (vR 0), some (vR 57), some (vR 81), some (vI i), none, none] [] M2) : RZ G LY C Z k w 82 160 [some (vR 1030), some (vR 0), some (vR 57), some (vR 81), some (vI i), none, none] [] M := by
  obtain ⟨d1, P1, hd1, hc1, h2⟩ := hs
  refine R_aload_1 hC (by decide +kernel) ?_
  refine R_arg (q := 1) hC hX h0 (by decide) (by omega) (by decide +kernel) (by decide +kernel) (by decide +kernel) (by decide +kernel) (by decide +kernel) ?_
  refine R_arg (q := 2) hC hX h0 (by decide) (by omega) (by decide +kernel) (by decide +kernel) (by decide +kernel) (by decide +kernel) (by decide +kernel) ?_
  refine R_arg (q := 3) hC hX h0 (by decide) (by omega) (by decide +kernel) (by decide +kernel) (by decide +kernel) (by decide +kernel) (by decide +kernel) ?_
  refine R_arg (q := 4) hC hX h0 (by decide) (by omega) (by decide +kernel) (by decide +kernel) (by decide +kernel) (by decide +kernel) (by decide +kernel) ?_
  refine R_arg (q := 5) hC hX h0 (by decide) (by omega) (by decide +kernel) (by decide +kernel) (by decide +kernel) (by decide +kernel) (by decide +kernel) ?_
  refine R_callL (as := [vI (xv xs (i + 1)), vI (xv xs (i + 2)), vI (xv xs (i + 3)), vI (xv xs (i + 4)), vI (xv xs (i + 5))]) hC hrm hc1 (by decide +kernel) mo_11_feed ml_L50 (by decide) rfl rfl rfl rfl hd1 (by decide) (by omega) (by decide) (fun v M1 hp1 => ?_)
  obtain ⟨d2, P2, hd2, hc2, h3⟩ := h2 v M1 hp1
  refine R_aload_2 hC (by decide +kernel) ?_
  refine R_arg (q := 1) hC hX h0 (by decide) (by omega) (by decide +kernel) (by decide +kernel) (by decide +kernel) (by decide +kernel) (by decide +kernel) ?_
  refine R_arg (q := 2) hC hX h0 (by decide) (by omega) (by decide +kernel) (by decide +kernel) (by decide +kernel) (by decide +kernel) (by decide +kernel) ?_
  refine R_arg (q := 3) hC hX h0 (by decide) (by omega) (by decide +kernel) (by decide +kernel) (by decide +kernel) (by decide +kernel) (by decide +kernel) ?_
  refine R_arg (q := 4) hC hX h0 (by decide) (by omega) (by decide +kernel) (by decide +kernel) (by decide +kernel) (by decide +kernel) (by decide +kernel) ?_
  refine R_arg (q := 5) hC hX h0 (by decide) (by omega) (by decide +kernel) (by decide +kernel) (by decide +kernel) (by decide +kernel) (by decide +kernel) ?_
  refine R_callL (as := [vI (xv xs (i + 1)), vI (xv xs (i + 2)), vI (xv xs (i + 3)), vI (xv xs (i + 4)), vI (xv xs (i + 5))]) hC hrm hc2 (by decide +kernel) mo_12_feed ml_L54 (by decide) rfl rfl rfl rfl hd2 (by decide) (by omega) (Nat.le_of_ble_eq_true rfl) (fun v' M2 hp2 => ?_)
  obtain ⟨hv, X', hR⟩ := h3 v' M2 hp2
  exact R_icmp_eq (off := 1080) (tgt := 1308) hC (by decide +kernel) (by decide) (fun _ => R_widen (by omega) (by omega) (kk M2 X' hR)) (fun h => absurd hv h)
theorem bk_1 {G : Gl} {C : Cx} {Z : State → Prop} {k w L : Nat} {M : Mem} {xs : Nat → Int32} {i c : Int} (hC : CxOK G mL_law C) (hX : SCR G C xs L) (hrm : C.2.2.2.1 = room_1) (hNc : va_Nc eI eN C.2.2.2.2.1) (h0 : 0 ≤ i) (h1 : i + 6 ≤ L) (hkw : k + 1 ≤ 601024 ∧ w + 6 ≤ 7293034) (hs : StQ G C.2.1 M c mL_desk hhL_desk m12_desk [vI (xv xs (i + 1))]) (kk : ∀ M2 X', REL M2 X' (c + 1) → RZ G LY C Z (k + 1) (w + 6) 82 1308 [some (vR 1030), some (vR 0), some (vR 57), some (vR 81), some (vI i), none, none] [] M2) : RZ G LY C Z k w 82 233 [some (vR 1030), some (vR 0), some (vR 57), some (vR 81), some (vI i), none, none] [] M := by
  obtain ⟨d1, Q1, hd1, hc1, h2⟩ := hs
  refine R_aload_1 hC (by decide +kernel) ?_
  refine R_arg (q := 1) hC hX h0 (by decide) (by omega) (by decide +kernel) (by decide +kernel) (by decide +kernel) (by decide +kernel) (by decide +kernel) ?_
  refine R_aload_3 hC (by decide +kernel) ?_
  refine R_callSH hC hrm hNc hc1 (by decide +kernel) sh_Ldesk ml_L55 rfl rfl hd1 (by decide) hkw (by decide) (fun o M1 hq => ?_)
  obtain ⟨kd, rfl, d2, P2, hd2, hc2, h3⟩ := h2 o M1 hq
  refine R_istore_5 hC (by decide +kernel) rfl ?_
  refine R_aload_2 hC (by decide +kernel) ?_
  refine R_arg (q := 1) hC hX h0 (by decide) (by omega) (by decide +kernel) (by decide +kernel) (by decide +kernel) (by decide +kernel) (by decide +kernel) ?_
  refine R_callL hC hrm hc2 (by decide +kernel) mo_12_desk ml_L60 (by decide) rfl rfl rfl rfl hd2 (by decide) hkw (by decide) (fun v' M2 hp2 => ?_)
  obtain ⟨hk, hv, X', hR⟩ := h3 v' M2 hp2
  refine R_istore_6 hC (by decide +kernel) rfl ?_
  refine R_aload_2 hC (by decide +kernel) ?_
  refine R_thrown (idx := 0) hC hrm hR.1 (by decide +kernel) hkw (by decide) ?_
  refine R_iload_5 hC (by decide +kernel) ?_
  refine R_icmp_eq (off := 5) (tgt := 269) hC (by decide +kernel) (by decide) (fun _ => ?_) (fun h => absurd hk h)
  refine R_iload_5 hC (by decide +kernel) ?_
  refine R_if_ne (off := 15) (tgt := 286) hC (by decide +kernel) (by decide) (fun _ => R_goto (off := 1022) (tgt := 1308) hC (by decide +kernel) (by decide) (R_weak (subL_c (subL_c (subL_c (subL_c (subL_c (subL_d (subL_d subL_n))))))) (kk M2 X' hR))) (fun hz => ?_)
  refine R_aload_3 hC (by decide +kernel) ?_
  refine R_iconst (c := 0) hC (by decide +kernel) (by decide) ?_
  refine R_laload hC (by decide +kernel) (by decide) rfl (by decide) (by decide) ?_
  refine R_iload_6 hC (by decide +kernel) ?_
  refine R_i2l hC (by decide +kernel) ?_
  refine R_lcmp hC (by decide +kernel) ?_
  exact R_if_eq (off := 5) (tgt := 286) hC (by decide +kernel) (by decide) (fun _ => R_goto (off := 1022) (tgt := 1308) hC (by decide +kernel) (by decide) (R_weak (subL_c (subL_c (subL_c (subL_c (subL_c (subL_d (subL_d subL_n))))))) (kk M2 X' hR))) (fun h => absurd (by rw [hv hz, if_neg (Int.lt_irrefl _), if_pos rfl]) h)
theorem bk_2 {G : Gl} {C : Cx} {Z : State → Prop} {k w L : Nat} {M : Mem} {xs : Nat → Int32} {i c : Int} (hC : CxOK G mL_law C) (hX : SCR G C xs L) (hrm : C.2.2.2.1 = room_1) (hNc : va_Nc eI eN C.2.2.2.2.1) (h0 : 0 ≤ i) (h1 : i + 6 ≤ L) (hkw : k + 1 ≤ 601024 ∧ w + 6 ≤ 7293034) (hs : StA G C.2.1 M c m11_fault m12_fault []) (kk : ∀ M2 X', REL M2 X' (c + 1) → RZ G LY C Z (k + 1) (w + 6) 82 1308 [some (vR 1030), some (vR 0), some (vR 57), some (vR 81), some (vI i), none, none] [] M2) : RZ G LY C Z k w 82 289 [some (vR 1030), some (vR 0), some (vR 57), some (vR 81), some (vI i), none, none] [] M := by
  obtain ⟨d1, P1, hd1, hc1, h2⟩ := hs
  refine R_aload_1 hC (by decide +kernel) ?_
  refine R_callL (as := []) hC hrm hc1 (by decide +kernel) mo_11_fault ml_L65 (by decide) rfl rfl rfl rfl hd1 (by decide) (by omega) (by decide) (fun v M1 hp1 => ?_)
  obtain ⟨d2, P2, hd2, hc2, h3⟩ := h2 v M1 hp1
  refine R_aload_2 hC (by decide +kernel) ?_
  refine R_callL (as := []) hC hrm hc2 (by decide +kernel) mo_12_fault ml_L68 (by decide) rfl rfl rfl rfl hd2 (by decide) (by omega) (Nat.le_of_ble_eq_true rfl) (fun v' M2 hp2 => ?_)
  obtain ⟨hv, X', hR⟩ := h3 v' M2 hp2
  exact R_icmp_eq (off := 1011) (tgt := 1308) hC (by decide +kernel) (by decide) (fun _ => R_widen (by omega) (by omega) (kk M2 X' hR)) (fun h => absurd hv h)
theorem bk_3 {G : Gl} {C : Cx} {Z : State → Prop} {k w L : Nat} {M : Mem} {xs : Nat → Int32} {i c : Int} (hC : CxOK G mL_law C) (hX : SCR G C xs L) (hrm : C.2.2.2.1 = room_1) (hNc : va_Nc eI eN C.2.2.2.2.1) (h0 : 0 ≤ i) (h1 : i + 6 ≤ L) (hkw : k + 1 ≤ 601024 ∧ w + 6 ≤ 7293034) (hs : StQ G C.2.1 M c mL_count hhL_count m12_count [vI (xv xs (i + 1))]) (kk : ∀ M2 X', REL M2 X' (c + 1) → RZ G LY C Z (k + 1) (w + 6) 82 1308 [some (vR 1030), some (vR 0), some (vR 57), some (vR 81), some (vI i), none, none] [] M2) : RZ G LY C Z k w 82 302 [some (vR 1030), some (vR 0), some (vR 57), some (vR 81), some (vI i), none, none] [] M := by
  obtain ⟨d1, Q1, hd1, hc1, h2⟩ := hs
  refine R_aload_1 hC (by decide +kernel) ?_
  refine R_arg (q := 1) hC hX h0 (by decide) (by omega) (by decide +kernel) (by decide +kernel) (by decide +kernel) (by decide +kernel) (by decide +kernel) ?_
  refine R_aload_3 hC (by decide +kernel) ?_
  refine R_callSH hC hrm hNc hc1 (by decide +kernel) sh_Lcount ml_L69 rfl rfl hd1 (by decide) hkw (by decide) (fun o M1 hq => ?_)
  obtain ⟨kd, rfl, d2, P2, hd2, hc2, h3⟩ := h2 o M1 hq
  refine R_istore_5 hC (by decide +kernel) rfl ?_
  refine R_aload_2 hC (by decide +kernel) ?_
  refine R_arg (q := 1) hC hX h0 (by decide) (by omega) (by decide +kernel) (by decide +kernel) (by decide +kernel) (by decide +kernel) (by decide +kernel) ?_
  refine R_callL hC hrm hc2 (by decide +kernel) mo_12_count ml_L71 (by decide) rfl rfl rfl rfl hd2 (by decide) hkw (by decide) (fun v' M2 hp2 => ?_)
  obtain ⟨hk, hv, X', hR⟩ := h3 v' M2 hp2
  refine R_istore_6 hC (by decide +kernel) rfl ?_
  refine R_aload_2 hC (by decide +kernel) ?_
  refine R_thrown (idx := 0) hC hrm hR.1 (by decide +kernel) hkw (by decide) ?_
  refine R_iload_5 hC (by decide +kernel) ?_
  refine R_icmp_eq (off := 5) (tgt := 338) hC (by decide +kernel) (by decide) (fun _ => ?_) (fun h => absurd hk h)
  refine R_iload_5 hC (by decide +kernel) ?_
  refine R_if_ne (off := 15) (tgt := 355) hC (by decide +kernel) (by decide) (fun _ => R_goto (off := 953) (tgt := 1308) hC (by decide +kernel) (by decide) (R_weak (subL_c (subL_c (subL_c (subL_c (subL_c (subL_d (subL_d subL_n))))))) (kk M2 X' hR))) (fun hz => ?_)
  refine R_aload_3 hC (by decide +kernel) ?_
  refine R_iconst (c := 0) hC (by decide +kernel) (by decide) ?_
  refine R_laload hC (by decide +kernel) (by decide) rfl (by decide) (by decide) ?_
  refine R_iload_6 hC (by decide +kernel) ?_
  refine R_i2l hC (by decide +kernel) ?_
  refine R_lcmp hC (by decide +kernel) ?_
  exact R_if_eq (off := 5) (tgt := 355) hC (by decide +kernel) (by decide) (fun _ => R_goto (off := 953) (tgt := 1308) hC (by decide +kernel) (by decide) (R_weak (subL_c (subL_c (subL_c (subL_c (subL_c (subL_d (subL_d subL_n))))))) (kk M2 X' hR))) (fun h => absurd (by rw [hv hz, if_neg (Int.lt_irrefl _), if_pos rfl]) h)
theorem bk_4 {G : Gl} {C : Cx} {Z : State → Prop} {k w L : Nat} {M : Mem} {xs : Nat → Int32} {i c : Int} (hC : CxOK G mL_law C) (hX : SCR G C xs L) (hrm : C.2.2.2.1 = room_1) (hNc : va_Nc eI eN C.2.2.2.2.1) (h0 : 0 ≤ i) (h1 : i + 6 ≤ L) (hkw : k + 1 ≤ 601024 ∧ w + 6 ≤ 7293034) (hs : StQ G C.2.1 M c mL_library hhL_library m12_library [vI (xv xs (i + 1)), vI (xv xs (i + 2))]) (kk : ∀ M2 X', REL M2 X' (c + 1) → RZ G LY C Z (k + 1) (w + 6) 82 1308 [some (vR 1030), some (vR 0), some (vR 57), some (vR 81), some (vI i), none, none] [] M2) : RZ G LY C Z k w 82 358 [some (vR 1030), some (vR 0), some (vR 57), some (vR 81), some (vI i), none, none] [] M := by
  obtain ⟨d1, Q1, hd1, hc1, h2⟩ := hs
  refine R_aload_1 hC (by decide +kernel) ?_
  refine R_arg (q := 1) hC hX h0 (by decide) (by omega) (by decide +kernel) (by decide +kernel) (by decide +kernel) (by decide +kernel) (by decide +kernel) ?_
  refine R_arg (q := 2) hC hX h0 (by decide) (by omega) (by decide +kernel) (by decide +kernel) (by decide +kernel) (by decide +kernel) (by decide +kernel) ?_
  refine R_aload_3 hC (by decide +kernel) ?_
  refine R_callSH hC hrm hNc hc1 (by decide +kernel) sh_Llibrary ml_L72 rfl rfl hd1 (by decide) hkw (by decide) (fun o M1 hq => ?_)
  obtain ⟨kd, rfl, d2, P2, hd2, hc2, h3⟩ := h2 o M1 hq
  refine R_istore_5 hC (by decide +kernel) rfl ?_
  refine R_aload_2 hC (by decide +kernel) ?_
  refine R_arg (q := 1) hC hX h0 (by decide) (by omega) (by decide +kernel) (by decide +kernel) (by decide +kernel) (by decide +kernel) (by decide +kernel) ?_
  refine R_arg (q := 2) hC hX h0 (by decide) (by omega) (by decide +kernel) (by decide +kernel) (by decide +kernel) (by decide +kernel) (by decide +kernel) ?_
  refine R_callL hC hrm hc2 (by decide +kernel) mo_12_library ml_L75 (by decide) rfl rfl rfl rfl hd2 (by decide) hkw (by decide) (fun v' M2 hp2 => ?_)
  obtain ⟨hk, hv, X', hR⟩ := h3 v' M2 hp2
  refine R_istore_6 hC (by decide +kernel) rfl ?_
  refine R_aload_2 hC (by decide +kernel) ?_
  refine R_thrown (idx := 0) hC hrm hR.1 (by decide +kernel) hkw (by decide) ?_
  refine R_iload_5 hC (by decide +kernel) ?_
  refine R_icmp_eq (off := 5) (tgt := 406) hC (by decide +kernel) (by decide) (fun _ => ?_) (fun h => absurd hk h)
  refine R_iload_5 hC (by decide +kernel) ?_
  refine R_if_ne (off := 15) (tgt := 423) hC (by decide +kernel) (by decide) (fun _ => R_goto (off := 885) (tgt := 1308) hC (by decide +kernel) (by decide) (R_weak (subL_c (subL_c (subL_c (subL_c (subL_c (subL_d (subL_d subL_n))))))) (kk M2 X' hR))) (fun hz => ?_)
  refine R_aload_3 hC (by decide +kernel) ?_
  refine R_iconst (c := 0) hC (by decide +kernel) (by decide) ?_
  refine R_laload hC (by decide +kernel) (by decide) rfl (by decide) (by decide) ?_
  refine R_iload_6 hC (by decide +kernel) ?_
  refine R_i2l hC (by decide +kernel) ?_
  refine R_lcmp hC (by decide +kernel) ?_
  exact R_if_eq (off := 5) (tgt := 423) hC (by decide +kernel) (by decide) (fun _ => R_goto (off := 885) (tgt := 1308) hC (by decide +kernel) (by decide) (R_weak (subL_c (subL_c (subL_c (subL_c (subL_c (subL_d (subL_d subL_n))))))) (kk M2 X' hR))) (fun h => absurd (by rw [hv hz, if_neg (Int.lt_irrefl _), if_pos rfl]) h)
theorem bk_5 {G : Gl} {C : Cx} {Z : State → Prop} {k w L : Nat} {M : Mem} {xs : Nat → Int32} {i c : Int} (hC : CxOK G mL_law C) (hX : SCR G C xs L) (hrm : C.2.2.2.1 = room_1) (hNc : va_Nc eI eN C.2.2.2.2.1) (h0 : 0 ≤ i) (h1 : i + 6 ≤ L) (hkw : k + 1 ≤ 601024 ∧ w + 6 ≤ 7293034) (hs : StQ G C.2.1 M c mL_work hhL_work m12_work [vI (xv xs (i + 1)), vI (xv xs (i + 2))]) (kk : ∀ M2 X', REL M2 X' (c + 1) → RZ G LY C Z (k + 1) (w + 6) 82 1308 [some (vR 1030), some (vR 0), some (vR 57), some (vR 81), some (vI i), none, none] [] M2) : RZ G LY C Z k w 82 426 [some (vR 1030), some (vR 0), some (vR 57), some (vR 81), some (vI i), none, none] [] M := by
  obtain ⟨d1, Q1, hd1, hc1, h2⟩ := hs
  refine R_aload_1 hC (by decide +kernel) ?_
  refine R_arg (q := 1) hC hX h0 (by decide) (by omega) (by decide +kernel) (by decide +kernel) (by decide +kernel) (by decide +kernel) (by decide +kernel) ?_
  refine R_arg (q := 2) hC hX h0 (by decide) (by omega) (by decide +kernel) (by decide +kernel) (by decide +kernel) (by decide +kernel) (by decide +kernel) ?_
  refine R_aload_3 hC (by decide +kernel) ?_
  refine R_callSH hC hrm hNc hc1 (by decide +kernel) sh_Lwork ml_L76 rfl rfl hd1 (by decide) hkw (by decide) (fun o M1 hq => ?_)
  obtain ⟨kd, rfl, d2, P2, hd2, hc2, h3⟩ := h2 o M1 hq
  refine R_istore_5 hC (by decide +kernel) rfl ?_
  refine R_aload_2 hC (by decide +kernel) ?_
  refine R_arg (q := 1) hC hX h0 (by decide) (by omega) (by decide +kernel) (by decide +kernel) (by decide +kernel) (by decide +kernel) (by decide +kernel) ?_
  refine R_arg (q := 2) hC hX h0 (by decide) (by omega) (by decide +kernel) (by decide +kernel) (by decide +kernel) (by decide +kernel) (by decide +kernel) ?_
  refine R_callL hC hrm hc2 (by decide +kernel) mo_12_work ml_L78 (by decide) rfl rfl rfl rfl hd2 (by decide) hkw (by decide) (fun v' M2 hp2 => ?_)
  obtain ⟨hk, hv, X', hR⟩ := h3 v' M2 hp2
  refine R_istore_6 hC (by decide +kernel) rfl ?_
  refine R_aload_2 hC (by decide +kernel) ?_
  refine R_thrown (idx := 0) hC hrm hR.1 (by decide +kernel) hkw (by decide) ?_
  refine R_iload_5 hC (by decide +kernel) ?_
  refine R_icmp_eq (off := 5) (tgt := 474) hC (by decide +kernel) (by decide) (fun _ => ?_) (fun h => absurd hk h)
  refine R_iload_5 hC (by decide +kernel) ?_
  refine R_if_ne (off := 15) (tgt := 491) hC (by decide +kernel) (by decide) (fun _ => R_goto (off := 817) (tgt := 1308) hC (by decide +kernel) (by decide) (R_weak (subL_c (subL_c (subL_c (subL_c (subL_c (subL_d (subL_d subL_n))))))) (kk M2 X' hR))) (fun hz => ?_)
  refine R_aload_3 hC (by decide +kernel) ?_
  refine R_iconst (c := 0) hC (by decide +kernel) (by decide) ?_
  refine R_laload hC (by decide +kernel) (by decide) rfl (by decide) (by decide) ?_
  refine R_iload_6 hC (by decide +kernel) ?_
  refine R_i2l hC (by decide +kernel) ?_
  refine R_lcmp hC (by decide +kernel) ?_
  exact R_if_eq (off := 5) (tgt := 491) hC (by decide +kernel) (by decide) (fun _ => R_goto (off := 817) (tgt := 1308) hC (by decide +kernel) (by decide) (R_weak (subL_c (subL_c (subL_c (subL_c (subL_c (subL_d (subL_d subL_n))))))) (kk M2 X' hR))) (fun h => absurd (by rw [hv hz, if_neg (Int.lt_irrefl _), if_pos rfl]) h)
theorem bk_6 {G : Gl} {C : Cx} {Z : State → Prop} {k w L : Nat} {M : Mem} {xs : Nat → Int32} {i c : Int} (hC : CxOK G mL_law C) (hX : SCR G C xs L) (hrm : C.2.2.2.1 = room_1) (hNc : va_Nc eI eN C.2.2.2.2.1) (h0 : 0 ≤ i) (h1 : i + 6 ≤ L) (hkw : k + 1 ≤ 601024 ∧ w + 6 ≤ 7293034) (hs : StQ G C.2.1 M c mL_held hhL_held m12_held [vI (xv xs (i + 1)), vI (xv xs (i + 2)), vI (xv xs (i + 3))]) (kk : ∀ M2 X', REL M2 X' (c + 1) → RZ G LY C Z (k + 1) (w + 6) 82 1308 [some (vR 1030), some (vR 0), some (vR 57), some (vR 81), some (vI i), none, none] [] M2) : RZ G LY C Z k w 82 494 [some (vR 1030), some (vR 0), some (vR 57), some (vR 81), some (vI i), none, none] [] M := by
  obtain ⟨d1, Q1, hd1, hc1, h2⟩ := hs
  refine R_aload_1 hC (by decide +kernel) ?_
  refine R_arg (q := 1) hC hX h0 (by decide) (by omega) (by decide +kernel) (by decide +kernel) (by decide +kernel) (by decide +kernel) (by decide +kernel) ?_
  refine R_arg (q := 2) hC hX h0 (by decide) (by omega) (by decide +kernel) (by decide +kernel) (by decide +kernel) (by decide +kernel) (by decide +kernel) ?_
  refine R_arg (q := 3) hC hX h0 (by decide) (by omega) (by decide +kernel) (by decide +kernel) (by decide +kernel) (by decide +kernel) (by decide +kernel) ?_
  refine R_aload_3 hC (by decide +kernel) ?_
  refine R_callSH hC hrm hNc hc1 (by decide +kernel) sh_Lheld ml_L79 rfl rfl hd1 (by decide) hkw (by decide) (fun o M1 hq => ?_)
  obtain ⟨kd, rfl, d2, P2, hd2, hc2, h3⟩ := h2 o M1 hq
  refine R_istore_5 hC (by decide +kernel) rfl ?_
  refine R_aload_2 hC (by decide +kernel) ?_
  refine R_arg (q := 1) hC hX h0 (by decide) (by omega) (by decide +kernel) (by decide +kernel) (by decide +kernel) (by decide +kernel) (by decide +kernel) ?_
  refine R_arg (q := 2) hC hX h0 (by decide) (by omega) (by decide +kernel) (by decide +kernel) (by decide +kernel) (by decide +kernel) (by decide +kernel) ?_
  refine R_arg (q := 3) hC hX h0 (by decide) (by omega) (by decide +kernel) (by decide +kernel) (by decide +kernel) (by decide +kernel) (by decide +kernel) ?_
  refine R_callL hC hrm hc2 (by decide +kernel) mo_12_held ml_L82 (by decide) rfl rfl rfl rfl hd2 (by decide) hkw (by decide) (fun v' M2 hp2 => ?_)
  obtain ⟨hk, hv, X', hR⟩ := h3 v' M2 hp2
  refine R_istore_6 hC (by decide +kernel) rfl ?_
  refine R_aload_2 hC (by decide +kernel) ?_
  refine R_thrown (idx := 0) hC hrm hR.1 (by decide +kernel) hkw (by decide) ?_
  refine R_iload_5 hC (by decide +kernel) ?_
  refine R_icmp_eq (off := 5) (tgt := 554) hC (by decide +kernel) (by decide) (fun _ => ?_) (fun h => absurd hk h)
  refine R_iload_5 hC (by decide +kernel) ?_
  refine R_if_ne (off := 15) (tgt := 571) hC (by decide +kernel) (by decide) (fun _ => R_goto (off := 737) (tgt := 1308) hC (by decide +kernel) (by decide) (R_weak (subL_c (subL_c (subL_c (subL_c (subL_c (subL_d (subL_d subL_n))))))) (kk M2 X' hR))) (fun hz => ?_)
  refine R_aload_3 hC (by decide +kernel) ?_
  refine R_iconst (c := 0) hC (by decide +kernel) (by decide) ?_
  refine R_laload hC (by decide +kernel) (by decide) rfl (by decide) (by decide) ?_
  refine R_iload_6 hC (by decide +kernel) ?_
  refine R_i2l hC (by decide +kernel) ?_
  refine R_lcmp hC (by decide +kernel) ?_
  exact R_if_eq (off := 5) (tgt := 571) hC (by decide +kernel) (by decide) (fun _ => R_goto (off := 737) (tgt := 1308) hC (by decide +kernel) (by decide) (R_weak (subL_c (subL_c (subL_c (subL_c (subL_c (subL_d (subL_d subL_n))))))) (kk M2 X' hR))) (fun h => absurd (by rw [hv hz, if_neg (Int.lt_irrefl _), if_pos rfl]) h)
theorem bk_7 {G : Gl} {C : Cx} {Z : State → Prop} {k w L : Nat} {M : Mem} {xs : Nat → Int32} {i c : Int} (hC : CxOK G mL_law C) (hX : SCR G C xs L) (hrm : C.2.2.2.1 = room_1) (hNc : va_Nc eI eN C.2.2.2.2.1) (h0 : 0 ≤ i) (h1 : i + 6 ≤ L) (hkw : k + 1 ≤ 601024 ∧ w + 6 ≤ 7293034) (hs : StQ G C.2.1 M c mL_lack hhL_lack m12_lack [vI (xv xs (i + 1))]) (kk : ∀ M2 X', REL M2 X' (c + 1) → RZ G LY C Z (k + 1) (w + 6) 82 1308 [some (vR 1030), some (vR 0), some (vR 57), some (vR 81), some (vI i), none, none] [] M2) : RZ G LY C Z k w 82 574 [some (vR 1030), some (vR 0), some (vR 57), some (vR 81), some (vI i), none, none] [] M := by
  obtain ⟨d1, Q1, hd1, hc1, h2⟩ := hs
  refine R_aload_1 hC (by decide +kernel) ?_
  refine R_arg (q := 1) hC hX h0 (by decide) (by omega) (by decide +kernel) (by decide +kernel) (by decide +kernel) (by decide +kernel) (by decide +kernel) ?_
  refine R_aload_3 hC (by decide +kernel) ?_
  refine R_callSH hC hrm hNc hc1 (by decide +kernel) sh_Llack ml_L83 rfl rfl hd1 (by decide) hkw (by decide) (fun o M1 hq => ?_)
  obtain ⟨kd, rfl, d2, P2, hd2, hc2, h3⟩ := h2 o M1 hq
  refine R_istore_5 hC (by decide +kernel) rfl ?_
  refine R_aload_2 hC (by decide +kernel) ?_
  refine R_arg (q := 1) hC hX h0 (by decide) (by omega) (by decide +kernel) (by decide +kernel) (by decide +kernel) (by decide +kernel) (by decide +kernel) ?_
  refine R_callL hC hrm hc2 (by decide +kernel) mo_12_lack ml_L85 (by decide) rfl rfl rfl rfl hd2 (by decide) hkw (by decide) (fun v' M2 hp2 => ?_)
  obtain ⟨hk, hv, X', hR⟩ := h3 v' M2 hp2
  refine R_istore_6 hC (by decide +kernel) rfl ?_
  refine R_aload_2 hC (by decide +kernel) ?_
  refine R_thrown (idx := 0) hC hrm hR.1 (by decide +kernel) hkw (by decide) ?_
  refine R_iload_5 hC (by decide +kernel) ?_
  refine R_icmp_eq (off := 5) (tgt := 610) hC (by decide +kernel) (by decide) (fun _ => ?_) (fun h => absurd hk h)
  refine R_iload_5 hC (by decide +kernel) ?_
  refine R_if_ne (off := 15) (tgt := 627) hC (by decide +kernel) (by decide) (fun _ => R_goto (off := 681) (tgt := 1308) hC (by decide +kernel) (by decide) (R_weak (subL_c (subL_c (subL_c (subL_c (subL_c (subL_d (subL_d subL_n))))))) (kk M2 X' hR))) (fun hz => ?_)
  refine R_aload_3 hC (by decide +kernel) ?_
  refine R_iconst (c := 0) hC (by decide +kernel) (by decide) ?_
  refine R_laload hC (by decide +kernel) (by decide) rfl (by decide) (by decide) ?_
  refine R_iload_6 hC (by decide +kernel) ?_
  refine R_i2l hC (by decide +kernel) ?_
  refine R_lcmp hC (by decide +kernel) ?_
  exact R_if_eq (off := 5) (tgt := 627) hC (by decide +kernel) (by decide) (fun _ => R_goto (off := 681) (tgt := 1308) hC (by decide +kernel) (by decide) (R_weak (subL_c (subL_c (subL_c (subL_c (subL_c (subL_d (subL_d subL_n))))))) (kk M2 X' hR))) (fun h => absurd (by rw [hv hz, if_neg (Int.lt_irrefl _), if_pos rfl]) h)
theorem bk_8 {G : Gl} {C : Cx} {Z : State → Prop} {k w L : Nat} {M : Mem} {xs : Nat → Int32} {i c : Int} (hC : CxOK G mL_law C) (hX : SCR G C xs L) (hrm : C.2.2.2.1 = room_1) (hNc : va_Nc eI eN C.2.2.2.2.1) (h0 : 0 ≤ i) (h1 : i + 6 ≤ L) (hkw : k + 1 ≤ 601024 ∧ w + 6 ≤ 7293034) (hs : StQ G C.2.1 M c mL_order hhL_order m12_order [vI (xv xs (i + 1))]) (kk : ∀ M2 X', REL M2 X' (c + 1) → RZ G LY C Z (k + 1) (w + 6) 82 1308 [some (vR 1030), some (vR 0), some (vR 57), some (vR 81), some (vI i), none, none] [] M2) : RZ G LY C Z k w 82 630 [some (vR 1030), some (vR 0), some (vR 57), some (vR 81), some (vI i), none, none] [] M := by
  obtain ⟨d1, Q1, hd1, hc1, h2⟩ := hs
  refine R_aload_1 hC (by decide +kernel) ?_
  refine R_arg (q := 1) hC hX h0 (by decide) (by omega) (by decide +kernel) (by decide +kernel) (by decide +kernel) (by decide +kernel) (by decide +kernel) ?_
  refine R_aload_3 hC (by decide +kernel) ?_
  refine R_callSH hC hrm hNc hc1 (by decide +kernel) sh_Lorder ml_L86 rfl rfl hd1 (by decide) hkw (by decide) (fun o M1 hq => ?_)
  obtain ⟨kd, rfl, d2, P2, hd2, hc2, h3⟩ := h2 o M1 hq
  refine R_istore_5 hC (by decide +kernel) rfl ?_
  refine R_aload_2 hC (by decide +kernel) ?_
  refine R_arg (q := 1) hC hX h0 (by decide) (by omega) (by decide +kernel) (by decide +kernel) (by decide +kernel) (by decide +kernel) (by decide +kernel) ?_
  refine R_callL hC hrm hc2 (by decide +kernel) mo_12_order ml_L88 (by decide) rfl rfl rfl rfl hd2 (by decide) hkw (by decide) (fun v' M2 hp2 => ?_)
  obtain ⟨hk, hv, X', hR⟩ := h3 v' M2 hp2
  refine R_istore_6 hC (by decide +kernel) rfl ?_
  refine R_aload_2 hC (by decide +kernel) ?_
  refine R_thrown (idx := 0) hC hrm hR.1 (by decide +kernel) hkw (by decide) ?_
  refine R_iload_5 hC (by decide +kernel) ?_
  refine R_icmp_eq (off := 5) (tgt := 666) hC (by decide +kernel) (by decide) (fun _ => ?_) (fun h => absurd hk h)
  refine R_iload_5 hC (by decide +kernel) ?_
  refine R_if_ne (off := 15) (tgt := 683) hC (by decide +kernel) (by decide) (fun _ => R_goto (off := 625) (tgt := 1308) hC (by decide +kernel) (by decide) (R_weak (subL_c (subL_c (subL_c (subL_c (subL_c (subL_d (subL_d subL_n))))))) (kk M2 X' hR))) (fun hz => ?_)
  refine R_aload_3 hC (by decide +kernel) ?_
  refine R_iconst (c := 0) hC (by decide +kernel) (by decide) ?_
  refine R_laload hC (by decide +kernel) (by decide) rfl (by decide) (by decide) ?_
  refine R_iload_6 hC (by decide +kernel) ?_
  refine R_i2l hC (by decide +kernel) ?_
  refine R_lcmp hC (by decide +kernel) ?_
  exact R_if_eq (off := 5) (tgt := 683) hC (by decide +kernel) (by decide) (fun _ => R_goto (off := 625) (tgt := 1308) hC (by decide +kernel) (by decide) (R_weak (subL_c (subL_c (subL_c (subL_c (subL_c (subL_d (subL_d subL_n))))))) (kk M2 X' hR))) (fun h => absurd (by rw [hv hz, if_neg (Int.lt_irrefl _), if_pos rfl]) h)
theorem bk_9 {G : Gl} {C : Cx} {Z : State → Prop} {k w L : Nat} {M : Mem} {xs : Nat → Int32} {i c : Int} (hC : CxOK G mL_law C) (hX : SCR G C xs L) (hrm : C.2.2.2.1 = room_1) (hNc : va_Nc eI eN C.2.2.2.2.1) (h0 : 0 ≤ i) (h1 : i + 6 ≤ L) (hkw : k + 1 ≤ 601024 ∧ w + 6 ≤ 7293034) (hs : StA G C.2.1 M c m11_own m12_own [vI (xv xs (i + 1)), vI (xv xs (i + 2)), vI (xv xs (i + 3))]) (kk : ∀ M2 X', REL M2 X' (c + 1) → RZ G LY C Z (k + 1) (w + 6) 82 1308 [some (vR 1030), some (vR 0), some (vR 57), some (vR 81), some (vI i), none, none] [] M2) : RZ G LY C Z k w 82 686 [some (vR 1030), some (vR 0), some (vR 57), some (vR 81), some (vI i), none, none] [] M := by
  obtain ⟨d1, P1, hd1, hc1, h2⟩ := hs
  refine R_aload_1 hC (by decide +kernel) ?_
  refine R_arg (q := 1) hC hX h0 (by decide) (by omega) (by decide +kernel) (by decide +kernel) (by decide +kernel) (by decide +kernel) (by decide +kernel) ?_
  refine R_arg (q := 2) hC hX h0 (by decide) (by omega) (by decide +kernel) (by decide +kernel) (by decide +kernel) (by decide +kernel) (by decide +kernel) ?_
  refine R_arg (q := 3) hC hX h0 (by decide) (by omega) (by decide +kernel) (by decide +kernel) (by decide +kernel) (by decide +kernel) (by decide +kernel) ?_
  refine R_callL (as := [vI (xv xs (i + 1)), vI (xv xs (i + 2)), vI (xv xs (i + 3))]) hC hrm hc1 (by decide +kernel) mo_11_own ml_L89 (by decide) rfl rfl rfl rfl hd1 (by decide) (by omega) (by decide) (fun v M1 hp1 => ?_)
  obtain ⟨d2, P2, hd2, hc2, h3⟩ := h2 v M1 hp1
  refine R_aload_2 hC (by decide +kernel) ?_
  refine R_arg (q := 1) hC hX h0 (by decide) (by omega) (by decide +kernel) (by decide +kernel) (by decide +kernel) (by decide +kernel) (by decide +kernel) ?_
  refine R_arg (q := 2) hC hX h0 (by decide) (by omega) (by decide +kernel) (by decide +kernel) (by decide +kernel) (by decide +kernel) (by decide +kernel) ?_
  refine R_arg (q := 3) hC hX h0 (by decide) (by omega) (by decide +kernel) (by decide +kernel) (by decide +kernel) (by decide +kernel) (by decide +kernel) ?_
  refine R_callL (as := [vI (xv xs (i + 1)), vI (xv xs (i + 2)), vI (xv xs (i + 3))]) hC hrm hc2 (by decide +kernel) mo_12_own ml_L92 (by decide) rfl rfl rfl rfl hd2 (by decide) (by omega) (Nat.le_of_ble_eq_true rfl) (fun v' M2 hp2 => ?_)
  obtain ⟨hv, X', hR⟩ := h3 v' M2 hp2
  exact R_icmp_eq (off := 578) (tgt := 1308) hC (by decide +kernel) (by decide) (fun _ => R_widen (by omega) (by omega) (kk M2 X' hR)) (fun h => absurd hv h)
theorem bk_10 {G : Gl} {C : Cx} {Z : State → Prop} {k w L : Nat} {M : Mem} {xs : Nat → Int32} {i c : Int} (hC : CxOK G mL_law C) (hX : SCR G C xs L) (hrm : C.2.2.2.1 = room_1) (hNc : va_Nc eI eN C.2.2.2.2.1) (h0 : 0 ≤ i) (h1 : i + 6 ≤ L) (hkw : k + 1 ≤ 601024 ∧ w + 6 ≤ 7293034) (hs : StA G C.2.1 M c m11_promise m12_promise [vI (xv xs (i + 1)), vI (xv xs (i + 2)), vI (xv xs (i + 3)), vI (xv xs (i + 4))]) (kk : ∀ M2 X', REL M2 X' (c + 1) → RZ G LY C Z (k + 1) (w + 6) 82 1308 [some (vR 1030), some (vR 0), some (vR 57), some (vR 81), some (vI i), none, none] [] M2) : RZ G LY C Z k w 82 735 [some (vR 1030), some (vR 0), some (vR 57), some (vR 81), some (vI i), none, none] [] M := by
  obtain ⟨d1, P1, hd1, hc1, h2⟩ := hs
  refine R_aload_1 hC (by decide +kernel) ?_
  refine R_arg (q := 1) hC hX h0 (by decide) (by omega) (by decide +kernel) (by decide +kernel) (by decide +kernel) (by decide +kernel) (by decide +kernel) ?_
  refine R_arg (q := 2) hC hX h0 (by decide) (by omega) (by decide +kernel) (by decide +kernel) (by decide +kernel) (by decide +kernel) (by decide +kernel) ?_
  refine R_arg (q := 3) hC hX h0 (by decide) (by omega) (by decide +kernel) (by decide +kernel) (by decide +kernel) (by decide +kernel) (by decide +kernel) ?_
  refine R_arg (q := 4) hC hX h0 (by decide) (by omega) (by decide +kernel) (by decide +kernel) (by decide +kernel) (by decide +kernel) (by decide +kernel) ?_
  refine R_callL (as := [vI (xv xs (i + 1)), vI (xv xs (i + 2)), vI (xv xs (i + 3)), vI (xv xs (i + 4))]) hC hrm hc1 (by decide +kernel) mo_11_promise ml_L93 (by decide) rfl rfl rfl rfl hd1 (by decide) (by omega) (by decide) (fun v M1 hp1 => ?_)
  obtain ⟨d2, P2, hd2, hc2, h3⟩ := h2 v M1 hp1
  refine R_aload_2 hC (by decide +kernel) ?_
  refine R_arg (q := 1) hC hX h0 (by decide) (by omega) (by decide +kernel) (by decide +kernel) (by decide +kernel) (by decide +kernel) (by decide +kernel) ?_
  refine R_arg (q := 2) hC hX h0 (by decide) (by omega) (by decide +kernel) (by decide +kernel) (by decide +kernel) (by decide +kernel) (by decide +kernel) ?_
  refine R_arg (q := 3) hC hX h0 (by decide) (by omega) (by decide +kernel) (by decide +kernel) (by decide +kernel) (by decide +kernel) (by decide +kernel) ?_
  refine R_arg (q := 4) hC hX h0 (by decide) (by omega) (by decide +kernel) (by decide +kernel) (by decide +kernel) (by decide +kernel) (by decide +kernel) ?_
  refine R_callL (as := [vI (xv xs (i + 1)), vI (xv xs (i + 2)), vI (xv xs (i + 3)), vI (xv xs (i + 4))]) hC hrm hc2 (by decide +kernel) mo_12_promise ml_L97 (by decide) rfl rfl rfl rfl hd2 (by decide) (by omega) (Nat.le_of_ble_eq_true rfl) (fun v' M2 hp2 => ?_)
  obtain ⟨hv, X', hR⟩ := h3 v' M2 hp2
  exact R_icmp_eq (off := 517) (tgt := 1308) hC (by decide +kernel) (by decide) (fun _ => R_widen (by omega) (by omega) (kk M2 X' hR)) (fun h => absurd hv h)
theorem bk_11 {G : Gl} {C : Cx} {Z : State → Prop} {k w L : Nat} {M : Mem} {xs : Nat → Int32} {i c : Int} (hC : CxOK G mL_law C) (hX : SCR G C xs L) (hrm : C.2.2.2.1 = room_1) (hNc : va_Nc eI eN C.2.2.2.2.1) (h0 : 0 ≤ i) (h1 : i + 6 ≤ L) (hkw : k + 1 ≤ 601024 ∧ w + 6 ≤ 7293034) (hs : StA G C.2.1 M c m11_keep m12_keep [vI (xv xs (i + 1)), vI (xv xs (i + 2))]) (kk : ∀ M2 X', REL M2 X' (c + 1) → RZ G LY C Z (k + 1) (w + 6) 82 1308 [some (vR 1030), some (vR 0), some (vR 57), some (vR 81), some (vI i), none, none] [] M2) : RZ G LY C Z k w 82 796 [some (vR 1030), some (vR 0), some (vR 57), some (vR 81), some (vI i), none, none] [] M := by
  obtain ⟨d1, P1, hd1, hc1, h2⟩ := hs
  refine R_aload_1 hC (by decide +kernel) ?_
  refine R_arg (q := 1) hC hX h0 (by decide) (by omega) (by decide +kernel) (by decide +kernel) (by decide +kernel) (by decide +kernel) (by decide +kernel) ?_
  refine R_arg (q := 2) hC hX h0 (by decide) (by omega) (by decide +kernel) (by decide +kernel) (by decide +kernel) (by decide +kernel) (by decide +kernel) ?_
  refine R_callL (as := [vI (xv xs (i + 1)), vI (xv xs (i + 2))]) hC hrm hc1 (by decide +kernel) mo_11_keep ml_L98 (by decide) rfl rfl rfl rfl hd1 (by decide) (by omega) (by decide) (fun v M1 hp1 => ?_)
  obtain ⟨d2, P2, hd2, hc2, h3⟩ := h2 v M1 hp1
  refine R_aload_2 hC (by decide +kernel) ?_
  refine R_arg (q := 1) hC hX h0 (by decide) (by omega) (by decide +kernel) (by decide +kernel) (by decide +kernel) (by decide +kernel) (by decide +kernel) ?_
  refine R_arg (q := 2) hC hX h0 (by decide) (by omega) (by decide +kernel) (by decide +kernel) (by decide +kernel) (by decide +kernel) (by decide +kernel) ?_
  refine R_callL (as := [vI (xv xs (i + 1)), vI (xv xs (i + 2))]) hC hrm hc2 (by decide +kernel) mo_12_keep ml_L101 (by decide) rfl rfl rfl rfl hd2 (by decide) (by omega) (Nat.le_of_ble_eq_true rfl) (fun v' M2 hp2 => ?_)
  obtain ⟨hv, X', hR⟩ := h3 v' M2 hp2
  exact R_icmp_eq (off := 480) (tgt := 1308) hC (by decide +kernel) (by decide) (fun _ => R_widen (by omega) (by omega) (kk M2 X' hR)) (fun h => absurd hv h)
theorem bk_12 {G : Gl} {C : Cx} {Z : State → Prop} {k w L : Nat} {M : Mem} {xs : Nat → Int32} {i c : Int} (hC : CxOK G mL_law C) (hX : SCR G C xs L) (hrm : C.2.2.2.1 = room_1) (hNc : va_Nc eI eN C.2.2.2.2.1) (h0 : 0 ≤ i) (h1 : i + 6 ≤ L) (hkw : k + 1 ≤ 601024 ∧ w + 6 ≤ 7293034) (hs : StA G C.2.1 M c m11_room m12_room [vI (xv xs (i + 1)), vI (xv xs (i + 2)), vI (xv xs (i + 3))]) (kk : ∀ M2 X', REL M2 X' (c + 1) → RZ G LY C Z (k + 1) (w + 6) 82 1308 [some (vR 1030), some (vR 0), some (vR 57), some (vR 81), some (vI i), none, none] [] M2) : RZ G LY C Z k w 82 833 [some (vR 1030), some (vR 0), some (vR 57), some (vR 81), some (vI i), none, none] [] M := by
  obtain ⟨d1, P1, hd1, hc1, h2⟩ := hs
  refine R_aload_1 hC (by decide +kernel) ?_
  refine R_arg (q := 1) hC hX h0 (by decide) (by omega) (by decide +kernel) (by decide +kernel) (by decide +kernel) (by decide +kernel) (by decide +kernel) ?_
  refine R_arg (q := 2) hC hX h0 (by decide) (by omega) (by decide +kernel) (by decide +kernel) (by decide +kernel) (by decide +kernel) (by decide +kernel) ?_
  refine R_arg (q := 3) hC hX h0 (by decide) (by omega) (by decide +kernel) (by decide +kernel) (by decide +kernel) (by decide +kernel) (by decide +kernel) ?_
  refine R_callL (as := [vI (xv xs (i + 1)), vI (xv xs (i + 2)), vI (xv xs (i + 3))]) hC hrm hc1 (by decide +kernel) mo_11_room ml_L102 (by decide) rfl rfl rfl rfl hd1 (by decide) (by omega) (by decide) (fun v M1 hp1 => ?_)
  obtain ⟨d2, P2, hd2, hc2, h3⟩ := h2 v M1 hp1
  refine R_aload_2 hC (by decide +kernel) ?_
  refine R_arg (q := 1) hC hX h0 (by decide) (by omega) (by decide +kernel) (by decide +kernel) (by decide +kernel) (by decide +kernel) (by decide +kernel) ?_
  refine R_arg (q := 2) hC hX h0 (by decide) (by omega) (by decide +kernel) (by decide +kernel) (by decide +kernel) (by decide +kernel) (by decide +kernel) ?_
  refine R_arg (q := 3) hC hX h0 (by decide) (by omega) (by decide +kernel) (by decide +kernel) (by decide +kernel) (by decide +kernel) (by decide +kernel) ?_
  refine R_callL (as := [vI (xv xs (i + 1)), vI (xv xs (i + 2)), vI (xv xs (i + 3))]) hC hrm hc2 (by decide +kernel) mo_12_room ml_L105 (by decide) rfl rfl rfl rfl hd2 (by decide) (by omega) (Nat.le_of_ble_eq_true rfl) (fun v' M2 hp2 => ?_)
  obtain ⟨hv, X', hR⟩ := h3 v' M2 hp2
  exact R_icmp_eq (off := 431) (tgt := 1308) hC (by decide +kernel) (by decide) (fun _ => R_widen (by omega) (by omega) (kk M2 X' hR)) (fun h => absurd hv h)
theorem bk_13 {G : Gl} {C : Cx} {Z : State → Prop} {k w L : Nat} {M : Mem} {xs : Nat → Int32} {i c : Int} (hC : CxOK G mL_law C) (hX : SCR G C xs L) (hrm : C.2.2.2.1 = room_1) (hNc : va_Nc eI eN C.2.2.2.2.1) (h0 : 0 ≤ i) (h1 : i + 6 ≤ L) (hkw : k + 1 ≤ 601024 ∧ w + 6 ≤ 7293034) (hs : StA G C.2.1 M c m11_go m12_go_ [vI (xv xs (i + 1)), vI (xv xs (i + 2))]) (kk : ∀ M2 X', REL M2 X' (c + 1) → RZ G LY C Z (k + 1) (w + 6) 82 1308 [some (vR 1030), some (vR 0), some (vR 57), some (vR 81), some (vI i), none, none] [] M2) : RZ G LY C Z k w 82 882 [some (vR 1030), some (vR 0), some (vR 57), some (vR 81), some (vI i), none, none] [] M := by
  obtain ⟨d1, P1, hd1, hc1, h2⟩ := hs
  refine R_aload_1 hC (by decide +kernel) ?_
  refine R_arg (q := 1) hC hX h0 (by decide) (by omega) (by decide +kernel) (by decide +kernel) (by decide +kernel) (by decide +kernel) (by decide +kernel) ?_
  refine R_arg (q := 2) hC hX h0 (by decide) (by omega) (by decide +kernel) (by decide +kernel) (by decide +kernel) (by decide +kernel) (by decide +kernel) ?_
  refine R_callL (as := [vI (xv xs (i + 1)), vI (xv xs (i + 2))]) hC hrm hc1 (by decide +kernel) mo_11_go ml_L106 (by decide) rfl rfl rfl rfl hd1 (by decide) (by omega) (by decide) (fun v M1 hp1 => ?_)
  obtain ⟨d2, P2, hd2, hc2, h3⟩ := h2 v M1 hp1
  refine R_aload_2 hC (by decide +kernel) ?_
  refine R_arg (q := 1) hC hX h0 (by decide) (by omega) (by decide +kernel) (by decide +kernel) (by decide +kernel) (by decide +kernel) (by decide +kernel) ?_
  refine R_arg (q := 2) hC hX h0 (by decide) (by omega) (by decide +kernel) (by decide +kernel) (by decide +kernel) (by decide +kernel) (by decide +kernel) ?_
  refine R_callL (as := [vI (xv xs (i + 1)), vI (xv xs (i + 2))]) hC hrm hc2 (by decide +kernel) mo_12_go_ ml_L109 (by decide) rfl rfl rfl rfl hd2 (by decide) (by omega) (Nat.le_of_ble_eq_true rfl) (fun v' M2 hp2 => ?_)
  obtain ⟨hv, X', hR⟩ := h3 v' M2 hp2
  exact R_icmp_eq (off := 394) (tgt := 1308) hC (by decide +kernel) (by decide) (fun _ => R_widen (by omega) (by omega) (kk M2 X' hR)) (fun h => absurd hv h)
theorem bk_14 {G : Gl} {C : Cx} {Z : State → Prop} {k w L : Nat} {M : Mem} {xs : Nat → Int32} {i c : Int} (hC : CxOK G mL_law C) (hX : SCR G C xs L) (hrm : C.2.2.2.1 = room_1) (hNc : va_Nc eI eN C.2.2.2.2.1) (h0 : 0 ≤ i) (h1 : i + 6 ≤ L) (hkw : k + 1 ≤ 601024 ∧ w + 6 ≤ 7293034) (hs : StA G C.2.1 M c m11_give m12_give [vI (xv xs (i + 1)), vI (xv xs (i + 2)), vI (xv xs (i + 3))]) (kk : ∀ M2 X', REL M2 X' (c + 1) → RZ G LY C Z (k + 1) (w + 6) 82 1308 [some (vR 1030), some (vR 0), some (vR 57), some (vR 81), some (vI i), none, none] [] M2) : RZ G LY C Z k w 82 919 [some (vR 1030), some (vR 0), some (vR 57), some (vR 81), some (vI i), none, none] [] M := by
  obtain ⟨d1, P1, hd1, hc1, h2⟩ := hs
  refine R_aload_1 hC (by decide +kernel) ?_
  refine R_arg (q := 1) hC hX h0 (by decide) (by omega) (by decide +kernel) (by decide +kernel) (by decide +kernel) (by decide +kernel) (by decide +kernel) ?_
  refine R_arg (q := 2) hC hX h0 (by decide) (by omega) (by decide +kernel) (by decide +kernel) (by decide +kernel) (by decide +kernel) (by decide +kernel) ?_
  refine R_arg (q := 3) hC hX h0 (by decide) (by omega) (by decide +kernel) (by decide +kernel) (by decide +kernel) (by decide +kernel) (by decide +kernel) ?_
  refine R_callL (as := [vI (xv xs (i + 1)), vI (xv xs (i + 2)), vI (xv xs (i + 3))]) hC hrm hc1 (by decide +kernel) mo_11_give ml_L110 (by decide) rfl rfl rfl rfl hd1 (by decide) (by omega) (by decide) (fun v M1 hp1 => ?_)
  obtain ⟨d2, P2, hd2, hc2, h3⟩ := h2 v M1 hp1
  refine R_aload_2 hC (by decide +kernel) ?_
  refine R_arg (q := 1) hC hX h0 (by decide) (by omega) (by decide +kernel) (by decide +kernel) (by decide +kernel) (by decide +kernel) (by decide +kernel) ?_
  refine R_arg (q := 2) hC hX h0 (by decide) (by omega) (by decide +kernel) (by decide +kernel) (by decide +kernel) (by decide +kernel) (by decide +kernel) ?_
  refine R_arg (q := 3) hC hX h0 (by decide) (by omega) (by decide +kernel) (by decide +kernel) (by decide +kernel) (by decide +kernel) (by decide +kernel) ?_
  refine R_callL (as := [vI (xv xs (i + 1)), vI (xv xs (i + 2)), vI (xv xs (i + 3))]) hC hrm hc2 (by decide +kernel) mo_12_give ml_L113 (by decide) rfl rfl rfl rfl hd2 (by decide) (by omega) (Nat.le_of_ble_eq_true rfl) (fun v' M2 hp2 => ?_)
  obtain ⟨hv, X', hR⟩ := h3 v' M2 hp2
  exact R_icmp_eq (off := 345) (tgt := 1308) hC (by decide +kernel) (by decide) (fun _ => R_widen (by omega) (by omega) (kk M2 X' hR)) (fun h => absurd hv h)
theorem bk_15 {G : Gl} {C : Cx} {Z : State → Prop} {k w L : Nat} {M : Mem} {xs : Nat → Int32} {i c : Int} (hC : CxOK G mL_law C) (hX : SCR G C xs L) (hrm : C.2.2.2.1 = room_1) (hNc : va_Nc eI eN C.2.2.2.2.1) (h0 : 0 ≤ i) (h1 : i + 6 ≤ L) (hkw : k + 1 ≤ 601024 ∧ w + 6 ≤ 7293034) (hs : StA G C.2.1 M c m11_send m12_send [vI (xv xs (i + 1)), vI (xv xs (i + 2))]) (kk : ∀ M2 X', REL M2 X' (c + 1) → RZ G LY C Z (k + 1) (w + 6) 82 1308 [some (vR 1030), some (vR 0), some (vR 57), some (vR 81), some (vI i), none, none] [] M2) : RZ G LY C Z k w 82 968 [some (vR 1030), some (vR 0), some (vR 57), some (vR 81), some (vI i), none, none] [] M := by
  obtain ⟨d1, P1, hd1, hc1, h2⟩ := hs
  refine R_aload_1 hC (by decide +kernel) ?_
  refine R_arg (q := 1) hC hX h0 (by decide) (by omega) (by decide +kernel) (by decide +kernel) (by decide +kernel) (by decide +kernel) (by decide +kernel) ?_
  refine R_arg (q := 2) hC hX h0 (by decide) (by omega) (by decide +kernel) (by decide +kernel) (by decide +kernel) (by decide +kernel) (by decide +kernel) ?_
  refine R_callL (as := [vI (xv xs (i + 1)), vI (xv xs (i + 2))]) hC hrm hc1 (by decide +kernel) mo_11_send ml_L114 (by decide) rfl rfl rfl rfl hd1 (by decide) (by omega) (by decide) (fun v M1 hp1 => ?_)
  obtain ⟨d2, P2, hd2, hc2, h3⟩ := h2 v M1 hp1
  refine R_aload_2 hC (by decide +kernel) ?_
  refine R_arg (q := 1) hC hX h0 (by decide) (by omega) (by decide +kernel) (by decide +kernel) (by decide +kernel) (by decide +kernel) (by decide +kernel) ?_
  refine R_arg (q := 2) hC hX h0 (by decide) (by omega) (by decide +kernel) (by decide +kernel) (by decide +kernel) (by decide +kernel) (by decide +kernel) ?_
  refine R_callL (as := [vI (xv xs (i + 1)), vI (xv xs (i + 2))]) hC hrm hc2 (by decide +kernel) mo_12_send ml_L117 (by decide) rfl rfl rfl rfl hd2 (by decide) (by omega) (Nat.le_of_ble_eq_true rfl) (fun v' M2 hp2 => ?_)
  obtain ⟨hv, X', hR⟩ := h3 v' M2 hp2
  exact R_icmp_eq (off := 308) (tgt := 1308) hC (by decide +kernel) (by decide) (fun _ => R_widen (by omega) (by omega) (kk M2 X' hR)) (fun h => absurd hv h)
theorem bk_16 {G : Gl} {C : Cx} {Z : State → Prop} {k w L : Nat} {M : Mem} {xs : Nat → Int32} {i c : Int} (hC : CxOK G mL_law C) (hX : SCR G C xs L) (hrm : C.2.2.2.1 = room_1) (hNc : va_Nc eI eN C.2.2.2.2.1) (h0 : 0 ≤ i) (h1 : i + 6 ≤ L) (hkw : k + 1 ≤ 601024 ∧ w + 6 ≤ 7293034) (hs : StA G C.2.1 M c m11_carry m12_carry []) (kk : ∀ M2 X', REL M2 X' (c + 1) → RZ G LY C Z (k + 1) (w + 6) 82 1308 [some (vR 1030), some (vR 0), some (vR 57), some (vR 81), some (vI i), none, none] [] M2) : RZ G LY C Z k w 82 1005 [some (vR 1030), some (vR 0), some (vR 57), some (vR 81), some (vI i), none, none] [] M := by
  obtain ⟨d1, P1, hd1, hc1, h2⟩ := hs
  refine R_aload_1 hC (by decide +kernel) ?_
  refine R_callL (as := []) hC hrm hc1 (by decide +kernel) mo_11_carry ml_L118 (by decide) rfl rfl rfl rfl hd1 (by decide) (by omega) (by decide) (fun v M1 hp1 => ?_)
  obtain ⟨d2, P2, hd2, hc2, h3⟩ := h2 v M1 hp1
  refine R_aload_2 hC (by decide +kernel) ?_
  refine R_callL (as := []) hC hrm hc2 (by decide +kernel) mo_12_carry ml_L121 (by decide) rfl rfl rfl rfl hd2 (by decide) (by omega) (Nat.le_of_ble_eq_true rfl) (fun v' M2 hp2 => ?_)
  obtain ⟨hv, X', hR⟩ := h3 v' M2 hp2
  exact R_icmp_eq (off := 295) (tgt := 1308) hC (by decide +kernel) (by decide) (fun _ => R_widen (by omega) (by omega) (kk M2 X' hR)) (fun h => absurd hv h)
theorem bk_17 {G : Gl} {C : Cx} {Z : State → Prop} {k w L : Nat} {M : Mem} {xs : Nat → Int32} {i c : Int} (hC : CxOK G mL_law C) (hX : SCR G C xs L) (hrm : C.2.2.2.1 = room_1) (hNc : va_Nc eI eN C.2.2.2.2.1) (h0 : 0 ≤ i) (h1 : i + 6 ≤ L) (hkw : k + 1 ≤ 601024 ∧ w + 6 ≤ 7293034) (hs : StA G C.2.1 M c m11_years m12_years [vI (xv xs (i + 1))]) (kk : ∀ M2 X', REL M2 X' (c + 1) → RZ G LY C Z (k + 1) (w + 6) 82 1308 [some (vR 1030), some (vR 0), some (vR 57), some (vR 81), some (vI i), none, none] [] M2) : RZ G LY C Z k w 82 1018 [some (vR 1030), some (vR 0), some (vR 57), some (vR 81), some (vI i), none, none] [] M := by
  obtain ⟨d1, P1, hd1, hc1, h2⟩ := hs
  refine R_aload_1 hC (by decide +kernel) ?_
  refine R_arg (q := 1) hC hX h0 (by decide) (by omega) (by decide +kernel) (by decide +kernel) (by decide +kernel) (by decide +kernel) (by decide +kernel) ?_
  refine R_callL (as := [vI (xv xs (i + 1))]) hC hrm hc1 (by decide +kernel) mo_11_years ml_L122 (by decide) rfl rfl rfl rfl hd1 (by decide) (by omega) (by decide) (fun v M1 hp1 => ?_)
  obtain ⟨d2, P2, hd2, hc2, h3⟩ := h2 v M1 hp1
  refine R_aload_2 hC (by decide +kernel) ?_
  refine R_arg (q := 1) hC hX h0 (by decide) (by omega) (by decide +kernel) (by decide +kernel) (by decide +kernel) (by decide +kernel) (by decide +kernel) ?_
  refine R_callL (as := [vI (xv xs (i + 1))]) hC hrm hc2 (by decide +kernel) mo_12_years ml_L125 (by decide) rfl rfl rfl rfl hd2 (by decide) (by omega) (Nat.le_of_ble_eq_true rfl) (fun v' M2 hp2 => ?_)
  obtain ⟨hv, X', hR⟩ := h3 v' M2 hp2
  exact R_icmp_eq (off := 270) (tgt := 1308) hC (by decide +kernel) (by decide) (fun _ => R_widen (by omega) (by omega) (kk M2 X' hR)) (fun h => absurd hv h)
theorem bk_18 {G : Gl} {C : Cx} {Z : State → Prop} {k w L : Nat} {M : Mem} {xs : Nat → Int32} {i c : Int} (hC : CxOK G mL_law C) (hX : SCR G C xs L) (hrm : C.2.2.2.1 = room_1) (hNc : va_Nc eI eN C.2.2.2.2.1) (h0 : 0 ≤ i) (h1 : i + 6 ≤ L) (hkw : k + 1 ≤ 601024 ∧ w + 6 ≤ 7293034) (hs : StA G C.2.1 M c m11_undo m12_undo []) (kk : ∀ M2 X', REL M2 X' (c + 1) → RZ G LY C Z (k + 1) (w + 6) 82 1308 [some (vR 1030), some (vR 0), some (vR 57), some (vR 81), some (vI i), none, none] [] M2) : RZ G LY C Z k w 82 1043 [some (vR 1030), some (vR 0), some (vR 57), some (vR 81), some (vI i), none, none] [] M := by
  obtain ⟨d1, P1, hd1, hc1, h2⟩ := hs
  refine R_aload_1 hC (by decide +kernel) ?_
  refine R_callL (as := []) hC hrm hc1 (by decide +kernel) mo_11_undo ml_L126 (by decide) rfl rfl rfl rfl hd1 (by decide) (by omega) (by decide) (fun v M1 hp1 => ?_)
  obtain ⟨d2, P2, hd2, hc2, h3⟩ := h2 v M1 hp1
  refine R_aload_2 hC (by decide +kernel) ?_
  refine R_callL (as := []) hC hrm hc2 (by decide +kernel) mo_12_undo ml_L129 (by decide) rfl rfl rfl rfl hd2 (by decide) (by omega) (Nat.le_of_ble_eq_true rfl) (fun v' M2 hp2 => ?_)
  obtain ⟨hv, X', hR⟩ := h3 v' M2 hp2
  exact R_icmp_eq (off := 257) (tgt := 1308) hC (by decide +kernel) (by decide) (fun _ => R_widen (by omega) (by omega) (kk M2 X' hR)) (fun h => absurd hv h)
theorem bk_19 {G : Gl} {C : Cx} {Z : State → Prop} {k w L : Nat} {M : Mem} {xs : Nat → Int32} {i c : Int} (hC : CxOK G mL_law C) (hX : SCR G C xs L) (hrm : C.2.2.2.1 = room_1) (hNc : va_Nc eI eN C.2.2.2.2.1) (h0 : 0 ≤ i) (h1 : i + 6 ≤ L) (hkw : k + 1 ≤ 601024 ∧ w + 6 ≤ 7293034) (hs : StA G C.2.1 M c m11_note m12_note [vI (xv xs (i + 1))]) (kk : ∀ M2 X', REL M2 X' (c + 1) → RZ G LY C Z (k + 1) (w + 6) 82 1308 [some (vR 1030), some (vR 0), some (vR 57), some (vR 81), some (vI i), none, none] [] M2) : RZ G LY C Z k w 82 1056 [some (vR 1030), some (vR 0), some (vR 57), some (vR 81), some (vI i), none, none] [] M := by
  obtain ⟨d1, P1, hd1, hc1, h2⟩ := hs
  refine R_aload_1 hC (by decide +kernel) ?_
  refine R_arg (q := 1) hC hX h0 (by decide) (by omega) (by decide +kernel) (by decide +kernel) (by decide +kernel) (by decide +kernel) (by decide +kernel) ?_
  refine R_callL (as := [vI (xv xs (i + 1))]) hC hrm hc1 (by decide +kernel) mo_11_note ml_L130 (by decide) rfl rfl rfl rfl hd1 (by decide) (by omega) (by decide) (fun v M1 hp1 => ?_)
  obtain ⟨d2, P2, hd2, hc2, h3⟩ := h2 v M1 hp1
  refine R_aload_2 hC (by decide +kernel) ?_
  refine R_arg (q := 1) hC hX h0 (by decide) (by omega) (by decide +kernel) (by decide +kernel) (by decide +kernel) (by decide +kernel) (by decide +kernel) ?_
  refine R_callL (as := [vI (xv xs (i + 1))]) hC hrm hc2 (by decide +kernel) mo_12_note ml_L133 (by decide) rfl rfl rfl rfl hd2 (by decide) (by omega) (Nat.le_of_ble_eq_true rfl) (fun v' M2 hp2 => ?_)
  obtain ⟨hv, X', hR⟩ := h3 v' M2 hp2
  exact R_icmp_eq (off := 232) (tgt := 1308) hC (by decide +kernel) (by decide) (fun _ => R_widen (by omega) (by omega) (kk M2 X' hR)) (fun h => absurd hv h)
theorem bk_20 {G : Gl} {C : Cx} {Z : State → Prop} {k w L : Nat} {M : Mem} {xs : Nat → Int32} {i c : Int} (hC : CxOK G mL_law C) (hX : SCR G C xs L) (hrm : C.2.2.2.1 = room_1) (hNc : va_Nc eI eN C.2.2.2.2.1) (h0 : 0 ≤ i) (h1 : i + 6 ≤ L) (hkw : k + 1 ≤ 601024 ∧ w + 6 ≤ 7293034) (hs : StQ G C.2.1 M c mL_fits hhL_fits m12_fits [vI (xv xs (i + 1))]) (kk : ∀ M2 X', REL M2 X' (c + 1) → RZ G LY C Z (k + 1) (w + 6) 82 1308 [some (vR 1030), some (vR 0), some (vR 57), some (vR 81), some (vI i), none, none] [] M2) : RZ G LY C Z k w 82 1081 [some (vR 1030), some (vR 0), some (vR 57), some (vR 81), some (vI i), none, none] [] M := by
  obtain ⟨d1, Q1, hd1, hc1, h2⟩ := hs
  refine R_aload_1 hC (by decide +kernel) ?_
  refine R_arg (q := 1) hC hX h0 (by decide) (by omega) (by decide +kernel) (by decide +kernel) (by decide +kernel) (by decide +kernel) (by decide +kernel) ?_
  refine R_aload_3 hC (by decide +kernel) ?_
  refine R_callSH hC hrm hNc hc1 (by decide +kernel) sh_Lfits ml_L134 rfl rfl hd1 (by decide) hkw (by decide) (fun o M1 hq => ?_)
  obtain ⟨kd, rfl, d2, P2, hd2, hc2, h3⟩ := h2 o M1 hq
  refine R_istore_5 hC (by decide +kernel) rfl ?_
  refine R_aload_2 hC (by decide +kernel) ?_
  refine R_arg (q := 1) hC hX h0 (by decide) (by omega) (by decide +kernel) (by decide +kernel) (by decide +kernel) (by decide +kernel) (by decide +kernel) ?_
  refine R_callL hC hrm hc2 (by decide +kernel) mo_12_fits ml_L136 (by decide) rfl rfl rfl rfl hd2 (by decide) hkw (by decide) (fun v' M2 hp2 => ?_)
  obtain ⟨hk, hv, X', hR⟩ := h3 v' M2 hp2
  refine R_istore_6 hC (by decide +kernel) rfl ?_
  refine R_aload_2 hC (by decide +kernel) ?_
  refine R_thrown (idx := 0) hC hrm hR.1 (by decide +kernel) hkw (by decide) ?_
  refine R_iload_5 hC (by decide +kernel) ?_
  refine R_icmp_eq (off := 5) (tgt := 1117) hC (by decide +kernel) (by decide) (fun _ => ?_) (fun h => absurd hk h)
  refine R_iload_5 hC (by decide +kernel) ?_
  refine R_if_ne (off := 15) (tgt := 1134) hC (by decide +kernel) (by decide) (fun _ => R_goto (off := 174) (tgt := 1308) hC (by decide +kernel) (by decide) (R_weak (subL_c (subL_c (subL_c (subL_c (subL_c (subL_d (subL_d subL_n))))))) (kk M2 X' hR))) (fun hz => ?_)
  refine R_aload_3 hC (by decide +kernel) ?_
  refine R_iconst (c := 0) hC (by decide +kernel) (by decide) ?_
  refine R_laload hC (by decide +kernel) (by decide) rfl (by decide) (by decide) ?_
  refine R_iload_6 hC (by decide +kernel) ?_
  refine R_i2l hC (by decide +kernel) ?_
  refine R_lcmp hC (by decide +kernel) ?_
  exact R_if_eq (off := 5) (tgt := 1134) hC (by decide +kernel) (by decide) (fun _ => R_goto (off := 174) (tgt := 1308) hC (by decide +kernel) (by decide) (R_weak (subL_c (subL_c (subL_c (subL_c (subL_c (subL_d (subL_d subL_n))))))) (kk M2 X' hR))) (fun h => absurd (by rw [hv hz, if_neg (Int.lt_irrefl _), if_pos rfl]) h)
theorem bk_21 {G : Gl} {C : Cx} {Z : State → Prop} {k w L : Nat} {M : Mem} {xs : Nat → Int32} {i c : Int} (hC : CxOK G mL_law C) (hX : SCR G C xs L) (hrm : C.2.2.2.1 = room_1) (hNc : va_Nc eI eN C.2.2.2.2.1) (h0 : 0 ≤ i) (h1 : i + 6 ≤ L) (hkw : k + 1 ≤ 601024 ∧ w + 6 ≤ 7293034) (hs : StQ G C.2.1 M c mL_look hhL_look m12_look [vI (xv xs (i + 1))]) (kk : ∀ M2 X', REL M2 X' (c + 1) → RZ G LY C Z (k + 1) (w + 6) 82 1308 [some (vR 1030), some (vR 0), some (vR 57), some (vR 81), some (vI i), none, none] [] M2) : RZ G LY C Z k w 82 1137 [some (vR 1030), some (vR 0), some (vR 57), some (vR 81), some (vI i), none, none] [] M := by
  obtain ⟨d1, Q1, hd1, hc1, h2⟩ := hs
  refine R_aload_1 hC (by decide +kernel) ?_
  refine R_arg (q := 1) hC hX h0 (by decide) (by omega) (by decide +kernel) (by decide +kernel) (by decide +kernel) (by decide +kernel) (by decide +kernel) ?_
  refine R_aload_3 hC (by decide +kernel) ?_
  refine R_callSH hC hrm hNc hc1 (by decide +kernel) sh_Llook ml_L137 rfl rfl hd1 (by decide) hkw (by decide) (fun o M1 hq => ?_)
  obtain ⟨kd, rfl, d2, P2, hd2, hc2, h3⟩ := h2 o M1 hq
  refine R_istore_5 hC (by decide +kernel) rfl ?_
  refine R_aload_2 hC (by decide +kernel) ?_
  refine R_arg (q := 1) hC hX h0 (by decide) (by omega) (by decide +kernel) (by decide +kernel) (by decide +kernel) (by decide +kernel) (by decide +kernel) ?_
  refine R_callL hC hrm hc2 (by decide +kernel) mo_12_look ml_L139 (by decide) rfl rfl rfl rfl hd2 (by decide) hkw (by decide) (fun v' M2 hp2 => ?_)
  obtain ⟨hk, hv, X', hR⟩ := h3 v' M2 hp2
  refine R_istore_6 hC (by decide +kernel) rfl ?_
  refine R_aload_2 hC (by decide +kernel) ?_
  refine R_thrown (idx := 0) hC hrm hR.1 (by decide +kernel) hkw (by decide) ?_
  refine R_iload_5 hC (by decide +kernel) ?_
  refine R_icmp_eq (off := 5) (tgt := 1173) hC (by decide +kernel) (by decide) (fun _ => ?_) (fun h => absurd hk h)
  refine R_iload_5 hC (by decide +kernel) ?_
  refine R_if_ne (off := 15) (tgt := 1190) hC (by decide +kernel) (by decide) (fun _ => R_goto (off := 118) (tgt := 1308) hC (by decide +kernel) (by decide) (R_weak (subL_c (subL_c (subL_c (subL_c (subL_c (subL_d (subL_d subL_n))))))) (kk M2 X' hR))) (fun hz => ?_)
  refine R_aload_3 hC (by decide +kernel) ?_
  refine R_iconst (c := 0) hC (by decide +kernel) (by decide) ?_
  refine R_laload hC (by decide +kernel) (by decide) rfl (by decide) (by decide) ?_
  refine R_iload_6 hC (by decide +kernel) ?_
  refine R_i2l hC (by decide +kernel) ?_
  refine R_lcmp hC (by decide +kernel) ?_
  exact R_if_eq (off := 5) (tgt := 1190) hC (by decide +kernel) (by decide) (fun _ => R_goto (off := 118) (tgt := 1308) hC (by decide +kernel) (by decide) (R_weak (subL_c (subL_c (subL_c (subL_c (subL_c (subL_d (subL_d subL_n))))))) (kk M2 X' hR))) (fun h => absurd (by rw [hv hz, if_neg (Int.lt_irrefl _), if_pos rfl]) h)
theorem bk_22 {G : Gl} {C : Cx} {Z : State → Prop} {k w L : Nat} {M : Mem} {xs : Nat → Int32} {i c : Int} (hC : CxOK G mL_law C) (hX : SCR G C xs L) (hrm : C.2.2.2.1 = room_1) (hNc : va_Nc eI eN C.2.2.2.2.1) (h0 : 0 ≤ i) (h1 : i + 6 ≤ L) (hkw : k + 1 ≤ 601024 ∧ w + 6 ≤ 7293034) (hs : StV G C.2.1 M c m11_forget m12_forget) (kk : ∀ M2 X', REL M2 X' (c + 1) → RZ G LY C Z (k + 1) (w + 6) 82 1308 [some (vR 1030), some (vR 0), some (vR 57), some (vR 81), some (vI i), none, none] [] M2) : RZ G LY C Z k w 82 1193 [some (vR 1030), some (vR 0), some (vR 57), some (vR 81), some (vI i), none, none] [] M := by
  obtain ⟨d1, P1, hd1, hc1, h2⟩ := hs
  refine R_aload_1 hC (by decide +kernel) ?_
  refine R_callLv (as := []) hC hrm hc1 (by decide +kernel) mo_11_forget ml_L140 (by decide) rfl rfl rfl rfl hd1 (by decide) (by omega) (by decide) (fun M1 hp1 => ?_)
  obtain ⟨d2, P2, hd2, hc2, h3⟩ := h2 M1 hp1
  refine R_aload_2 hC (by decide +kernel) ?_
  refine R_callLv (as := []) hC hrm hc2 (by decide +kernel) mo_12_forget ml_L143 (by decide) rfl rfl rfl rfl hd2 (by decide) (by omega) (by decide) (fun M2 hp2 => ?_)
  obtain ⟨X', hR⟩ := h3 M2 hp2
  exact R_goto (off := 107) (tgt := 1308) hC (by decide +kernel) (by decide) (R_widen (by omega) (by omega) (kk M2 X' hR))
theorem bk_23 {G : Gl} {C : Cx} {Z : State → Prop} {k w L : Nat} {M : Mem} {xs : Nat → Int32} {i c : Int} (hC : CxOK G mL_law C) (hX : SCR G C xs L) (hrm : C.2.2.2.1 = room_1) (hNc : va_Nc eI eN C.2.2.2.2.1) (h0 : 0 ≤ i) (h1 : i + 6 ≤ L) (hkw : k + 1 ≤ 601024 ∧ w + 6 ≤ 7293034) (hs : StQ G C.2.1 M c mL_drawn hhL_drawn m12_drawn [vI (xv xs (i + 1)), vI (xv xs (i + 2)), vI (xv xs (i + 3))]) (kk : ∀ M2 X', REL M2 X' (c + 1) → RZ G LY C Z (k + 1) (w + 6) 82 1308 [some (vR 1030), some (vR 0), some (vR 57), some (vR 81), some (vI i), none, none] [] M2) : RZ G LY C Z k w 82 1204 [some (vR 1030), some (vR 0), some (vR 57), some (vR 81), some (vI i), none, none] [] M := by
  obtain ⟨d1, Q1, hd1, hc1, h2⟩ := hs
  refine R_aload_1 hC (by decide +kernel) ?_
  refine R_arg (q := 1) hC hX h0 (by decide) (by omega) (by decide +kernel) (by decide +kernel) (by decide +kernel) (by decide +kernel) (by decide +kernel) ?_
  refine R_arg (q := 2) hC hX h0 (by decide) (by omega) (by decide +kernel) (by decide +kernel) (by decide +kernel) (by decide +kernel) (by decide +kernel) ?_
  refine R_arg (q := 3) hC hX h0 (by decide) (by omega) (by decide +kernel) (by decide +kernel) (by decide +kernel) (by decide +kernel) (by decide +kernel) ?_
  refine R_aload_3 hC (by decide +kernel) ?_
  refine R_callSH hC hrm hNc hc1 (by decide +kernel) sh_Ldrawn ml_L144 rfl rfl hd1 (by decide) hkw (by decide) (fun o M1 hq => ?_)
  obtain ⟨kd, rfl, d2, P2, hd2, hc2, h3⟩ := h2 o M1 hq
  refine R_istore_5 hC (by decide +kernel) rfl ?_
  refine R_aload_2 hC (by decide +kernel) ?_
  refine R_arg (q := 1) hC hX h0 (by decide) (by omega) (by decide +kernel) (by decide +kernel) (by decide +kernel) (by decide +kernel) (by decide +kernel) ?_
  refine R_arg (q := 2) hC hX h0 (by decide) (by omega) (by decide +kernel) (by decide +kernel) (by decide +kernel) (by decide +kernel) (by decide +kernel) ?_
  refine R_arg (q := 3) hC hX h0 (by decide) (by omega) (by decide +kernel) (by decide +kernel) (by decide +kernel) (by decide +kernel) (by decide +kernel) ?_
  refine R_callL hC hrm hc2 (by decide +kernel) mo_12_drawn ml_L146 (by decide) rfl rfl rfl rfl hd2 (by decide) hkw (by decide) (fun v' M2 hp2 => ?_)
  obtain ⟨hk, hv, X', hR⟩ := h3 v' M2 hp2
  refine R_istore_6 hC (by decide +kernel) rfl ?_
  refine R_aload_2 hC (by decide +kernel) ?_
  refine R_thrown (idx := 0) hC hrm hR.1 (by decide +kernel) hkw (by decide) ?_
  refine R_iload_5 hC (by decide +kernel) ?_
  refine R_icmp_eq (off := 5) (tgt := 1264) hC (by decide +kernel) (by decide) (fun _ => ?_) (fun h => absurd hk h)
  refine R_iload_5 hC (by decide +kernel) ?_
  refine R_if_ne (off := 15) (tgt := 1281) hC (by decide +kernel) (by decide) (fun _ => R_goto (off := 27) (tgt := 1308) hC (by decide +kernel) (by decide) (R_weak (subL_c (subL_c (subL_c (subL_c (subL_c (subL_d (subL_d subL_n))))))) (kk M2 X' hR))) (fun hz => ?_)
  refine R_aload_3 hC (by decide +kernel) ?_
  refine R_iconst (c := 0) hC (by decide +kernel) (by decide) ?_
  refine R_laload hC (by decide +kernel) (by decide) rfl (by decide) (by decide) ?_
  refine R_iload_6 hC (by decide +kernel) ?_
  refine R_i2l hC (by decide +kernel) ?_
  refine R_lcmp hC (by decide +kernel) ?_
  exact R_if_eq (off := 5) (tgt := 1281) hC (by decide +kernel) (by decide) (fun _ => R_goto (off := 27) (tgt := 1308) hC (by decide +kernel) (by decide) (R_weak (subL_c (subL_c (subL_c (subL_c (subL_c (subL_d (subL_d subL_n))))))) (kk M2 X' hR))) (fun h => absurd (by rw [hv hz, if_neg (Int.lt_irrefl _), if_pos rfl]) h)
theorem bk_24 {G : Gl} {C : Cx} {Z : State → Prop} {k w L : Nat} {M : Mem} {xs : Nat → Int32} {i c : Int} (hC : CxOK G mL_law C) (hX : SCR G C xs L) (hrm : C.2.2.2.1 = room_1) (hNc : va_Nc eI eN C.2.2.2.2.1) (h0 : 0 ≤ i) (h1 : i + 6 ≤ L) (hkw : k + 1 ≤ 601024 ∧ w + 6 ≤ 7293034) (hs : StV G C.2.1 M c m11_image m12_image) (kk : ∀ M2 X', REL M2 X' (c + 1) → RZ G LY C Z (k + 1) (w + 6) 82 1308 [some (vR 1030), some (vR 0), some (vR 57), some (vR 81), some (vI i), none, none] [] M2) : RZ G LY C Z k w 82 1284 [some (vR 1030), some (vR 0), some (vR 57), some (vR 81), some (vI i), none, none] [] M := by
  obtain ⟨d1, P1, hd1, hc1, h2⟩ := hs
  refine R_aload_1 hC (by decide +kernel) ?_
  refine R_callLv (as := []) hC hrm hc1 (by decide +kernel) mo_11_image ml_L147 (by decide) rfl rfl rfl rfl hd1 (by decide) (by omega) (by decide) (fun M1 hp1 => ?_)
  obtain ⟨d2, P2, hd2, hc2, h3⟩ := h2 M1 hp1
  refine R_aload_2 hC (by decide +kernel) ?_
  refine R_callLv (as := []) hC hrm hc2 (by decide +kernel) mo_12_image ml_L150 (by decide) rfl rfl rfl rfl hd2 (by decide) (by omega) (by decide) (fun M2 hp2 => ?_)
  obtain ⟨X', hR⟩ := h3 M2 hp2
  exact R_goto (off := 16) (tgt := 1308) hC (by decide +kernel) (by decide) (R_widen (by omega) (by omega) (kk M2 X' hR))
theorem bk_25 {G : Gl} {C : Cx} {Z : State → Prop} {k w L : Nat} {M : Mem} {xs : Nat → Int32} {i c : Int} (hC : CxOK G mL_law C) (hX : SCR G C xs L) (hrm : C.2.2.2.1 = room_1) (hNc : va_Nc eI eN C.2.2.2.2.1) (h0 : 0 ≤ i) (h1 : i + 6 ≤ L) (hkw : k + 1 ≤ 601024 ∧ w + 6 ≤ 7293034) (hs : StA G C.2.1 M c m11_restore m12_restore []) (kk : ∀ M2 X', REL M2 X' (c + 1) → RZ G LY C Z (k + 1) (w + 6) 82 1308 [some (vR 1030), some (vR 0), some (vR 57), some (vR 81), some (vI i), none, none] [] M2) : RZ G LY C Z k w 82 1295 [some (vR 1030), some (vR 0), some (vR 57), some (vR 81), some (vI i), none, none] [] M := by
  obtain ⟨d1, P1, hd1, hc1, h2⟩ := hs
  refine R_aload_1 hC (by decide +kernel) ?_
  refine R_callL (as := []) hC hrm hc1 (by decide +kernel) mo_11_restore ml_L151 (by decide) rfl rfl rfl rfl hd1 (by decide) (by omega) (by decide) (fun v M1 hp1 => ?_)
  obtain ⟨d2, P2, hd2, hc2, h3⟩ := h2 v M1 hp1
  refine R_aload_2 hC (by decide +kernel) ?_
  refine R_callL (as := []) hC hrm hc2 (by decide +kernel) mo_12_restore ml_L155 (by decide) rfl rfl rfl rfl hd2 (by decide) (by omega) (Nat.le_of_ble_eq_true rfl) (fun v' M2 hp2 => ?_)
  obtain ⟨hv, X', hR⟩ := h3 v' M2 hp2
  exact R_icmp_eq (off := 5) (tgt := 1308) hC (by decide +kernel) (by decide) (fun _ => R_widen (by omega) (by omega) (kk M2 X' hR)) (fun h => absurd hv h)

