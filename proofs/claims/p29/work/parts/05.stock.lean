theorem dX8_libraries_0 : decode cX8_libraries 0 = .ok (.aload_n 0, 1) := by decide +kernel
theorem dX8_libraries_1 : decode cX8_libraries 1 = .ok (.getfield 9, 3) := by decide +kernel
theorem dX8_libraries_4 : decode cX8_libraries 4 = .ok (.bipush 121, 2) := by decide +kernel
theorem dX8_libraries_6 : decode cX8_libraries 6 = .ok (.iaload, 1) := by decide +kernel
theorem dX8_libraries_7 : decode cX8_libraries 7 = .ok (.ireturn, 1) := by decide +kernel
set_option maxHeartbeats 400000 in
theorem c8_libraries {G : Gl} {l : Launch}  {M : Mem} {h c : Nat} (hG : GR M) (hS : SH h c) : Ct G LY 57 l 0 m8_libraries [vR h] M (Ret (vI (M c 121)) M) := by
  refine R_start (by decide +kernel) (Nat.le_of_ble_eq_true rfl) (fun C hC hRm hlau => ?_)
  show RZ G LY C (Zn G LY 57 C (Ret (vI (M c 121)) M)) 0 0 57 0 [some (vR h)] [] M
  refine R_aload_0 hC dX8_libraries_0 ?_
  refine R_getR hC dX8_libraries_1 fl_8_9 hS.l hS.k (by decide) (by decide) (fi := 0) rfl (r := c) (hS.r hG) ?_
  refine R_bipush hC dX8_libraries_4 (by decide +kernel) ⟨by decide, by decide⟩ ?_
  refine R_iaload hC dX8_libraries_6 hS.m hS.a (by omega) (by omega) ?_
  exact R_ireturn hC dX8_libraries_7 rfl (ret_I (by first | rfl | omega))
theorem c8_libraries_d {G : Gl} {l : Launch} {M : Mem} {h c : Nat} {d : Int → Int} (hMd : M c = d) (hG : GR M) (hS : SH h c) : Ct G LY 57 l 0 m8_libraries [vR h] M (Ret (vI (d 121)) M) := by
  subst hMd
  exact c8_libraries hG hS
theorem dX8_works_0 : decode cX8_works 0 = .ok (.aload_n 0, 1) := by decide +kernel
theorem dX8_works_1 : decode cX8_works 1 = .ok (.getfield 9, 3) := by decide +kernel
theorem dX8_works_4 : decode cX8_works 4 = .ok (.bipush 122, 2) := by decide +kernel
theorem dX8_works_6 : decode cX8_works 6 = .ok (.iaload, 1) := by decide +kernel
theorem dX8_works_7 : decode cX8_works 7 = .ok (.ireturn, 1) := by decide +kernel
set_option maxHeartbeats 400000 in
theorem c8_works {G : Gl} {l : Launch}  {M : Mem} {h c : Nat} (hG : GR M) (hS : SH h c) : Ct G LY 57 l 0 m8_works [vR h] M (Ret (vI (M c 122)) M) := by
  refine R_start (by decide +kernel) (Nat.le_of_ble_eq_true rfl) (fun C hC hRm hlau => ?_)
  show RZ G LY C (Zn G LY 57 C (Ret (vI (M c 122)) M)) 0 0 57 0 [some (vR h)] [] M
  refine R_aload_0 hC dX8_works_0 ?_
  refine R_getR hC dX8_works_1 fl_8_9 hS.l hS.k (by decide) (by decide) (fi := 0) rfl (r := c) (hS.r hG) ?_
  refine R_bipush hC dX8_works_4 (by decide +kernel) ⟨by decide, by decide⟩ ?_
  refine R_iaload hC dX8_works_6 hS.m hS.a (by omega) (by omega) ?_
  exact R_ireturn hC dX8_works_7 rfl (ret_I (by first | rfl | omega))
theorem c8_works_d {G : Gl} {l : Launch} {M : Mem} {h c : Nat} {d : Int → Int} (hMd : M c = d) (hG : GR M) (hS : SH h c) : Ct G LY 57 l 0 m8_works [vR h] M (Ret (vI (d 122)) M) := by
  subst hMd
  exact c8_works hG hS
theorem dX8_isLibrary_0 : decode cX8_isLibrary 0 = .ok (.iload_n 1, 1) := by decide +kernel
theorem dX8_isLibrary_1 : decode cX8_isLibrary 1 = .ok (.ifCond .lt 18, 3) := by decide +kernel
theorem dX8_isLibrary_4 : decode cX8_isLibrary 4 = .ok (.iload_n 1, 1) := by decide +kernel
theorem dX8_isLibrary_5 : decode cX8_isLibrary 5 = .ok (.aload_n 0, 1) := by decide +kernel
theorem dX8_isLibrary_6 : decode cX8_isLibrary 6 = .ok (.getfield 9, 3) := by decide +kernel
theorem dX8_isLibrary_9 : decode cX8_isLibrary 9 = .ok (.bipush 121, 2) := by decide +kernel
theorem dX8_isLibrary_11 : decode cX8_isLibrary 11 = .ok (.iaload, 1) := by decide +kernel
theorem dX8_isLibrary_12 : decode cX8_isLibrary 12 = .ok (.if_icmp .ge 7, 3) := by decide +kernel
theorem dX8_isLibrary_15 : decode cX8_isLibrary 15 = .ok (.iconst 1, 1) := by decide +kernel
theorem dX8_isLibrary_16 : decode cX8_isLibrary 16 = .ok (.goto 4, 3) := by decide +kernel
theorem dX8_isLibrary_19 : decode cX8_isLibrary 19 = .ok (.iconst 0, 1) := by decide +kernel
theorem dX8_isLibrary_20 : decode cX8_isLibrary 20 = .ok (.ireturn, 1) := by decide +kernel
set_option maxHeartbeats 400000 in
theorem c8_isLibrary {G : Gl} {l : Launch}  {M : Mem} {h c : Nat} {x : Int} (hG : GR M) (hS : SH h c) : Ct G LY 57 l 0 m8_isLibrary [vR h, vI x] M (Ret (vI (bP (0 ≤ x ∧ x < M c 121))) M) := by
  refine R_start (by decide +kernel) (Nat.le_of_ble_eq_true rfl) (fun C hC hRm hlau => ?_)
  show RZ G LY C (Zn G LY 57 C (Ret (vI (bP (0 ≤ x ∧ x < M c 121))) M)) 0 0 57 0 [some (vR h), some (vI x)] [] M
  refine R_iload_1 hC dX8_isLibrary_0 ?_
  refine R_if_lt hC dX8_isLibrary_1 (tgt := 19) (by decide) (fun hb1 => ?_) (fun hb1 => ?_)
  · skip
    refine R_iconst hC dX8_isLibrary_19 ⟨by decide, by decide⟩ ?_
    exact R_zreturn hC dX8_isLibrary_20 rfl (.inl rfl) (ret_f (by omega))
  · skip
    refine R_iload_1 hC dX8_isLibrary_4 ?_
    refine R_aload_0 hC dX8_isLibrary_5 ?_
    refine R_getR hC dX8_isLibrary_6 fl_8_9 hS.l hS.k (by decide) (by decide) (fi := 0) rfl (r := c) (hS.r hG) ?_
    refine R_bipush hC dX8_isLibrary_9 (by decide +kernel) ⟨by decide, by decide⟩ ?_
    refine R_iaload hC dX8_isLibrary_11 hS.m hS.a (by omega) (by omega) ?_
    refine R_icmp_ge hC dX8_isLibrary_12 (tgt := 19) (by decide) (fun hb12 => ?_) (fun hb12 => ?_)
    · skip
      refine R_iconst hC dX8_isLibrary_19 ⟨by decide, by decide⟩ ?_
      exact R_zreturn hC dX8_isLibrary_20 rfl (.inl rfl) (ret_f (by omega))
    · skip
      refine R_iconst hC dX8_isLibrary_15 ⟨by decide, by decide⟩ ?_
      refine R_goto hC dX8_isLibrary_16 (tgt := 20) (by decide) ?_
      exact R_zreturn hC dX8_isLibrary_20 rfl (.inr rfl) (ret_t (by omega))
theorem c8_isLibrary_d {G : Gl} {l : Launch} {M : Mem} {h c : Nat} {x : Int} {d : Int → Int} (hMd : M c = d) (hG : GR M) (hS : SH h c) : Ct G LY 57 l 0 m8_isLibrary [vR h, vI x] M (Ret (vI (bP (0 ≤ x ∧ x < d 121))) M) := by
  subst hMd
  exact c8_isLibrary hG hS
theorem dX8_isWork_0 : decode cX8_isWork 0 = .ok (.iload_n 1, 1) := by decide +kernel
theorem dX8_isWork_1 : decode cX8_isWork 1 = .ok (.ifCond .lt 18, 3) := by decide +kernel
theorem dX8_isWork_4 : decode cX8_isWork 4 = .ok (.iload_n 1, 1) := by decide +kernel
theorem dX8_isWork_5 : decode cX8_isWork 5 = .ok (.aload_n 0, 1) := by decide +kernel
theorem dX8_isWork_6 : decode cX8_isWork 6 = .ok (.getfield 9, 3) := by decide +kernel
theorem dX8_isWork_9 : decode cX8_isWork 9 = .ok (.bipush 122, 2) := by decide +kernel
theorem dX8_isWork_11 : decode cX8_isWork 11 = .ok (.iaload, 1) := by decide +kernel
theorem dX8_isWork_12 : decode cX8_isWork 12 = .ok (.if_icmp .ge 7, 3) := by decide +kernel
theorem dX8_isWork_15 : decode cX8_isWork 15 = .ok (.iconst 1, 1) := by decide +kernel
theorem dX8_isWork_16 : decode cX8_isWork 16 = .ok (.goto 4, 3) := by decide +kernel
theorem dX8_isWork_19 : decode cX8_isWork 19 = .ok (.iconst 0, 1) := by decide +kernel
theorem dX8_isWork_20 : decode cX8_isWork 20 = .ok (.ireturn, 1) := by decide +kernel
set_option maxHeartbeats 400000 in
theorem c8_isWork {G : Gl} {l : Launch}  {M : Mem} {h c : Nat} {w : Int} (hG : GR M) (hS : SH h c) : Ct G LY 57 l 0 m8_isWork [vR h, vI w] M (Ret (vI (bP (0 ≤ w ∧ w < M c 122))) M) := by
  refine R_start (by decide +kernel) (Nat.le_of_ble_eq_true rfl) (fun C hC hRm hlau => ?_)
  show RZ G LY C (Zn G LY 57 C (Ret (vI (bP (0 ≤ w ∧ w < M c 122))) M)) 0 0 57 0 [some (vR h), some (vI w)] [] M
  refine R_iload_1 hC dX8_isWork_0 ?_
  refine R_if_lt hC dX8_isWork_1 (tgt := 19) (by decide) (fun hb1 => ?_) (fun hb1 => ?_)
  · skip
    refine R_iconst hC dX8_isWork_19 ⟨by decide, by decide⟩ ?_
    exact R_zreturn hC dX8_isWork_20 rfl (.inl rfl) (ret_f (by omega))
  · skip
    refine R_iload_1 hC dX8_isWork_4 ?_
    refine R_aload_0 hC dX8_isWork_5 ?_
    refine R_getR hC dX8_isWork_6 fl_8_9 hS.l hS.k (by decide) (by decide) (fi := 0) rfl (r := c) (hS.r hG) ?_
    refine R_bipush hC dX8_isWork_9 (by decide +kernel) ⟨by decide, by decide⟩ ?_
    refine R_iaload hC dX8_isWork_11 hS.m hS.a (by omega) (by omega) ?_
    refine R_icmp_ge hC dX8_isWork_12 (tgt := 19) (by decide) (fun hb12 => ?_) (fun hb12 => ?_)
    · skip
      refine R_iconst hC dX8_isWork_19 ⟨by decide, by decide⟩ ?_
      exact R_zreturn hC dX8_isWork_20 rfl (.inl rfl) (ret_f (by omega))
    · skip
      refine R_iconst hC dX8_isWork_15 ⟨by decide, by decide⟩ ?_
      refine R_goto hC dX8_isWork_16 (tgt := 20) (by decide) ?_
      exact R_zreturn hC dX8_isWork_20 rfl (.inr rfl) (ret_t (by omega))
theorem c8_isWork_d {G : Gl} {l : Launch} {M : Mem} {h c : Nat} {w : Int} {d : Int → Int} (hMd : M c = d) (hG : GR M) (hS : SH h c) : Ct G LY 57 l 0 m8_isWork [vR h, vI w] M (Ret (vI (bP (0 ≤ w ∧ w < d 122))) M) := by
  subst hMd
  exact c8_isWork hG hS
theorem dX8_isPair_0 : decode cX8_isPair 0 = .ok (.aload_n 0, 1) := by decide +kernel
theorem dX8_isPair_1 : decode cX8_isPair 1 = .ok (.iload_n 1, 1) := by decide +kernel
theorem dX8_isPair_2 : decode cX8_isPair 2 = .ok (.invokevirtual 21, 3) := by decide +kernel
theorem dX8_isPair_5 : decode cX8_isPair 5 = .ok (.ifCond .eq 15, 3) := by decide +kernel
theorem dX8_isPair_8 : decode cX8_isPair 8 = .ok (.aload_n 0, 1) := by decide +kernel
theorem dX8_isPair_9 : decode cX8_isPair 9 = .ok (.iload_n 2, 1) := by decide +kernel
theorem dX8_isPair_10 : decode cX8_isPair 10 = .ok (.invokevirtual 25, 3) := by decide +kernel
theorem dX8_isPair_13 : decode cX8_isPair 13 = .ok (.ifCond .eq 7, 3) := by decide +kernel
theorem dX8_isPair_16 : decode cX8_isPair 16 = .ok (.iconst 1, 1) := by decide +kernel
theorem dX8_isPair_17 : decode cX8_isPair 17 = .ok (.goto 4, 3) := by decide +kernel
theorem dX8_isPair_20 : decode cX8_isPair 20 = .ok (.iconst 0, 1) := by decide +kernel
theorem dX8_isPair_21 : decode cX8_isPair 21 = .ok (.ireturn, 1) := by decide +kernel
set_option maxHeartbeats 400000 in
theorem c8_isPair {G : Gl} {l : Launch}  {M : Mem} {h c : Nat} {x w : Int} (hG : GR M) (hS : SH h c) : Ct G LY 57 l 1 m8_isPair [vR h, vI x, vI w] M (Ret (vI (bP ((0 ≤ x ∧ x < M c 121) ∧ 0 ≤ w ∧ w < M c 122))) M) := by
  refine R_start (by decide +kernel) (Nat.le_of_ble_eq_true rfl) (fun C hC hRm hlau => ?_)
  show RZ G LY C (Zn G LY 57 C (Ret (vI (bP ((0 ≤ x ∧ x < M c 121) ∧ 0 ≤ w ∧ w < M c 122))) M)) 0 0 57 0 [some (vR h), some (vI x), some (vI w)] [] M
  refine R_aload_0 hC dX8_isPair_0 ?_
  refine R_iload_1 hC dX8_isPair_1 ?_
  refine R_callVq (as := [vI _]) hC dX8_isPair_2 mo_8_isLibrary ml_8_21 hS.l hS.k rfl (c8_isLibrary  hG hS) rfl rfl hRm (by decide) (by decide) (Nat.le_of_ble_eq_true rfl) ?_
  refine R_if_eq hC dX8_isPair_5 (tgt := 20) (by decide) (fun hb5 => ?_) (fun hb5 => ?_)
  · skip
    replace hb5 := bP_z hb5
    refine R_iconst hC dX8_isPair_20 ⟨by decide, by decide⟩ ?_
    exact R_zreturn hC dX8_isPair_21 rfl (.inl rfl) (ret_f (by omega))
  · skip
    replace hb5 := bP_nz hb5
    refine R_aload_0 hC dX8_isPair_8 ?_
    refine R_iload_2 hC dX8_isPair_9 ?_
    refine R_callVq (as := [vI _]) hC dX8_isPair_10 mo_8_isWork ml_8_25 hS.l hS.k rfl (c8_isWork  hG hS) rfl rfl hRm (by decide) (by decide) (Nat.le_of_ble_eq_true rfl) ?_
    refine R_if_eq hC dX8_isPair_13 (tgt := 20) (by decide) (fun hb13 => ?_) (fun hb13 => ?_)
    · skip
      replace hb13 := bP_z hb13
      refine R_iconst hC dX8_isPair_20 ⟨by decide, by decide⟩ ?_
      exact R_zreturn hC dX8_isPair_21 rfl (.inl rfl) (ret_f (by omega))
    · skip
      replace hb13 := bP_nz hb13
      refine R_iconst hC dX8_isPair_16 ⟨by decide, by decide⟩ ?_
      refine R_goto hC dX8_isPair_17 (tgt := 21) (by decide) ?_
      exact R_zreturn hC dX8_isPair_21 rfl (.inr rfl) (ret_t (by omega))
theorem c8_isPair_d {G : Gl} {l : Launch} {M : Mem} {h c : Nat} {x w : Int} {d : Int → Int} (hMd : M c = d) (hG : GR M) (hS : SH h c) : Ct G LY 57 l 1 m8_isPair [vR h, vI x, vI w] M (Ret (vI (bP ((0 ≤ x ∧ x < d 121) ∧ 0 ≤ w ∧ w < d 122))) M) := by
  subst hMd
  exact c8_isPair hG hS
theorem dX8_roomOf_0 : decode cX8_roomOf 0 = .ok (.aload_n 0, 1) := by decide +kernel
theorem dX8_roomOf_1 : decode cX8_roomOf 1 = .ok (.getfield 9, 3) := by decide +kernel
theorem dX8_roomOf_4 : decode cX8_roomOf 4 = .ok (.iconst 0, 1) := by decide +kernel
theorem dX8_roomOf_5 : decode cX8_roomOf 5 = .ok (.iload_n 1, 1) := by decide +kernel
theorem dX8_roomOf_6 : decode cX8_roomOf 6 = .ok (.iadd, 1) := by decide +kernel
theorem dX8_roomOf_7 : decode cX8_roomOf 7 = .ok (.iaload, 1) := by decide +kernel
theorem dX8_roomOf_8 : decode cX8_roomOf 8 = .ok (.ireturn, 1) := by decide +kernel
set_option maxHeartbeats 400000 in
theorem c8_roomOf {G : Gl} {l : Launch}  {M : Mem} {h c : Nat} {x : Int} (hG : GR M) (hS : SH h c) (hx0 : 0 ≤ x) (hx1 : x < 5) : Ct G LY 57 l 0 m8_roomOf [vR h, vI x] M (Ret (vI (M c x)) M) := by
  refine R_start (by decide +kernel) (Nat.le_of_ble_eq_true rfl) (fun C hC hRm hlau => ?_)
  show RZ G LY C (Zn G LY 57 C (Ret (vI (M c x)) M)) 0 0 57 0 [some (vR h), some (vI x)] [] M
  refine R_aload_0 hC dX8_roomOf_0 ?_
  refine R_getR hC dX8_roomOf_1 fl_8_9 hS.l hS.k (by decide) (by decide) (fi := 0) rfl (r := c) (hS.r hG) ?_
  refine R_iconst hC dX8_roomOf_4 ⟨by decide, by decide⟩ ?_
  refine R_iload_1 hC dX8_roomOf_5 ?_
  refine R_iadd hC dX8_roomOf_6 ⟨by omega, by omega⟩ ?_
  refine R_iaload hC dX8_roomOf_7 hS.m hS.a (by omega) (by omega) ?_
  exact R_ireturn hC dX8_roomOf_8 rfl (ret_I (by rw [Int.zero_add]))
theorem c8_roomOf_d {G : Gl} {l : Launch} {M : Mem} {h c : Nat} {x : Int} {d : Int → Int} (hMd : M c = d) (hG : GR M) (hS : SH h c) (hx0 : 0 ≤ x) (hx1 : x < 5) : Ct G LY 57 l 0 m8_roomOf [vR h, vI x] M (Ret (vI (d x)) M) := by
  subst hMd
  exact c8_roomOf hG hS hx0 hx1
theorem dX8_wishOf_0 : decode cX8_wishOf 0 = .ok (.aload_n 0, 1) := by decide +kernel
theorem dX8_wishOf_1 : decode cX8_wishOf 1 = .ok (.getfield 9, 3) := by decide +kernel
theorem dX8_wishOf_4 : decode cX8_wishOf 4 = .ok (.iconst 5, 1) := by decide +kernel
theorem dX8_wishOf_5 : decode cX8_wishOf 5 = .ok (.iload_n 1, 1) := by decide +kernel
theorem dX8_wishOf_6 : decode cX8_wishOf 6 = .ok (.iadd, 1) := by decide +kernel
theorem dX8_wishOf_7 : decode cX8_wishOf 7 = .ok (.iaload, 1) := by decide +kernel
theorem dX8_wishOf_8 : decode cX8_wishOf 8 = .ok (.ireturn, 1) := by decide +kernel
set_option maxHeartbeats 400000 in
theorem c8_wishOf {G : Gl} {l : Launch}  {M : Mem} {h c : Nat} {x : Int} (hG : GR M) (hS : SH h c) (hx0 : 0 ≤ x) (hx1 : x < 5) : Ct G LY 57 l 0 m8_wishOf [vR h, vI x] M (Ret (vI (M c (5 + x))) M) := by
  refine R_start (by decide +kernel) (Nat.le_of_ble_eq_true rfl) (fun C hC hRm hlau => ?_)
  show RZ G LY C (Zn G LY 57 C (Ret (vI (M c (5 + x))) M)) 0 0 57 0 [some (vR h), some (vI x)] [] M
  refine R_aload_0 hC dX8_wishOf_0 ?_
  refine R_getR hC dX8_wishOf_1 fl_8_9 hS.l hS.k (by decide) (by decide) (fi := 0) rfl (r := c) (hS.r hG) ?_
  refine R_iconst hC dX8_wishOf_4 ⟨by decide, by decide⟩ ?_
  refine R_iload_1 hC dX8_wishOf_5 ?_
  refine R_iadd hC dX8_wishOf_6 ⟨by omega, by omega⟩ ?_
  refine R_iaload hC dX8_wishOf_7 hS.m hS.a (by omega) (by omega) ?_
  exact R_ireturn hC dX8_wishOf_8 rfl (ret_I (by first | rfl | omega))
theorem c8_wishOf_d {G : Gl} {l : Launch} {M : Mem} {h c : Nat} {x : Int} {d : Int → Int} (hMd : M c = d) (hG : GR M) (hS : SH h c) (hx0 : 0 ≤ x) (hx1 : x < 5) : Ct G LY 57 l 0 m8_wishOf [vR h, vI x] M (Ret (vI (d (5 + x))) M) := by
  subst hMd
  exact c8_wishOf hG hS hx0 hx1
theorem dX8_sizeOf_0 : decode cX8_sizeOf 0 = .ok (.aload_n 0, 1) := by decide +kernel
theorem dX8_sizeOf_1 : decode cX8_sizeOf 1 = .ok (.getfield 9, 3) := by decide +kernel
theorem dX8_sizeOf_4 : decode cX8_sizeOf 4 = .ok (.bipush 10, 2) := by decide +kernel
theorem dX8_sizeOf_6 : decode cX8_sizeOf 6 = .ok (.iload_n 1, 1) := by decide +kernel
theorem dX8_sizeOf_7 : decode cX8_sizeOf 7 = .ok (.iadd, 1) := by decide +kernel
theorem dX8_sizeOf_8 : decode cX8_sizeOf 8 = .ok (.iaload, 1) := by decide +kernel
theorem dX8_sizeOf_9 : decode cX8_sizeOf 9 = .ok (.ireturn, 1) := by decide +kernel
set_option maxHeartbeats 400000 in
theorem c8_sizeOf {G : Gl} {l : Launch}  {M : Mem} {h c : Nat} {w : Int} (hG : GR M) (hS : SH h c) (hw0 : 0 ≤ w) (hw1 : w < 6) : Ct G LY 57 l 0 m8_sizeOf [vR h, vI w] M (Ret (vI (M c (10 + w))) M) := by
  refine R_start (by decide +kernel) (Nat.le_of_ble_eq_true rfl) (fun C hC hRm hlau => ?_)
  show RZ G LY C (Zn G LY 57 C (Ret (vI (M c (10 + w))) M)) 0 0 57 0 [some (vR h), some (vI w)] [] M
  refine R_aload_0 hC dX8_sizeOf_0 ?_
  refine R_getR hC dX8_sizeOf_1 fl_8_9 hS.l hS.k (by decide) (by decide) (fi := 0) rfl (r := c) (hS.r hG) ?_
  refine R_bipush hC dX8_sizeOf_4 (by decide +kernel) ⟨by decide, by decide⟩ ?_
  refine R_iload_1 hC dX8_sizeOf_6 ?_
  refine R_iadd hC dX8_sizeOf_7 ⟨by omega, by omega⟩ ?_
  refine R_iaload hC dX8_sizeOf_8 hS.m hS.a (by omega) (by omega) ?_
  exact R_ireturn hC dX8_sizeOf_9 rfl (ret_I (by first | rfl | omega))
theorem c8_sizeOf_d {G : Gl} {l : Launch} {M : Mem} {h c : Nat} {w : Int} {d : Int → Int} (hMd : M c = d) (hG : GR M) (hS : SH h c) (hw0 : 0 ≤ w) (hw1 : w < 6) : Ct G LY 57 l 0 m8_sizeOf [vR h, vI w] M (Ret (vI (d (10 + w))) M) := by
  subst hMd
  exact c8_sizeOf hG hS hw0 hw1
theorem dX8_keepOf_0 : decode cX8_keepOf 0 = .ok (.aload_n 0, 1) := by decide +kernel
theorem dX8_keepOf_1 : decode cX8_keepOf 1 = .ok (.getfield 9, 3) := by decide +kernel
theorem dX8_keepOf_4 : decode cX8_keepOf 4 = .ok (.bipush 16, 2) := by decide +kernel
theorem dX8_keepOf_6 : decode cX8_keepOf 6 = .ok (.iload_n 1, 1) := by decide +kernel
theorem dX8_keepOf_7 : decode cX8_keepOf 7 = .ok (.iadd, 1) := by decide +kernel
theorem dX8_keepOf_8 : decode cX8_keepOf 8 = .ok (.iaload, 1) := by decide +kernel
theorem dX8_keepOf_9 : decode cX8_keepOf 9 = .ok (.ireturn, 1) := by decide +kernel
set_option maxHeartbeats 400000 in
theorem c8_keepOf {G : Gl} {l : Launch}  {M : Mem} {h c : Nat} {w : Int} (hG : GR M) (hS : SH h c) (hw0 : 0 ≤ w) (hw1 : w < 6) : Ct G LY 57 l 0 m8_keepOf [vR h, vI w] M (Ret (vI (M c (16 + w))) M) := by
  refine R_start (by decide +kernel) (Nat.le_of_ble_eq_true rfl) (fun C hC hRm hlau => ?_)
  show RZ G LY C (Zn G LY 57 C (Ret (vI (M c (16 + w))) M)) 0 0 57 0 [some (vR h), some (vI w)] [] M
  refine R_aload_0 hC dX8_keepOf_0 ?_
  refine R_getR hC dX8_keepOf_1 fl_8_9 hS.l hS.k (by decide) (by decide) (fi := 0) rfl (r := c) (hS.r hG) ?_
  refine R_bipush hC dX8_keepOf_4 (by decide +kernel) ⟨by decide, by decide⟩ ?_
  refine R_iload_1 hC dX8_keepOf_6 ?_
  refine R_iadd hC dX8_keepOf_7 ⟨by omega, by omega⟩ ?_
  refine R_iaload hC dX8_keepOf_8 hS.m hS.a (by omega) (by omega) ?_
  exact R_ireturn hC dX8_keepOf_9 rfl (ret_I (by first | rfl | omega))
theorem c8_keepOf_d {G : Gl} {l : Launch} {M : Mem} {h c : Nat} {w : Int} {d : Int → Int} (hMd : M c = d) (hG : GR M) (hS : SH h c) (hw0 : 0 ≤ w) (hw1 : w < 6) : Ct G LY 57 l 0 m8_keepOf [vR h, vI w] M (Ret (vI (d (16 + w))) M) := by
  subst hMd
  exact c8_keepOf hG hS hw0 hw1
theorem dX8_storedOf_0 : decode cX8_storedOf 0 = .ok (.aload_n 0, 1) := by decide +kernel
theorem dX8_storedOf_1 : decode cX8_storedOf 1 = .ok (.getfield 9, 3) := by decide +kernel
theorem dX8_storedOf_4 : decode cX8_storedOf 4 = .ok (.bipush 22, 2) := by decide +kernel
theorem dX8_storedOf_6 : decode cX8_storedOf 6 = .ok (.iload_n 1, 1) := by decide +kernel
theorem dX8_storedOf_7 : decode cX8_storedOf 7 = .ok (.iadd, 1) := by decide +kernel
theorem dX8_storedOf_8 : decode cX8_storedOf 8 = .ok (.iaload, 1) := by decide +kernel
theorem dX8_storedOf_9 : decode cX8_storedOf 9 = .ok (.ireturn, 1) := by decide +kernel
set_option maxHeartbeats 400000 in
theorem c8_storedOf {G : Gl} {l : Launch}  {M : Mem} {h c : Nat} {w : Int} (hG : GR M) (hS : SH h c) (hw0 : 0 ≤ w) (hw1 : w < 6) : Ct G LY 57 l 0 m8_storedOf [vR h, vI w] M (Ret (vI (M c (22 + w))) M) := by
  refine R_start (by decide +kernel) (Nat.le_of_ble_eq_true rfl) (fun C hC hRm hlau => ?_)
  show RZ G LY C (Zn G LY 57 C (Ret (vI (M c (22 + w))) M)) 0 0 57 0 [some (vR h), some (vI w)] [] M
  refine R_aload_0 hC dX8_storedOf_0 ?_
  refine R_getR hC dX8_storedOf_1 fl_8_9 hS.l hS.k (by decide) (by decide) (fi := 0) rfl (r := c) (hS.r hG) ?_
  refine R_bipush hC dX8_storedOf_4 (by decide +kernel) ⟨by decide, by decide⟩ ?_
  refine R_iload_1 hC dX8_storedOf_6 ?_
  refine R_iadd hC dX8_storedOf_7 ⟨by omega, by omega⟩ ?_
  refine R_iaload hC dX8_storedOf_8 hS.m hS.a (by omega) (by omega) ?_
  exact R_ireturn hC dX8_storedOf_9 rfl (ret_I (by first | rfl | omega))
theorem c8_storedOf_d {G : Gl} {l : Launch} {M : Mem} {h c : Nat} {w : Int} {d : Int → Int} (hMd : M c = d) (hG : GR M) (hS : SH h c) (hw0 : 0 ≤ w) (hw1 : w < 6) : Ct G LY 57 l 0 m8_storedOf [vR h, vI w] M (Ret (vI (d (22 + w))) M) := by
  subst hMd
  exact c8_storedOf hG hS hw0 hw1
theorem dX8_heldIn_0 : decode cX8_heldIn 0 = .ok (.aload_n 0, 1) := by decide +kernel
theorem dX8_heldIn_1 : decode cX8_heldIn 1 = .ok (.getfield 9, 3) := by decide +kernel
theorem dX8_heldIn_4 : decode cX8_heldIn 4 = .ok (.bipush 28, 2) := by decide +kernel
theorem dX8_heldIn_6 : decode cX8_heldIn 6 = .ok (.iload_n 1, 1) := by decide +kernel
theorem dX8_heldIn_7 : decode cX8_heldIn 7 = .ok (.bipush 6, 2) := by decide +kernel
theorem dX8_heldIn_9 : decode cX8_heldIn 9 = .ok (.imul, 1) := by decide +kernel
theorem dX8_heldIn_10 : decode cX8_heldIn 10 = .ok (.iadd, 1) := by decide +kernel
theorem dX8_heldIn_11 : decode cX8_heldIn 11 = .ok (.iload_n 2, 1) := by decide +kernel
theorem dX8_heldIn_12 : decode cX8_heldIn 12 = .ok (.iadd, 1) := by decide +kernel
theorem dX8_heldIn_13 : decode cX8_heldIn 13 = .ok (.iaload, 1) := by decide +kernel
theorem dX8_heldIn_14 : decode cX8_heldIn 14 = .ok (.ireturn, 1) := by decide +kernel
set_option maxHeartbeats 400000 in
theorem c8_heldIn {G : Gl} {l : Launch}  {M : Mem} {h c : Nat} {x w : Int} (hG : GR M) (hS : SH h c) (hx0 : 0 ≤ x) (hx1 : x < 5) (hw0 : 0 ≤ w) (hw1 : w < 6) : Ct G LY 57 l 0 m8_heldIn [vR h, vI x, vI w] M (Ret (vI (M c (28 + x * 6 + w))) M) := by
  refine R_start (by decide +kernel) (Nat.le_of_ble_eq_true rfl) (fun C hC hRm hlau => ?_)
  show RZ G LY C (Zn G LY 57 C (Ret (vI (M c (28 + x * 6 + w))) M)) 0 0 57 0 [some (vR h), some (vI x), some (vI w)] [] M
  refine R_aload_0 hC dX8_heldIn_0 ?_
  refine R_getR hC dX8_heldIn_1 fl_8_9 hS.l hS.k (by decide) (by decide) (fi := 0) rfl (r := c) (hS.r hG) ?_
  refine R_bipush hC dX8_heldIn_4 (by decide +kernel) ⟨by decide, by decide⟩ ?_
  refine R_iload_1 hC dX8_heldIn_6 ?_
  refine R_bipush hC dX8_heldIn_7 (by decide +kernel) ⟨by decide, by decide⟩ ?_
  refine R_imul hC dX8_heldIn_9 ⟨by omega, by omega⟩ ?_
  refine R_iadd hC dX8_heldIn_10 ⟨by omega, by omega⟩ ?_
  refine R_iload_2 hC dX8_heldIn_11 ?_
  refine R_iadd hC dX8_heldIn_12 ⟨by omega, by omega⟩ ?_
  refine R_iaload hC dX8_heldIn_13 hS.m hS.a (by omega) (by omega) ?_
  exact R_ireturn hC dX8_heldIn_14 rfl (ret_I (by first | rfl | omega))
theorem c8_heldIn_d {G : Gl} {l : Launch} {M : Mem} {h c : Nat} {x w : Int} {d : Int → Int} (hMd : M c = d) (hG : GR M) (hS : SH h c) (hx0 : 0 ≤ x) (hx1 : x < 5) (hw0 : 0 ≤ w) (hw1 : w < 6) : Ct G LY 57 l 0 m8_heldIn [vR h, vI x, vI w] M (Ret (vI (d (28 + x * 6 + w))) M) := by
  subst hMd
  exact c8_heldIn hG hS hx0 hx1 hw0 hw1
theorem dX8_muchOf_0 : decode cX8_muchOf 0 = .ok (.aload_n 0, 1) := by decide +kernel
theorem dX8_muchOf_1 : decode cX8_muchOf 1 = .ok (.getfield 9, 3) := by decide +kernel
theorem dX8_muchOf_4 : decode cX8_muchOf 4 = .ok (.bipush 58, 2) := by decide +kernel
theorem dX8_muchOf_6 : decode cX8_muchOf 6 = .ok (.iload_n 1, 1) := by decide +kernel
theorem dX8_muchOf_7 : decode cX8_muchOf 7 = .ok (.bipush 6, 2) := by decide +kernel
theorem dX8_muchOf_9 : decode cX8_muchOf 9 = .ok (.imul, 1) := by decide +kernel
theorem dX8_muchOf_10 : decode cX8_muchOf 10 = .ok (.iadd, 1) := by decide +kernel
theorem dX8_muchOf_11 : decode cX8_muchOf 11 = .ok (.iload_n 2, 1) := by decide +kernel
theorem dX8_muchOf_12 : decode cX8_muchOf 12 = .ok (.iadd, 1) := by decide +kernel
theorem dX8_muchOf_13 : decode cX8_muchOf 13 = .ok (.iaload, 1) := by decide +kernel
theorem dX8_muchOf_14 : decode cX8_muchOf 14 = .ok (.ireturn, 1) := by decide +kernel
set_option maxHeartbeats 400000 in
theorem c8_muchOf {G : Gl} {l : Launch}  {M : Mem} {h c : Nat} {x w : Int} (hG : GR M) (hS : SH h c) (hx0 : 0 ≤ x) (hx1 : x < 5) (hw0 : 0 ≤ w) (hw1 : w < 6) : Ct G LY 57 l 0 m8_muchOf [vR h, vI x, vI w] M (Ret (vI (M c (58 + x * 6 + w))) M) := by
  refine R_start (by decide +kernel) (Nat.le_of_ble_eq_true rfl) (fun C hC hRm hlau => ?_)
  show RZ G LY C (Zn G LY 57 C (Ret (vI (M c (58 + x * 6 + w))) M)) 0 0 57 0 [some (vR h), some (vI x), some (vI w)] [] M
  refine R_aload_0 hC dX8_muchOf_0 ?_
  refine R_getR hC dX8_muchOf_1 fl_8_9 hS.l hS.k (by decide) (by decide) (fi := 0) rfl (r := c) (hS.r hG) ?_
  refine R_bipush hC dX8_muchOf_4 (by decide +kernel) ⟨by decide, by decide⟩ ?_
  refine R_iload_1 hC dX8_muchOf_6 ?_
  refine R_bipush hC dX8_muchOf_7 (by decide +kernel) ⟨by decide, by decide⟩ ?_
  refine R_imul hC dX8_muchOf_9 ⟨by omega, by omega⟩ ?_
  refine R_iadd hC dX8_muchOf_10 ⟨by omega, by omega⟩ ?_
  refine R_iload_2 hC dX8_muchOf_11 ?_
  refine R_iadd hC dX8_muchOf_12 ⟨by omega, by omega⟩ ?_
  refine R_iaload hC dX8_muchOf_13 hS.m hS.a (by omega) (by omega) ?_
  exact R_ireturn hC dX8_muchOf_14 rfl (ret_I (by first | rfl | omega))
theorem c8_muchOf_d {G : Gl} {l : Launch} {M : Mem} {h c : Nat} {x w : Int} {d : Int → Int} (hMd : M c = d) (hG : GR M) (hS : SH h c) (hx0 : 0 ≤ x) (hx1 : x < 5) (hw0 : 0 ≤ w) (hw1 : w < 6) : Ct G LY 57 l 0 m8_muchOf [vR h, vI x, vI w] M (Ret (vI (d (58 + x * 6 + w))) M) := by
  subst hMd
  exact c8_muchOf hG hS hx0 hx1 hw0 hw1
theorem dX8_untilOf_0 : decode cX8_untilOf 0 = .ok (.aload_n 0, 1) := by decide +kernel
theorem dX8_untilOf_1 : decode cX8_untilOf 1 = .ok (.getfield 9, 3) := by decide +kernel
theorem dX8_untilOf_4 : decode cX8_untilOf 4 = .ok (.bipush 88, 2) := by decide +kernel
theorem dX8_untilOf_6 : decode cX8_untilOf 6 = .ok (.iload_n 1, 1) := by decide +kernel
theorem dX8_untilOf_7 : decode cX8_untilOf 7 = .ok (.bipush 6, 2) := by decide +kernel
theorem dX8_untilOf_9 : decode cX8_untilOf 9 = .ok (.imul, 1) := by decide +kernel
theorem dX8_untilOf_10 : decode cX8_untilOf 10 = .ok (.iadd, 1) := by decide +kernel
theorem dX8_untilOf_11 : decode cX8_untilOf 11 = .ok (.iload_n 2, 1) := by decide +kernel
theorem dX8_untilOf_12 : decode cX8_untilOf 12 = .ok (.iadd, 1) := by decide +kernel
theorem dX8_untilOf_13 : decode cX8_untilOf 13 = .ok (.iaload, 1) := by decide +kernel
theorem dX8_untilOf_14 : decode cX8_untilOf 14 = .ok (.ireturn, 1) := by decide +kernel
set_option maxHeartbeats 400000 in
theorem c8_untilOf {G : Gl} {l : Launch}  {M : Mem} {h c : Nat} {x w : Int} (hG : GR M) (hS : SH h c) (hx0 : 0 ≤ x) (hx1 : x < 5) (hw0 : 0 ≤ w) (hw1 : w < 6) : Ct G LY 57 l 0 m8_untilOf [vR h, vI x, vI w] M (Ret (vI (M c (88 + x * 6 + w))) M) := by
  refine R_start (by decide +kernel) (Nat.le_of_ble_eq_true rfl) (fun C hC hRm hlau => ?_)
  show RZ G LY C (Zn G LY 57 C (Ret (vI (M c (88 + x * 6 + w))) M)) 0 0 57 0 [some (vR h), some (vI x), some (vI w)] [] M
  refine R_aload_0 hC dX8_untilOf_0 ?_
  refine R_getR hC dX8_untilOf_1 fl_8_9 hS.l hS.k (by decide) (by decide) (fi := 0) rfl (r := c) (hS.r hG) ?_
  refine R_bipush hC dX8_untilOf_4 (by decide +kernel) ⟨by decide, by decide⟩ ?_
  refine R_iload_1 hC dX8_untilOf_6 ?_
  refine R_bipush hC dX8_untilOf_7 (by decide +kernel) ⟨by decide, by decide⟩ ?_
  refine R_imul hC dX8_untilOf_9 ⟨by omega, by omega⟩ ?_
  refine R_iadd hC dX8_untilOf_10 ⟨by omega, by omega⟩ ?_
  refine R_iload_2 hC dX8_untilOf_11 ?_
  refine R_iadd hC dX8_untilOf_12 ⟨by omega, by omega⟩ ?_
  refine R_iaload hC dX8_untilOf_13 hS.m hS.a (by omega) (by omega) ?_
  exact R_ireturn hC dX8_untilOf_14 rfl (ret_I (by first | rfl | omega))
theorem c8_untilOf_d {G : Gl} {l : Launch} {M : Mem} {h c : Nat} {x w : Int} {d : Int → Int} (hMd : M c = d) (hG : GR M) (hS : SH h c) (hx0 : 0 ≤ x) (hx1 : x < 5) (hw0 : 0 ≤ w) (hw1 : w < 6) : Ct G LY 57 l 0 m8_untilOf [vR h, vI x, vI w] M (Ret (vI (d (88 + x * 6 + w))) M) := by
  subst hMd
  exact c8_untilOf hG hS hx0 hx1 hw0 hw1
theorem dX8_promiseCounts_0 : decode cX8_promiseCounts 0 = .ok (.iload_n 1, 1) := by decide +kernel
theorem dX8_promiseCounts_1 : decode cX8_promiseCounts 1 = .ok (.bipush 6, 2) := by decide +kernel
theorem dX8_promiseCounts_3 : decode cX8_promiseCounts 3 = .ok (.imul, 1) := by decide +kernel
theorem dX8_promiseCounts_4 : decode cX8_promiseCounts 4 = .ok (.iload_n 2, 1) := by decide +kernel
theorem dX8_promiseCounts_5 : decode cX8_promiseCounts 5 = .ok (.iadd, 1) := by decide +kernel
theorem dX8_promiseCounts_6 : decode cX8_promiseCounts 6 = .ok (.istore_n 3, 1) := by decide +kernel
theorem dX8_promiseCounts_7 : decode cX8_promiseCounts 7 = .ok (.aload_n 0, 1) := by decide +kernel
theorem dX8_promiseCounts_8 : decode cX8_promiseCounts 8 = .ok (.getfield 9, 3) := by decide +kernel
theorem dX8_promiseCounts_11 : decode cX8_promiseCounts 11 = .ok (.bipush 58, 2) := by decide +kernel
theorem dX8_promiseCounts_13 : decode cX8_promiseCounts 13 = .ok (.iload_n 3, 1) := by decide +kernel
theorem dX8_promiseCounts_14 : decode cX8_promiseCounts 14 = .ok (.iadd, 1) := by decide +kernel
theorem dX8_promiseCounts_15 : decode cX8_promiseCounts 15 = .ok (.iaload, 1) := by decide +kernel
theorem dX8_promiseCounts_16 : decode cX8_promiseCounts 16 = .ok (.ifCond .le 26, 3) := by decide +kernel
theorem dX8_promiseCounts_19 : decode cX8_promiseCounts 19 = .ok (.aload_n 0, 1) := by decide +kernel
theorem dX8_promiseCounts_20 : decode cX8_promiseCounts 20 = .ok (.getfield 9, 3) := by decide +kernel
theorem dX8_promiseCounts_23 : decode cX8_promiseCounts 23 = .ok (.bipush 118, 2) := by decide +kernel
theorem dX8_promiseCounts_25 : decode cX8_promiseCounts 25 = .ok (.iaload, 1) := by decide +kernel
theorem dX8_promiseCounts_26 : decode cX8_promiseCounts 26 = .ok (.aload_n 0, 1) := by decide +kernel
theorem dX8_promiseCounts_27 : decode cX8_promiseCounts 27 = .ok (.getfield 9, 3) := by decide +kernel
theorem dX8_promiseCounts_30 : decode cX8_promiseCounts 30 = .ok (.bipush 88, 2) := by decide +kernel
theorem dX8_promiseCounts_32 : decode cX8_promiseCounts 32 = .ok (.iload_n 3, 1) := by decide +kernel
theorem dX8_promiseCounts_33 : decode cX8_promiseCounts 33 = .ok (.iadd, 1) := by decide +kernel
theorem dX8_promiseCounts_34 : decode cX8_promiseCounts 34 = .ok (.iaload, 1) := by decide +kernel
theorem dX8_promiseCounts_35 : decode cX8_promiseCounts 35 = .ok (.if_icmp .gt 7, 3) := by decide +kernel
theorem dX8_promiseCounts_38 : decode cX8_promiseCounts 38 = .ok (.iconst 1, 1) := by decide +kernel
theorem dX8_promiseCounts_39 : decode cX8_promiseCounts 39 = .ok (.goto 4, 3) := by decide +kernel
theorem dX8_promiseCounts_42 : decode cX8_promiseCounts 42 = .ok (.iconst 0, 1) := by decide +kernel
theorem dX8_promiseCounts_43 : decode cX8_promiseCounts 43 = .ok (.ireturn, 1) := by decide +kernel
set_option maxHeartbeats 400000 in
theorem c8_promiseCounts {G : Gl} {l : Launch}  {M : Mem} {h c : Nat} {x w : Int} (hG : GR M) (hS : SH h c) (hx0 : 0 ≤ x) (hx1 : x < 5) (hw0 : 0 ≤ w) (hw1 : w < 6) : Ct G LY 57 l 0 m8_promiseCounts [vR h, vI x, vI w] M (Ret (vI (bP (0 < M c (58 + x * 6 + w) ∧ M c 118 ≤ M c (88 + x * 6 + w)))) M) := by
  refine R_start (by decide +kernel) (Nat.le_of_ble_eq_true rfl) (fun C hC hRm hlau => ?_)
  show RZ G LY C (Zn G LY 57 C (Ret (vI (bP (0 < M c (58 + x * 6 + w) ∧ M c 118 ≤ M c (88 + x * 6 + w)))) M)) 0 0 57 0 [some (vR h), some (vI x), some (vI w), none] [] M
  have q1 : M c (58 + (x * 6 + w)) = M c (58 + x * 6 + w) := congrArg _ (by omega)
  have q2 : M c (88 + (x * 6 + w)) = M c (88 + x * 6 + w) := congrArg _ (by omega)
  refine R_iload_1 hC dX8_promiseCounts_0 ?_
  refine R_bipush hC dX8_promiseCounts_1 (by decide +kernel) ⟨by decide, by decide⟩ ?_
  refine R_imul hC dX8_promiseCounts_3 ⟨by omega, by omega⟩ ?_
  refine R_iload_2 hC dX8_promiseCounts_4 ?_
  refine R_iadd hC dX8_promiseCounts_5 ⟨by omega, by omega⟩ ?_
  refine R_istore_3 hC dX8_promiseCounts_6 rfl ?_
  refine R_aload_0 hC dX8_promiseCounts_7 ?_
  refine R_getR hC dX8_promiseCounts_8 fl_8_9 hS.l hS.k (by decide) (by decide) (fi := 0) rfl (r := c) (hS.r hG) ?_
  refine R_bipush hC dX8_promiseCounts_11 (by decide +kernel) ⟨by decide, by decide⟩ ?_
  refine R_iload_3 hC dX8_promiseCounts_13 ?_
  refine R_iadd hC dX8_promiseCounts_14 ⟨by omega, by omega⟩ ?_
  refine R_iaload hC dX8_promiseCounts_15 hS.m hS.a (by omega) (by omega) ?_
  refine R_if_le hC dX8_promiseCounts_16 (tgt := 42) (by decide) (fun hb16 => ?_) (fun hb16 => ?_)
  · skip
    refine R_iconst hC dX8_promiseCounts_42 ⟨by decide, by decide⟩ ?_
    exact R_zreturn hC dX8_promiseCounts_43 rfl (.inl rfl) (ret_f (by omega))
  · skip
    refine R_aload_0 hC dX8_promiseCounts_19 ?_
    refine R_getR hC dX8_promiseCounts_20 fl_8_9 hS.l hS.k (by decide) (by decide) (fi := 0) rfl (r := c) (hS.r hG) ?_
    refine R_bipush hC dX8_promiseCounts_23 (by decide +kernel) ⟨by decide, by decide⟩ ?_
    refine R_iaload hC dX8_promiseCounts_25 hS.m hS.a (by omega) (by omega) ?_
    refine R_aload_0 hC dX8_promiseCounts_26 ?_
    refine R_getR hC dX8_promiseCounts_27 fl_8_9 hS.l hS.k (by decide) (by decide) (fi := 0) rfl (r := c) (hS.r hG) ?_
    refine R_bipush hC dX8_promiseCounts_30 (by decide +kernel) ⟨by decide, by decide⟩ ?_
    refine R_iload_3 hC dX8_promiseCounts_32 ?_
    refine R_iadd hC dX8_promiseCounts_33 ⟨by omega, by omega⟩ ?_
    refine R_iaload hC dX8_promiseCounts_34 hS.m hS.a (by omega) (by omega) ?_
    refine R_icmp_gt hC dX8_promiseCounts_35 (tgt := 42) (by decide) (fun hb35 => ?_) (fun hb35 => ?_)
    · skip
      refine R_iconst hC dX8_promiseCounts_42 ⟨by decide, by decide⟩ ?_
      exact R_zreturn hC dX8_promiseCounts_43 rfl (.inl rfl) (ret_f (by omega))
    · skip
      refine R_iconst hC dX8_promiseCounts_38 ⟨by decide, by decide⟩ ?_
      refine R_goto hC dX8_promiseCounts_39 (tgt := 43) (by decide) ?_
      exact R_zreturn hC dX8_promiseCounts_43 rfl (.inr rfl) (ret_t (by omega))
theorem c8_promiseCounts_d {G : Gl} {l : Launch} {M : Mem} {h c : Nat} {x w : Int} {d : Int → Int} (hMd : M c = d) (hG : GR M) (hS : SH h c) (hx0 : 0 ≤ x) (hx1 : x < 5) (hw0 : 0 ≤ w) (hw1 : w < 6) : Ct G LY 57 l 0 m8_promiseCounts [vR h, vI x, vI w] M (Ret (vI (bP (0 < d (58 + x * 6 + w) ∧ d 118 ≤ d (88 + x * 6 + w)))) M) := by
  subst hMd
  exact c8_promiseCounts hG hS hx0 hx1 hw0 hw1
theorem dX8_offerOf_0 : decode cX8_offerOf 0 = .ok (.aload_n 0, 1) := by decide +kernel
theorem dX8_offerOf_1 : decode cX8_offerOf 1 = .ok (.iload_n 1, 1) := by decide +kernel
theorem dX8_offerOf_2 : decode cX8_offerOf 2 = .ok (.iload_n 2, 1) := by decide +kernel
theorem dX8_offerOf_3 : decode cX8_offerOf 3 = .ok (.invokevirtual 28, 3) := by decide +kernel
theorem dX8_offerOf_6 : decode cX8_offerOf 6 = .ok (.istore_n 3, 1) := by decide +kernel
theorem dX8_offerOf_7 : decode cX8_offerOf 7 = .ok (.aload_n 0, 1) := by decide +kernel
theorem dX8_offerOf_8 : decode cX8_offerOf 8 = .ok (.iload_n 1, 1) := by decide +kernel
theorem dX8_offerOf_9 : decode cX8_offerOf 9 = .ok (.iload_n 2, 1) := by decide +kernel
theorem dX8_offerOf_10 : decode cX8_offerOf 10 = .ok (.invokevirtual 32, 3) := by decide +kernel
theorem dX8_offerOf_13 : decode cX8_offerOf 13 = .ok (.ifCond .eq 12, 3) := by decide +kernel
theorem dX8_offerOf_16 : decode cX8_offerOf 16 = .ok (.iload_n 3, 1) := by decide +kernel
theorem dX8_offerOf_17 : decode cX8_offerOf 17 = .ok (.aload_n 0, 1) := by decide +kernel
theorem dX8_offerOf_18 : decode cX8_offerOf 18 = .ok (.iload_n 1, 1) := by decide +kernel
theorem dX8_offerOf_19 : decode cX8_offerOf 19 = .ok (.iload_n 2, 1) := by decide +kernel
theorem dX8_offerOf_20 : decode cX8_offerOf 20 = .ok (.invokevirtual 36, 3) := by decide +kernel
theorem dX8_offerOf_23 : decode cX8_offerOf 23 = .ok (.isub, 1) := by decide +kernel
theorem dX8_offerOf_24 : decode cX8_offerOf 24 = .ok (.istore_n 3, 1) := by decide +kernel
theorem dX8_offerOf_25 : decode cX8_offerOf 25 = .ok (.iload_n 3, 1) := by decide +kernel
theorem dX8_offerOf_26 : decode cX8_offerOf 26 = .ok (.ifCond .le 7, 3) := by decide +kernel
theorem dX8_offerOf_29 : decode cX8_offerOf 29 = .ok (.iload_n 3, 1) := by decide +kernel
theorem dX8_offerOf_30 : decode cX8_offerOf 30 = .ok (.goto 4, 3) := by decide +kernel
theorem dX8_offerOf_33 : decode cX8_offerOf 33 = .ok (.iconst 0, 1) := by decide +kernel
theorem dX8_offerOf_34 : decode cX8_offerOf 34 = .ok (.ireturn, 1) := by decide +kernel
set_option maxHeartbeats 400000 in
theorem c8_offerOf {G : Gl} {l : Launch}  {M : Mem} {h c : Nat} {x w : Int} (hG : GR M) (hS : SH h c) (hB : SB (M c)) (hx0 : 0 ≤ x) (hx1 : x < 5) (hw0 : 0 ≤ w) (hw1 : w < 6) : Ct G LY 57 l 1 m8_offerOf [vR h, vI x, vI w] M (Ret (vI (offr (M c) x w)) M) := by
  refine R_start (by decide +kernel) (Nat.le_of_ble_eq_true rfl) (fun C hC hRm hlau => ?_)
  show RZ G LY C (Zn G LY 57 C (Ret (vI (offr (M c) x w)) M)) 0 0 57 0 [some (vR h), some (vI x), some (vI w), none] [] M
  have b1 := hB.1 (28 + x * 6 + w) (by omega) (by omega)
  have b2 := hB.1 (58 + x * 6 + w) (by omega) (by omega)
  refine R_aload_0 hC dX8_offerOf_0 ?_
  refine R_iload_1 hC dX8_offerOf_1 ?_
  refine R_iload_2 hC dX8_offerOf_2 ?_
  refine R_callVq (as := [vI _, vI _]) hC dX8_offerOf_3 mo_8_heldIn ml_8_28 hS.l hS.k rfl (c8_heldIn  hG hS (by omega) (by omega) (by omega) (by omega)) rfl rfl hRm (by decide) (by decide) (Nat.le_of_ble_eq_true rfl) ?_
  refine R_istore_3 hC dX8_offerOf_6 rfl ?_
  refine R_aload_0 hC dX8_offerOf_7 ?_
  refine R_iload_1 hC dX8_offerOf_8 ?_
  refine R_iload_2 hC dX8_offerOf_9 ?_
  refine R_callVq (as := [vI _, vI _]) hC dX8_offerOf_10 mo_8_promiseCounts ml_8_32 hS.l hS.k rfl (c8_promiseCounts  hG hS (by omega) (by omega) (by omega) (by omega)) rfl rfl hRm (by decide) (by decide) (Nat.le_of_ble_eq_true rfl) ?_
  refine R_if_eq hC dX8_offerOf_13 (tgt := 25) (by decide) (fun hb13 => ?_) (fun hb13 => ?_)
  · skip
    replace hb13 := bP_z hb13
    refine R_iload_3 hC dX8_offerOf_25 ?_
    refine R_if_le hC dX8_offerOf_26 (tgt := 33) (by decide) (fun hb26 => ?_) (fun hb26 => ?_)
    · skip
      refine R_iconst hC dX8_offerOf_33 ⟨by decide, by decide⟩ ?_
      exact R_ireturn hC dX8_offerOf_34 rfl (ret_I (by unfold offr; first | (rw [if_pos (by omega)]; omega) | (rw [if_neg (by omega)]; omega)))
    · skip
      refine R_iload_3 hC dX8_offerOf_29 ?_
      refine R_goto hC dX8_offerOf_30 (tgt := 34) (by decide) ?_
      exact R_ireturn hC dX8_offerOf_34 rfl (ret_I (by unfold offr; first | (rw [if_pos (by omega)]; omega) | (rw [if_neg (by omega)]; omega)))
  · skip
    replace hb13 := bP_nz hb13
    refine R_iload_3 hC dX8_offerOf_16 ?_
    refine R_aload_0 hC dX8_offerOf_17 ?_
    refine R_iload_1 hC dX8_offerOf_18 ?_
    refine R_iload_2 hC dX8_offerOf_19 ?_
    refine R_callVq (as := [vI _, vI _]) hC dX8_offerOf_20 mo_8_muchOf ml_8_36 hS.l hS.k rfl (c8_muchOf  hG hS (by omega) (by omega) (by omega) (by omega)) rfl rfl hRm (by decide) (by decide) (Nat.le_of_ble_eq_true rfl) ?_
    refine R_isub hC dX8_offerOf_23 ⟨by omega, by omega⟩ ?_
    refine R_istore_3 hC dX8_offerOf_24 rfl ?_
    refine R_iload_3 hC dX8_offerOf_25 ?_
    refine R_if_le hC dX8_offerOf_26 (tgt := 33) (by decide) (fun hb26 => ?_) (fun hb26 => ?_)
    · skip
      refine R_iconst hC dX8_offerOf_33 ⟨by decide, by decide⟩ ?_
      exact R_ireturn hC dX8_offerOf_34 rfl (ret_I (by unfold offr; first | (rw [if_pos (by omega)]; omega) | (rw [if_neg (by omega)]; omega)))
    · skip
      refine R_iload_3 hC dX8_offerOf_29 ?_
      refine R_goto hC dX8_offerOf_30 (tgt := 34) (by decide) ?_
      exact R_ireturn hC dX8_offerOf_34 rfl (ret_I (by unfold offr; first | (rw [if_pos (by omega)]; omega) | (rw [if_neg (by omega)]; omega)))
theorem c8_offerOf_d {G : Gl} {l : Launch} {M : Mem} {h c : Nat} {x w : Int} {d : Int → Int} (hMd : M c = d) (hG : GR M) (hS : SH h c) (hB : SB (d)) (hx0 : 0 ≤ x) (hx1 : x < 5) (hw0 : 0 ≤ w) (hw1 : w < 6) : Ct G LY 57 l 1 m8_offerOf [vR h, vI x, vI w] M (Ret (vI (offr (d) x w)) M) := by
  subst hMd
  exact c8_offerOf hG hS hB hx0 hx1 hw0 hw1
theorem dX8_copiesIn_0 : decode cX8_copiesIn 0 = .ok (.iconst 0, 1) := by decide +kernel
theorem dX8_copiesIn_1 : decode cX8_copiesIn 1 = .ok (.istore_n 2, 1) := by decide +kernel
theorem dX8_copiesIn_2 : decode cX8_copiesIn 2 = .ok (.iconst 0, 1) := by decide +kernel
theorem dX8_copiesIn_3 : decode cX8_copiesIn 3 = .ok (.istore_n 3, 1) := by decide +kernel
theorem dX8_copiesIn_4 : decode cX8_copiesIn 4 = .ok (.iload_n 3, 1) := by decide +kernel
theorem dX8_copiesIn_5 : decode cX8_copiesIn 5 = .ok (.aload_n 0, 1) := by decide +kernel
theorem dX8_copiesIn_6 : decode cX8_copiesIn 6 = .ok (.getfield 9, 3) := by decide +kernel
theorem dX8_copiesIn_9 : decode cX8_copiesIn 9 = .ok (.bipush 122, 2) := by decide +kernel
theorem dX8_copiesIn_11 : decode cX8_copiesIn 11 = .ok (.iaload, 1) := by decide +kernel
theorem dX8_copiesIn_12 : decode cX8_copiesIn 12 = .ok (.if_icmp .ge 26, 3) := by decide +kernel
theorem dX8_copiesIn_15 : decode cX8_copiesIn 15 = .ok (.iload_n 2, 1) := by decide +kernel
theorem dX8_copiesIn_16 : decode cX8_copiesIn 16 = .ok (.aload_n 0, 1) := by decide +kernel
theorem dX8_copiesIn_17 : decode cX8_copiesIn 17 = .ok (.getfield 9, 3) := by decide +kernel
theorem dX8_copiesIn_20 : decode cX8_copiesIn 20 = .ok (.bipush 28, 2) := by decide +kernel
theorem dX8_copiesIn_22 : decode cX8_copiesIn 22 = .ok (.iload_n 1, 1) := by decide +kernel
theorem dX8_copiesIn_23 : decode cX8_copiesIn 23 = .ok (.bipush 6, 2) := by decide +kernel
theorem dX8_copiesIn_25 : decode cX8_copiesIn 25 = .ok (.imul, 1) := by decide +kernel
theorem dX8_copiesIn_26 : decode cX8_copiesIn 26 = .ok (.iadd, 1) := by decide +kernel
theorem dX8_copiesIn_27 : decode cX8_copiesIn 27 = .ok (.iload_n 3, 1) := by decide +kernel
theorem dX8_copiesIn_28 : decode cX8_copiesIn 28 = .ok (.iadd, 1) := by decide +kernel
theorem dX8_copiesIn_29 : decode cX8_copiesIn 29 = .ok (.iaload, 1) := by decide +kernel
theorem dX8_copiesIn_30 : decode cX8_copiesIn 30 = .ok (.iadd, 1) := by decide +kernel
theorem dX8_copiesIn_31 : decode cX8_copiesIn 31 = .ok (.istore_n 2, 1) := by decide +kernel
theorem dX8_copiesIn_32 : decode cX8_copiesIn 32 = .ok (.iinc 3 1, 3) := by decide +kernel
theorem dX8_copiesIn_35 : decode cX8_copiesIn 35 = .ok (.goto (-31), 3) := by decide +kernel
theorem dX8_copiesIn_38 : decode cX8_copiesIn 38 = .ok (.iload_n 2, 1) := by decide +kernel
theorem dX8_copiesIn_39 : decode cX8_copiesIn 39 = .ok (.ireturn, 1) := by decide +kernel
set_option maxHeartbeats 400000 in
theorem c8_copiesIn {G : Gl} {l : Launch}  {M : Mem} {h c : Nat} {x : Int} (hG : GR M) (hS : SH h c) (hB : SB (M c)) (hx0 : 0 ≤ x) (hx1 : x < 5) : Ct G LY 57 l 0 m8_copiesIn [vR h, vI x] M (Ret (vI (inAll (M c) x)) M) := by
  refine R_start (by decide +kernel) (Nat.le_of_ble_eq_true rfl) (fun C hC hRm hlau => ?_)
  show RZ G LY C (Zn G LY 57 C (Ret (vI (inAll (M c) x)) M)) 0 0 57 0 [some (vR h), some (vI x), none, none] [] M
  have hW := hB.W
  refine R_iconst hC dX8_copiesIn_0 ⟨by decide, by decide⟩ ?_
  refine R_istore_2 hC dX8_copiesIn_1 rfl ?_
  refine R_iconst hC dX8_copiesIn_2 ⟨by decide, by decide⟩ ?_
  refine R_istore_3 hC dX8_copiesIn_3 rfl ?_
  have L4 : ∀ (mq : Nat) (acc : Int) (i : Int), (0 ≤ i) → (i ≤ M c 122) → (acc = sm i.toNat (fun w => M c (28 + x * 6 + w))) → (M c 122 - i).toNat < mq → RZ G LY C (Zn G LY 57 C (Ret (vI (inAll (M c) x)) M)) 0 0 57 4 [some (vR h), some (vI x), some (vI acc), some (vI i)] [] M := by
    intro mq
    induction mq with
    | zero =>
      intro acc i hi0 hi1 ha hm
      exact absurd hm (Nat.not_lt_zero _)
    | succ mq ih4 =>
      intro acc i hi0 hi1 ha hm4
      have hs := sm_bd2 (f := fun w => M c (28 + x * 6 + w)) (q := 6) 100000 hi0 (fun k a b => hB.1 _ (by omega) (by omega)) (by decide) (by omega)
      refine R_iload_3 hC dX8_copiesIn_4 ?_
      refine R_aload_0 hC dX8_copiesIn_5 ?_
      refine R_getR hC dX8_copiesIn_6 fl_8_9 hS.l hS.k (by decide) (by decide) (fi := 0) rfl (r := c) (hS.r hG) ?_
      refine R_bipush hC dX8_copiesIn_9 (by decide +kernel) ⟨by decide, by decide⟩ ?_
      refine R_iaload hC dX8_copiesIn_11 hS.m hS.a (by omega) (by omega) ?_
      have b11 := hB.1 122 (by omega) (by omega)
      refine R_icmp_ge hC dX8_copiesIn_12 (tgt := 38) (by decide) (fun hb12 => ?_) (fun hb12 => ?_)
      · skip
        refine R_iload_2 hC dX8_copiesIn_38 ?_
        exact R_ireturn hC dX8_copiesIn_39 rfl (ret_I (by rw [ha, show i = M c 122 by omega]; rfl))
      · skip
        refine R_iload_2 hC dX8_copiesIn_15 ?_
        refine R_aload_0 hC dX8_copiesIn_16 ?_
        refine R_getR hC dX8_copiesIn_17 fl_8_9 hS.l hS.k (by decide) (by decide) (fi := 0) rfl (r := c) (hS.r hG) ?_
        refine R_bipush hC dX8_copiesIn_20 (by decide +kernel) ⟨by decide, by decide⟩ ?_
        refine R_iload_1 hC dX8_copiesIn_22 ?_
        refine R_bipush hC dX8_copiesIn_23 (by decide +kernel) ⟨by decide, by decide⟩ ?_
        refine R_imul hC dX8_copiesIn_25 ⟨by omega, by omega⟩ ?_
        refine R_iadd hC dX8_copiesIn_26 ⟨by omega, by omega⟩ ?_
        refine R_iload_3 hC dX8_copiesIn_27 ?_
        refine R_iadd hC dX8_copiesIn_28 ⟨by omega, by omega⟩ ?_
        refine R_iaload hC dX8_copiesIn_29 hS.m hS.a (by omega) (by omega) ?_
        have b29 := hB.1 ((28 + (x * 6)) + i) (by omega) (by omega)
        refine R_iadd hC dX8_copiesIn_30 ⟨by omega, by omega⟩ ?_
        refine R_istore_2 hC dX8_copiesIn_31 rfl ?_
        refine R_iinc_3 hC dX8_copiesIn_32 rfl ⟨by omega, by omega⟩ ?_
        refine R_goto hC dX8_copiesIn_35 (tgt := 4) (by decide) ?_
        exact ih4 _ _ (by omega) (by omega) (by rw [sm_to hi0 rfl, ← ha]) (by omega)
  exact L4 _ _ _ (by omega) (by omega) rfl (Nat.lt_succ_self _)
theorem c8_copiesIn_d {G : Gl} {l : Launch} {M : Mem} {h c : Nat} {x : Int} {d : Int → Int} (hMd : M c = d) (hG : GR M) (hS : SH h c) (hB : SB (d)) (hx0 : 0 ≤ x) (hx1 : x < 5) : Ct G LY 57 l 0 m8_copiesIn [vR h, vI x] M (Ret (vI (inAll (d) x)) M) := by
  subst hMd
  exact c8_copiesIn hG hS hB hx0 hx1
theorem dX8_copiesHeld_0 : decode cX8_copiesHeld 0 = .ok (.iconst 0, 1) := by decide +kernel
theorem dX8_copiesHeld_1 : decode cX8_copiesHeld 1 = .ok (.istore_n 1, 1) := by decide +kernel
theorem dX8_copiesHeld_2 : decode cX8_copiesHeld 2 = .ok (.iconst 0, 1) := by decide +kernel
theorem dX8_copiesHeld_3 : decode cX8_copiesHeld 3 = .ok (.istore_n 2, 1) := by decide +kernel
theorem dX8_copiesHeld_4 : decode cX8_copiesHeld 4 = .ok (.iload_n 2, 1) := by decide +kernel
theorem dX8_copiesHeld_5 : decode cX8_copiesHeld 5 = .ok (.aload_n 0, 1) := by decide +kernel
theorem dX8_copiesHeld_6 : decode cX8_copiesHeld 6 = .ok (.getfield 9, 3) := by decide +kernel
theorem dX8_copiesHeld_9 : decode cX8_copiesHeld 9 = .ok (.bipush 121, 2) := by decide +kernel
theorem dX8_copiesHeld_11 : decode cX8_copiesHeld 11 = .ok (.iaload, 1) := by decide +kernel
theorem dX8_copiesHeld_12 : decode cX8_copiesHeld 12 = .ok (.if_icmp .ge 17, 3) := by decide +kernel
theorem dX8_copiesHeld_15 : decode cX8_copiesHeld 15 = .ok (.iload_n 1, 1) := by decide +kernel
theorem dX8_copiesHeld_16 : decode cX8_copiesHeld 16 = .ok (.aload_n 0, 1) := by decide +kernel
theorem dX8_copiesHeld_17 : decode cX8_copiesHeld 17 = .ok (.iload_n 2, 1) := by decide +kernel
theorem dX8_copiesHeld_18 : decode cX8_copiesHeld 18 = .ok (.invokevirtual 39, 3) := by decide +kernel
theorem dX8_copiesHeld_21 : decode cX8_copiesHeld 21 = .ok (.iadd, 1) := by decide +kernel
theorem dX8_copiesHeld_22 : decode cX8_copiesHeld 22 = .ok (.istore_n 1, 1) := by decide +kernel
theorem dX8_copiesHeld_23 : decode cX8_copiesHeld 23 = .ok (.iinc 2 1, 3) := by decide +kernel
theorem dX8_copiesHeld_26 : decode cX8_copiesHeld 26 = .ok (.goto (-22), 3) := by decide +kernel
theorem dX8_copiesHeld_29 : decode cX8_copiesHeld 29 = .ok (.iload_n 1, 1) := by decide +kernel
theorem dX8_copiesHeld_30 : decode cX8_copiesHeld 30 = .ok (.ireturn, 1) := by decide +kernel
set_option maxHeartbeats 400000 in
theorem c8_copiesHeld {G : Gl} {l : Launch}  {M : Mem} {h c : Nat} (hG : GR M) (hS : SH h c) (hB : SB (M c)) : Ct G LY 57 l 1 m8_copiesHeld [vR h] M (Ret (vI (heldAll (M c))) M) := by
  refine R_start (by decide +kernel) (Nat.le_of_ble_eq_true rfl) (fun C hC hRm hlau => ?_)
  show RZ G LY C (Zn G LY 57 C (Ret (vI (heldAll (M c))) M)) 0 0 57 0 [some (vR h), none, none] [] M
  have hL := hB.L
  refine R_iconst hC dX8_copiesHeld_0 ⟨by decide, by decide⟩ ?_
  refine R_istore_1 hC dX8_copiesHeld_1 rfl ?_
  refine R_iconst hC dX8_copiesHeld_2 ⟨by decide, by decide⟩ ?_
  refine R_istore_2 hC dX8_copiesHeld_3 rfl ?_
  have L4 : ∀ (mq : Nat) (acc : Int) (i : Int), (0 ≤ i) → (i ≤ M c 121) → (acc = sm i.toNat (fun x => inAll (M c) x)) → (M c 121 - i).toNat < mq → RZ G LY C (Zn G LY 57 C (Ret (vI (heldAll (M c))) M)) 0 0 57 4 [some (vR h), some (vI acc), some (vI i)] [] M := by
    intro mq
    induction mq with
    | zero =>
      intro acc i hi0 hi1 ha hm
      exact absurd hm (Nat.not_lt_zero _)
    | succ mq ih4 =>
      intro acc i hi0 hi1 ha hm4
      have hs := sm_bd2 (f := fun x => inAll (M c) x) (q := 5) 600000 hi0 (fun k a b => inAll_bd hB a (by omega)) (by decide) (by omega)
      refine R_iload_2 hC dX8_copiesHeld_4 ?_
      refine R_aload_0 hC dX8_copiesHeld_5 ?_
      refine R_getR hC dX8_copiesHeld_6 fl_8_9 hS.l hS.k (by decide) (by decide) (fi := 0) rfl (r := c) (hS.r hG) ?_
      refine R_bipush hC dX8_copiesHeld_9 (by decide +kernel) ⟨by decide, by decide⟩ ?_
      refine R_iaload hC dX8_copiesHeld_11 hS.m hS.a (by omega) (by omega) ?_
      have b11 := hB.1 121 (by omega) (by omega)
      refine R_icmp_ge hC dX8_copiesHeld_12 (tgt := 29) (by decide) (fun hb12 => ?_) (fun hb12 => ?_)
      · skip
        refine R_iload_1 hC dX8_copiesHeld_29 ?_
        exact R_ireturn hC dX8_copiesHeld_30 rfl (ret_I (by rw [ha, show i = M c 121 by omega]; rfl))
      · skip
        refine R_iload_1 hC dX8_copiesHeld_15 ?_
        refine R_aload_0 hC dX8_copiesHeld_16 ?_
        refine R_iload_2 hC dX8_copiesHeld_17 ?_
        refine R_callVq (as := [vI _]) hC dX8_copiesHeld_18 mo_8_copiesIn ml_8_39 hS.l hS.k rfl (c8_copiesIn  hG hS hB (by omega) (by omega)) rfl rfl hRm (by decide) (by decide) (Nat.le_of_ble_eq_true rfl) ?_
        have e18_1 := inAll_bd (x := i) hB (by omega) (by omega)
        refine R_iadd hC dX8_copiesHeld_21 ⟨by omega, by omega⟩ ?_
        refine R_istore_1 hC dX8_copiesHeld_22 rfl ?_
        refine R_iinc_2 hC dX8_copiesHeld_23 rfl ⟨by omega, by omega⟩ ?_
        refine R_goto hC dX8_copiesHeld_26 (tgt := 4) (by decide) ?_
        exact ih4 _ _ (by omega) (by omega) (by rw [sm_to hi0 rfl, ← ha]) (by omega)
  exact L4 _ _ _ (by omega) (by omega) rfl (Nat.lt_succ_self _)
theorem c8_copiesHeld_d {G : Gl} {l : Launch} {M : Mem} {h c : Nat} {d : Int → Int} (hMd : M c = d) (hG : GR M) (hS : SH h c) (hB : SB (d)) : Ct G LY 57 l 1 m8_copiesHeld [vR h] M (Ret (vI (heldAll (d))) M) := by
  subst hMd
  exact c8_copiesHeld hG hS hB
theorem dX8_copiesStored_0 : decode cX8_copiesStored 0 = .ok (.iconst 0, 1) := by decide +kernel
theorem dX8_copiesStored_1 : decode cX8_copiesStored 1 = .ok (.istore_n 1, 1) := by decide +kernel
theorem dX8_copiesStored_2 : decode cX8_copiesStored 2 = .ok (.iconst 0, 1) := by decide +kernel
theorem dX8_copiesStored_3 : decode cX8_copiesStored 3 = .ok (.istore_n 2, 1) := by decide +kernel
theorem dX8_copiesStored_4 : decode cX8_copiesStored 4 = .ok (.iload_n 2, 1) := by decide +kernel
theorem dX8_copiesStored_5 : decode cX8_copiesStored 5 = .ok (.aload_n 0, 1) := by decide +kernel
theorem dX8_copiesStored_6 : decode cX8_copiesStored 6 = .ok (.getfield 9, 3) := by decide +kernel
theorem dX8_copiesStored_9 : decode cX8_copiesStored 9 = .ok (.bipush 122, 2) := by decide +kernel
theorem dX8_copiesStored_11 : decode cX8_copiesStored 11 = .ok (.iaload, 1) := by decide +kernel
theorem dX8_copiesStored_12 : decode cX8_copiesStored 12 = .ok (.if_icmp .ge 17, 3) := by decide +kernel
theorem dX8_copiesStored_15 : decode cX8_copiesStored 15 = .ok (.iload_n 1, 1) := by decide +kernel
theorem dX8_copiesStored_16 : decode cX8_copiesStored 16 = .ok (.aload_n 0, 1) := by decide +kernel
theorem dX8_copiesStored_17 : decode cX8_copiesStored 17 = .ok (.iload_n 2, 1) := by decide +kernel
theorem dX8_copiesStored_18 : decode cX8_copiesStored 18 = .ok (.invokevirtual 43, 3) := by decide +kernel
theorem dX8_copiesStored_21 : decode cX8_copiesStored 21 = .ok (.iadd, 1) := by decide +kernel
theorem dX8_copiesStored_22 : decode cX8_copiesStored 22 = .ok (.istore_n 1, 1) := by decide +kernel
theorem dX8_copiesStored_23 : decode cX8_copiesStored 23 = .ok (.iinc 2 1, 3) := by decide +kernel
theorem dX8_copiesStored_26 : decode cX8_copiesStored 26 = .ok (.goto (-22), 3) := by decide +kernel
theorem dX8_copiesStored_29 : decode cX8_copiesStored 29 = .ok (.iload_n 1, 1) := by decide +kernel
theorem dX8_copiesStored_30 : decode cX8_copiesStored 30 = .ok (.ireturn, 1) := by decide +kernel
set_option maxHeartbeats 400000 in
theorem c8_copiesStored {G : Gl} {l : Launch}  {M : Mem} {h c : Nat} (hG : GR M) (hS : SH h c) (hB : SB (M c)) : Ct G LY 57 l 1 m8_copiesStored [vR h] M (Ret (vI (stor (M c))) M) := by
  refine R_start (by decide +kernel) (Nat.le_of_ble_eq_true rfl) (fun C hC hRm hlau => ?_)
  show RZ G LY C (Zn G LY 57 C (Ret (vI (stor (M c))) M)) 0 0 57 0 [some (vR h), none, none] [] M
  have hW := hB.W
  refine R_iconst hC dX8_copiesStored_0 ⟨by decide, by decide⟩ ?_
  refine R_istore_1 hC dX8_copiesStored_1 rfl ?_
  refine R_iconst hC dX8_copiesStored_2 ⟨by decide, by decide⟩ ?_
  refine R_istore_2 hC dX8_copiesStored_3 rfl ?_
  have L4 : ∀ (mq : Nat) (acc : Int) (i : Int), (0 ≤ i) → (i ≤ M c 122) → (acc = sm i.toNat (fun w => M c (22 + w))) → (M c 122 - i).toNat < mq → RZ G LY C (Zn G LY 57 C (Ret (vI (stor (M c))) M)) 0 0 57 4 [some (vR h), some (vI acc), some (vI i)] [] M := by
    intro mq
    induction mq with
    | zero =>
      intro acc i hi0 hi1 ha hm
      exact absurd hm (Nat.not_lt_zero _)
    | succ mq ih4 =>
      intro acc i hi0 hi1 ha hm4
      have hs := sm_bd2 (f := fun w => M c (22 + w)) (q := 6) 100000 hi0 (fun k a b => hB.1 _ (by omega) (by omega)) (by decide) (by omega)
      have b1 := hB.1 (22 + i) (by omega) (by omega)
      refine R_iload_2 hC dX8_copiesStored_4 ?_
      refine R_aload_0 hC dX8_copiesStored_5 ?_
      refine R_getR hC dX8_copiesStored_6 fl_8_9 hS.l hS.k (by decide) (by decide) (fi := 0) rfl (r := c) (hS.r hG) ?_
      refine R_bipush hC dX8_copiesStored_9 (by decide +kernel) ⟨by decide, by decide⟩ ?_
      refine R_iaload hC dX8_copiesStored_11 hS.m hS.a (by omega) (by omega) ?_
      have b11 := hB.1 122 (by omega) (by omega)
      refine R_icmp_ge hC dX8_copiesStored_12 (tgt := 29) (by decide) (fun hb12 => ?_) (fun hb12 => ?_)
      · skip
        refine R_iload_1 hC dX8_copiesStored_29 ?_
        exact R_ireturn hC dX8_copiesStored_30 rfl (ret_I (by rw [ha, show i = M c 122 by omega]; rfl))
      · skip
        refine R_iload_1 hC dX8_copiesStored_15 ?_
        refine R_aload_0 hC dX8_copiesStored_16 ?_
        refine R_iload_2 hC dX8_copiesStored_17 ?_
        refine R_callVq (as := [vI _]) hC dX8_copiesStored_18 mo_8_storedOf ml_8_43 hS.l hS.k rfl (c8_storedOf  hG hS (by omega) (by omega)) rfl rfl hRm (by decide) (by decide) (Nat.le_of_ble_eq_true rfl) ?_
        refine R_iadd hC dX8_copiesStored_21 ⟨by omega, by omega⟩ ?_
        refine R_istore_1 hC dX8_copiesStored_22 rfl ?_
        refine R_iinc_2 hC dX8_copiesStored_23 rfl ⟨by omega, by omega⟩ ?_
        refine R_goto hC dX8_copiesStored_26 (tgt := 4) (by decide) ?_
        exact ih4 _ _ (by omega) (by omega) (by rw [sm_to hi0 rfl, ← ha]) (by omega)
  exact L4 _ _ _ (by omega) (by omega) rfl (Nat.lt_succ_self _)
theorem c8_copiesStored_d {G : Gl} {l : Launch} {M : Mem} {h c : Nat} {d : Int → Int} (hMd : M c = d) (hG : GR M) (hS : SH h c) (hB : SB (d)) : Ct G LY 57 l 1 m8_copiesStored [vR h] M (Ret (vI (stor (d))) M) := by
  subst hMd
  exact c8_copiesStored hG hS hB
theorem dX8_copiesOf_0 : decode cX8_copiesOf 0 = .ok (.aload_n 0, 1) := by decide +kernel
theorem dX8_copiesOf_1 : decode cX8_copiesOf 1 = .ok (.getfield 9, 3) := by decide +kernel
theorem dX8_copiesOf_4 : decode cX8_copiesOf 4 = .ok (.bipush 22, 2) := by decide +kernel
theorem dX8_copiesOf_6 : decode cX8_copiesOf 6 = .ok (.iload_n 1, 1) := by decide +kernel
theorem dX8_copiesOf_7 : decode cX8_copiesOf 7 = .ok (.iadd, 1) := by decide +kernel
theorem dX8_copiesOf_8 : decode cX8_copiesOf 8 = .ok (.iaload, 1) := by decide +kernel
theorem dX8_copiesOf_9 : decode cX8_copiesOf 9 = .ok (.istore_n 2, 1) := by decide +kernel
theorem dX8_copiesOf_10 : decode cX8_copiesOf 10 = .ok (.iconst 0, 1) := by decide +kernel
theorem dX8_copiesOf_11 : decode cX8_copiesOf 11 = .ok (.istore_n 3, 1) := by decide +kernel
theorem dX8_copiesOf_12 : decode cX8_copiesOf 12 = .ok (.iload_n 3, 1) := by decide +kernel
theorem dX8_copiesOf_13 : decode cX8_copiesOf 13 = .ok (.aload_n 0, 1) := by decide +kernel
theorem dX8_copiesOf_14 : decode cX8_copiesOf 14 = .ok (.getfield 9, 3) := by decide +kernel
theorem dX8_copiesOf_17 : decode cX8_copiesOf 17 = .ok (.bipush 121, 2) := by decide +kernel
theorem dX8_copiesOf_19 : decode cX8_copiesOf 19 = .ok (.iaload, 1) := by decide +kernel
theorem dX8_copiesOf_20 : decode cX8_copiesOf 20 = .ok (.if_icmp .ge 26, 3) := by decide +kernel
theorem dX8_copiesOf_23 : decode cX8_copiesOf 23 = .ok (.iload_n 2, 1) := by decide +kernel
theorem dX8_copiesOf_24 : decode cX8_copiesOf 24 = .ok (.aload_n 0, 1) := by decide +kernel
theorem dX8_copiesOf_25 : decode cX8_copiesOf 25 = .ok (.getfield 9, 3) := by decide +kernel
theorem dX8_copiesOf_28 : decode cX8_copiesOf 28 = .ok (.bipush 28, 2) := by decide +kernel
theorem dX8_copiesOf_30 : decode cX8_copiesOf 30 = .ok (.iload_n 3, 1) := by decide +kernel
theorem dX8_copiesOf_31 : decode cX8_copiesOf 31 = .ok (.bipush 6, 2) := by decide +kernel
theorem dX8_copiesOf_33 : decode cX8_copiesOf 33 = .ok (.imul, 1) := by decide +kernel
theorem dX8_copiesOf_34 : decode cX8_copiesOf 34 = .ok (.iadd, 1) := by decide +kernel
theorem dX8_copiesOf_35 : decode cX8_copiesOf 35 = .ok (.iload_n 1, 1) := by decide +kernel
theorem dX8_copiesOf_36 : decode cX8_copiesOf 36 = .ok (.iadd, 1) := by decide +kernel
theorem dX8_copiesOf_37 : decode cX8_copiesOf 37 = .ok (.iaload, 1) := by decide +kernel
theorem dX8_copiesOf_38 : decode cX8_copiesOf 38 = .ok (.iadd, 1) := by decide +kernel
theorem dX8_copiesOf_39 : decode cX8_copiesOf 39 = .ok (.istore_n 2, 1) := by decide +kernel
theorem dX8_copiesOf_40 : decode cX8_copiesOf 40 = .ok (.iinc 3 1, 3) := by decide +kernel
theorem dX8_copiesOf_43 : decode cX8_copiesOf 43 = .ok (.goto (-31), 3) := by decide +kernel
theorem dX8_copiesOf_46 : decode cX8_copiesOf 46 = .ok (.iload_n 2, 1) := by decide +kernel
theorem dX8_copiesOf_47 : decode cX8_copiesOf 47 = .ok (.ireturn, 1) := by decide +kernel
set_option maxHeartbeats 400000 in
theorem c8_copiesOf {G : Gl} {l : Launch}  {M : Mem} {h c : Nat} {w : Int} (hG : GR M) (hS : SH h c) (hB : SB (M c)) (hw0 : 0 ≤ w) (hw1 : w < 6) : Ct G LY 57 l 0 m8_copiesOf [vR h, vI w] M (Ret (vI (allOf (M c) w)) M) := by
  refine R_start (by decide +kernel) (Nat.le_of_ble_eq_true rfl) (fun C hC hRm hlau => ?_)
  show RZ G LY C (Zn G LY 57 C (Ret (vI (allOf (M c) w)) M)) 0 0 57 0 [some (vR h), some (vI w), none, none] [] M
  have hL := hB.L
  refine R_aload_0 hC dX8_copiesOf_0 ?_
  refine R_getR hC dX8_copiesOf_1 fl_8_9 hS.l hS.k (by decide) (by decide) (fi := 0) rfl (r := c) (hS.r hG) ?_
  refine R_bipush hC dX8_copiesOf_4 (by decide +kernel) ⟨by decide, by decide⟩ ?_
  refine R_iload_1 hC dX8_copiesOf_6 ?_
  refine R_iadd hC dX8_copiesOf_7 ⟨by omega, by omega⟩ ?_
  refine R_iaload hC dX8_copiesOf_8 hS.m hS.a (by omega) (by omega) ?_
  have b8 := hB.1 (22 + w) (by omega) (by omega)
  refine R_istore_2 hC dX8_copiesOf_9 rfl ?_
  refine R_iconst hC dX8_copiesOf_10 ⟨by decide, by decide⟩ ?_
  refine R_istore_3 hC dX8_copiesOf_11 rfl ?_
  have L12 : ∀ (mq : Nat) (acc : Int) (i : Int), (0 ≤ i) → (i ≤ M c 121) → (acc = M c (22 + w) + sm i.toNat (fun x => M c (28 + x * 6 + w))) → (M c 121 - i).toNat < mq → RZ G LY C (Zn G LY 57 C (Ret (vI (allOf (M c) w)) M)) 0 0 57 12 [some (vR h), some (vI w), some (vI acc), some (vI i)] [] M := by
    intro mq
    induction mq with
    | zero =>
      intro acc i hi0 hi1 ha hm
      exact absurd hm (Nat.not_lt_zero _)
    | succ mq ih12 =>
      intro acc i hi0 hi1 ha hm12
      have hs := sm_bd2 (f := fun x => M c (28 + x * 6 + w)) (q := 5) 100000 hi0 (fun k a b => hB.1 _ (by omega) (by omega)) (by decide) (by omega)
      have b1 := hB.1 (22 + w) (by omega) (by omega)
      refine R_iload_3 hC dX8_copiesOf_12 ?_
      refine R_aload_0 hC dX8_copiesOf_13 ?_
      refine R_getR hC dX8_copiesOf_14 fl_8_9 hS.l hS.k (by decide) (by decide) (fi := 0) rfl (r := c) (hS.r hG) ?_
      refine R_bipush hC dX8_copiesOf_17 (by decide +kernel) ⟨by decide, by decide⟩ ?_
      refine R_iaload hC dX8_copiesOf_19 hS.m hS.a (by omega) (by omega) ?_
      have b19 := hB.1 121 (by omega) (by omega)
      refine R_icmp_ge hC dX8_copiesOf_20 (tgt := 46) (by decide) (fun hb20 => ?_) (fun hb20 => ?_)
      · skip
        refine R_iload_2 hC dX8_copiesOf_46 ?_
        exact R_ireturn hC dX8_copiesOf_47 rfl (ret_I (by rw [ha, show i = M c 121 by omega]; rfl))
      · skip
        refine R_iload_2 hC dX8_copiesOf_23 ?_
        refine R_aload_0 hC dX8_copiesOf_24 ?_
        refine R_getR hC dX8_copiesOf_25 fl_8_9 hS.l hS.k (by decide) (by decide) (fi := 0) rfl (r := c) (hS.r hG) ?_
        refine R_bipush hC dX8_copiesOf_28 (by decide +kernel) ⟨by decide, by decide⟩ ?_
        refine R_iload_3 hC dX8_copiesOf_30 ?_
        refine R_bipush hC dX8_copiesOf_31 (by decide +kernel) ⟨by decide, by decide⟩ ?_
        refine R_imul hC dX8_copiesOf_33 ⟨by omega, by omega⟩ ?_
        refine R_iadd hC dX8_copiesOf_34 ⟨by omega, by omega⟩ ?_
        refine R_iload_1 hC dX8_copiesOf_35 ?_
        refine R_iadd hC dX8_copiesOf_36 ⟨by omega, by omega⟩ ?_
        refine R_iaload hC dX8_copiesOf_37 hS.m hS.a (by omega) (by omega) ?_
        have b37 := hB.1 ((28 + (i * 6)) + w) (by omega) (by omega)
        refine R_iadd hC dX8_copiesOf_38 ⟨by omega, by omega⟩ ?_
        refine R_istore_2 hC dX8_copiesOf_39 rfl ?_
        refine R_iinc_3 hC dX8_copiesOf_40 rfl ⟨by omega, by omega⟩ ?_
        refine R_goto hC dX8_copiesOf_43 (tgt := 12) (by decide) ?_
        exact ih12 _ _ (by omega) (by omega) (by rw [sm_to hi0 rfl]; omega) (by omega)
  exact L12 _ _ _ (by omega) (by omega) (by rw [sm_0]; omega) (Nat.lt_succ_self _)
theorem c8_copiesOf_d {G : Gl} {l : Launch} {M : Mem} {h c : Nat} {w : Int} {d : Int → Int} (hMd : M c = d) (hG : GR M) (hS : SH h c) (hB : SB (d)) (hw0 : 0 ≤ w) (hw1 : w < 6) : Ct G LY 57 l 0 m8_copiesOf [vR h, vI w] M (Ret (vI (allOf (d) w)) M) := by
  subst hMd
  exact c8_copiesOf hG hS hB hw0 hw1
theorem dX8_spareOf_0 : decode cX8_spareOf 0 = .ok (.iconst 0, 1) := by decide +kernel
theorem dX8_spareOf_1 : decode cX8_spareOf 1 = .ok (.aload_n 0, 1) := by decide +kernel
theorem dX8_spareOf_2 : decode cX8_spareOf 2 = .ok (.iload_n 1, 1) := by decide +kernel
theorem dX8_spareOf_3 : decode cX8_spareOf 3 = .ok (.invokevirtual 46, 3) := by decide +kernel
theorem dX8_spareOf_6 : decode cX8_spareOf 6 = .ok (.aload_n 0, 1) := by decide +kernel
theorem dX8_spareOf_7 : decode cX8_spareOf 7 = .ok (.iload_n 1, 1) := by decide +kernel
theorem dX8_spareOf_8 : decode cX8_spareOf 8 = .ok (.invokevirtual 49, 3) := by decide +kernel
theorem dX8_spareOf_11 : decode cX8_spareOf 11 = .ok (.isub, 1) := by decide +kernel
theorem dX8_spareOf_12 : decode cX8_spareOf 12 = .ok (.invokestatic 52, 3) := by decide +kernel
theorem dX8_spareOf_15 : decode cX8_spareOf 15 = .ok (.ireturn, 1) := by decide +kernel
set_option maxHeartbeats 400000 in
theorem c8_spareOf {G : Gl} {l : Launch}  {M : Mem} {h c : Nat} {w : Int} (hG : GR M) (hS : SH h c) (hB : SB (M c)) (hw0 : 0 ≤ w) (hw1 : w < 6) : Ct G LY 57 l 1 m8_spareOf [vR h, vI w] M (Ret (vI (spr (M c) w)) M) := by
  refine R_start (by decide +kernel) (Nat.le_of_ble_eq_true rfl) (fun C hC hRm hlau => ?_)
  show RZ G LY C (Zn G LY 57 C (Ret (vI (spr (M c) w)) M)) 0 0 57 0 [some (vR h), some (vI w)] [] M
  have b1 := hB.1 (16 + w) (by omega) (by omega)
  have b2 := allOf_bd hB hw0 hw1
  refine R_iconst hC dX8_spareOf_0 ⟨by decide, by decide⟩ ?_
  refine R_aload_0 hC dX8_spareOf_1 ?_
  refine R_iload_1 hC dX8_spareOf_2 ?_
  refine R_callVq (as := [vI _]) hC dX8_spareOf_3 mo_8_copiesOf ml_8_46 hS.l hS.k rfl (c8_copiesOf  hG hS hB (by omega) (by omega)) rfl rfl hRm (by decide) (by decide) (Nat.le_of_ble_eq_true rfl) ?_
  have e3_1 := allOf_bd (w := w) hB (by omega) (by omega)
  refine R_aload_0 hC dX8_spareOf_6 ?_
  refine R_iload_1 hC dX8_spareOf_7 ?_
  refine R_callVq (as := [vI _]) hC dX8_spareOf_8 mo_8_keepOf ml_8_49 hS.l hS.k rfl (c8_keepOf  hG hS (by omega) (by omega)) rfl rfl hRm (by decide) (by decide) (Nat.le_of_ble_eq_true rfl) ?_
  refine R_isub hC dX8_spareOf_11 ⟨by omega, by omega⟩ ?_
  refine R_max hC dX8_spareOf_12 jl_8_52 hRm (by decide) (Nat.le_of_ble_eq_true rfl) ?_
  exact R_ireturn hC dX8_spareOf_15 rfl (ret_I rfl)
theorem c8_spareOf_d {G : Gl} {l : Launch} {M : Mem} {h c : Nat} {w : Int} {d : Int → Int} (hMd : M c = d) (hG : GR M) (hS : SH h c) (hB : SB (d)) (hw0 : 0 ≤ w) (hw1 : w < 6) : Ct G LY 57 l 1 m8_spareOf [vR h, vI w] M (Ret (vI (spr (d) w)) M) := by
  subst hMd
  exact c8_spareOf hG hS hB hw0 hw1
theorem dX8_shortOf_0 : decode cX8_shortOf 0 = .ok (.iconst 0, 1) := by decide +kernel
theorem dX8_shortOf_1 : decode cX8_shortOf 1 = .ok (.aload_n 0, 1) := by decide +kernel
theorem dX8_shortOf_2 : decode cX8_shortOf 2 = .ok (.iload_n 1, 1) := by decide +kernel
theorem dX8_shortOf_3 : decode cX8_shortOf 3 = .ok (.invokevirtual 49, 3) := by decide +kernel
theorem dX8_shortOf_6 : decode cX8_shortOf 6 = .ok (.aload_n 0, 1) := by decide +kernel
theorem dX8_shortOf_7 : decode cX8_shortOf 7 = .ok (.iload_n 1, 1) := by decide +kernel
theorem dX8_shortOf_8 : decode cX8_shortOf 8 = .ok (.invokevirtual 46, 3) := by decide +kernel
theorem dX8_shortOf_11 : decode cX8_shortOf 11 = .ok (.isub, 1) := by decide +kernel
theorem dX8_shortOf_12 : decode cX8_shortOf 12 = .ok (.invokestatic 52, 3) := by decide +kernel
theorem dX8_shortOf_15 : decode cX8_shortOf 15 = .ok (.ireturn, 1) := by decide +kernel
set_option maxHeartbeats 400000 in
theorem c8_shortOf {G : Gl} {l : Launch}  {M : Mem} {h c : Nat} {w : Int} (hG : GR M) (hS : SH h c) (hB : SB (M c)) (hw0 : 0 ≤ w) (hw1 : w < 6) : Ct G LY 57 l 1 m8_shortOf [vR h, vI w] M (Ret (vI (shrt (M c) w)) M) := by
  refine R_start (by decide +kernel) (Nat.le_of_ble_eq_true rfl) (fun C hC hRm hlau => ?_)
  show RZ G LY C (Zn G LY 57 C (Ret (vI (shrt (M c) w)) M)) 0 0 57 0 [some (vR h), some (vI w)] [] M
  have b1 := hB.1 (16 + w) (by omega) (by omega)
  have b2 := allOf_bd hB hw0 hw1
  refine R_iconst hC dX8_shortOf_0 ⟨by decide, by decide⟩ ?_
  refine R_aload_0 hC dX8_shortOf_1 ?_
  refine R_iload_1 hC dX8_shortOf_2 ?_
  refine R_callVq (as := [vI _]) hC dX8_shortOf_3 mo_8_keepOf ml_8_49 hS.l hS.k rfl (c8_keepOf  hG hS (by omega) (by omega)) rfl rfl hRm (by decide) (by decide) (Nat.le_of_ble_eq_true rfl) ?_
  refine R_aload_0 hC dX8_shortOf_6 ?_
  refine R_iload_1 hC dX8_shortOf_7 ?_
  refine R_callVq (as := [vI _]) hC dX8_shortOf_8 mo_8_copiesOf ml_8_46 hS.l hS.k rfl (c8_copiesOf  hG hS hB (by omega) (by omega)) rfl rfl hRm (by decide) (by decide) (Nat.le_of_ble_eq_true rfl) ?_
  have e8_1 := allOf_bd (w := w) hB (by omega) (by omega)
  refine R_isub hC dX8_shortOf_11 ⟨by omega, by omega⟩ ?_
  refine R_max hC dX8_shortOf_12 jl_8_52 hRm (by decide) (Nat.le_of_ble_eq_true rfl) ?_
  exact R_ireturn hC dX8_shortOf_15 rfl (ret_I rfl)
theorem c8_shortOf_d {G : Gl} {l : Launch} {M : Mem} {h c : Nat} {w : Int} {d : Int → Int} (hMd : M c = d) (hG : GR M) (hS : SH h c) (hB : SB (d)) (hw0 : 0 ≤ w) (hw1 : w < 6) : Ct G LY 57 l 1 m8_shortOf [vR h, vI w] M (Ret (vI (shrt (d) w)) M) := by
  subst hMd
  exact c8_shortOf hG hS hB hw0 hw1
theorem dX8_needOf_0 : decode cX8_needOf 0 = .ok (.iconst 0, 1) := by decide +kernel
theorem dX8_needOf_1 : decode cX8_needOf 1 = .ok (.aload_n 0, 1) := by decide +kernel
theorem dX8_needOf_2 : decode cX8_needOf 2 = .ok (.iload_n 1, 1) := by decide +kernel
theorem dX8_needOf_3 : decode cX8_needOf 3 = .ok (.invokevirtual 39, 3) := by decide +kernel
theorem dX8_needOf_6 : decode cX8_needOf 6 = .ok (.aload_n 0, 1) := by decide +kernel
theorem dX8_needOf_7 : decode cX8_needOf 7 = .ok (.iload_n 1, 1) := by decide +kernel
theorem dX8_needOf_8 : decode cX8_needOf 8 = .ok (.invokevirtual 57, 3) := by decide +kernel
theorem dX8_needOf_11 : decode cX8_needOf 11 = .ok (.isub, 1) := by decide +kernel
theorem dX8_needOf_12 : decode cX8_needOf 12 = .ok (.invokestatic 52, 3) := by decide +kernel
theorem dX8_needOf_15 : decode cX8_needOf 15 = .ok (.ireturn, 1) := by decide +kernel
set_option maxHeartbeats 400000 in
theorem c8_needOf {G : Gl} {l : Launch}  {M : Mem} {h c : Nat} {x : Int} (hG : GR M) (hS : SH h c) (hB : SB (M c)) (hx0 : 0 ≤ x) (hx1 : x < 5) : Ct G LY 57 l 1 m8_needOf [vR h, vI x] M (Ret (vI (nee (M c) x)) M) := by
  refine R_start (by decide +kernel) (Nat.le_of_ble_eq_true rfl) (fun C hC hRm hlau => ?_)
  show RZ G LY C (Zn G LY 57 C (Ret (vI (nee (M c) x)) M)) 0 0 57 0 [some (vR h), some (vI x)] [] M
  have b1 := hB.1 x (by omega) (by omega)
  have b2 := inAll_bd hB hx0 hx1
  refine R_iconst hC dX8_needOf_0 ⟨by decide, by decide⟩ ?_
  refine R_aload_0 hC dX8_needOf_1 ?_
  refine R_iload_1 hC dX8_needOf_2 ?_
  refine R_callVq (as := [vI _]) hC dX8_needOf_3 mo_8_copiesIn ml_8_39 hS.l hS.k rfl (c8_copiesIn  hG hS hB (by omega) (by omega)) rfl rfl hRm (by decide) (by decide) (Nat.le_of_ble_eq_true rfl) ?_
  have e3_1 := inAll_bd (x := x) hB (by omega) (by omega)
  refine R_aload_0 hC dX8_needOf_6 ?_
  refine R_iload_1 hC dX8_needOf_7 ?_
  refine R_callVq (as := [vI _]) hC dX8_needOf_8 mo_8_roomOf ml_8_57 hS.l hS.k rfl (c8_roomOf  hG hS (by omega) (by omega)) rfl rfl hRm (by decide) (by decide) (Nat.le_of_ble_eq_true rfl) ?_
  refine R_isub hC dX8_needOf_11 ⟨by omega, by omega⟩ ?_
  refine R_max hC dX8_needOf_12 jl_8_52 hRm (by decide) (Nat.le_of_ble_eq_true rfl) ?_
  exact R_ireturn hC dX8_needOf_15 rfl (ret_I rfl)
theorem c8_needOf_d {G : Gl} {l : Launch} {M : Mem} {h c : Nat} {x : Int} {d : Int → Int} (hMd : M c = d) (hG : GR M) (hS : SH h c) (hB : SB (d)) (hx0 : 0 ≤ x) (hx1 : x < 5) : Ct G LY 57 l 1 m8_needOf [vR h, vI x] M (Ret (vI (nee (d) x)) M) := by
  subst hMd
  exact c8_needOf hG hS hB hx0 hx1
theorem dX8_mayGo_0 : decode cX8_mayGo 0 = .ok (.aload_n 0, 1) := by decide +kernel
theorem dX8_mayGo_1 : decode cX8_mayGo 1 = .ok (.iload_n 1, 1) := by decide +kernel
theorem dX8_mayGo_2 : decode cX8_mayGo 2 = .ok (.iload_n 2, 1) := by decide +kernel
theorem dX8_mayGo_3 : decode cX8_mayGo 3 = .ok (.invokevirtual 60, 3) := by decide +kernel
theorem dX8_mayGo_6 : decode cX8_mayGo 6 = .ok (.ifCond .le 15, 3) := by decide +kernel
theorem dX8_mayGo_9 : decode cX8_mayGo 9 = .ok (.aload_n 0, 1) := by decide +kernel
theorem dX8_mayGo_10 : decode cX8_mayGo 10 = .ok (.iload_n 2, 1) := by decide +kernel
theorem dX8_mayGo_11 : decode cX8_mayGo 11 = .ok (.invokevirtual 63, 3) := by decide +kernel
theorem dX8_mayGo_14 : decode cX8_mayGo 14 = .ok (.ifCond .le 7, 3) := by decide +kernel
theorem dX8_mayGo_17 : decode cX8_mayGo 17 = .ok (.iconst 1, 1) := by decide +kernel
theorem dX8_mayGo_18 : decode cX8_mayGo 18 = .ok (.goto 4, 3) := by decide +kernel
theorem dX8_mayGo_21 : decode cX8_mayGo 21 = .ok (.iconst 0, 1) := by decide +kernel
theorem dX8_mayGo_22 : decode cX8_mayGo 22 = .ok (.ireturn, 1) := by decide +kernel
set_option maxHeartbeats 400000 in
theorem c8_mayGo {G : Gl} {l : Launch}  {M : Mem} {h c : Nat} {x w : Int} (hG : GR M) (hS : SH h c) (hB : SB (M c)) (hx0 : 0 ≤ x) (hx1 : x < 5) (hw0 : 0 ≤ w) (hw1 : w < 6) : Ct G LY 57 l 2 m8_mayGo [vR h, vI x, vI w] M (Ret (vI (bP (mayGo (M c) x w))) M) := by
  refine R_start (by decide +kernel) (Nat.le_of_ble_eq_true rfl) (fun C hC hRm hlau => ?_)
  show RZ G LY C (Zn G LY 57 C (Ret (vI (bP (mayGo (M c) x w))) M)) 0 0 57 0 [some (vR h), some (vI x), some (vI w)] [] M
  refine R_aload_0 hC dX8_mayGo_0 ?_
  refine R_iload_1 hC dX8_mayGo_1 ?_
  refine R_iload_2 hC dX8_mayGo_2 ?_
  refine R_callVq (as := [vI _, vI _]) hC dX8_mayGo_3 mo_8_offerOf ml_8_60 hS.l hS.k rfl (c8_offerOf  hG hS hB (by omega) (by omega) (by omega) (by omega)) rfl rfl hRm (by decide) (by decide) (Nat.le_of_ble_eq_true rfl) ?_
  have e3_1 := offr_bd (x := x) (w := w) hB (by omega) (by omega) (by omega) (by omega)
  refine R_if_le hC dX8_mayGo_6 (tgt := 21) (by decide) (fun hb6 => ?_) (fun hb6 => ?_)
  · skip
    refine R_iconst hC dX8_mayGo_21 ⟨by decide, by decide⟩ ?_
    exact R_zreturn hC dX8_mayGo_22 rfl (.inl rfl) (ret_f (by unfold mayGo; omega))
  · skip
    refine R_aload_0 hC dX8_mayGo_9 ?_
    refine R_iload_2 hC dX8_mayGo_10 ?_
    refine R_callVq (as := [vI _]) hC dX8_mayGo_11 mo_8_spareOf ml_8_63 hS.l hS.k rfl (c8_spareOf  hG hS hB (by omega) (by omega)) rfl rfl hRm (by decide) (by decide) (Nat.le_of_ble_eq_true rfl) ?_
    have e11_2 := spr_bd (w := w) hB (by omega) (by omega)
    refine R_if_le hC dX8_mayGo_14 (tgt := 21) (by decide) (fun hb14 => ?_) (fun hb14 => ?_)
    · skip
      refine R_iconst hC dX8_mayGo_21 ⟨by decide, by decide⟩ ?_
      exact R_zreturn hC dX8_mayGo_22 rfl (.inl rfl) (ret_f (by unfold mayGo; omega))
    · skip
      refine R_iconst hC dX8_mayGo_17 ⟨by decide, by decide⟩ ?_
      refine R_goto hC dX8_mayGo_18 (tgt := 22) (by decide) ?_
      exact R_zreturn hC dX8_mayGo_22 rfl (.inr rfl) (ret_t (by unfold mayGo; omega))
theorem c8_mayGo_d {G : Gl} {l : Launch} {M : Mem} {h c : Nat} {x w : Int} {d : Int → Int} (hMd : M c = d) (hG : GR M) (hS : SH h c) (hB : SB (d)) (hx0 : 0 ≤ x) (hx1 : x < 5) (hw0 : 0 ≤ w) (hw1 : w < 6) : Ct G LY 57 l 2 m8_mayGo [vR h, vI x, vI w] M (Ret (vI (bP (mayGo (d) x w))) M) := by
  subst hMd
  exact c8_mayGo hG hS hB hx0 hx1 hw0 hw1
theorem dX8_whyNot_0 : decode cX8_whyNot 0 = .ok (.aload_n 0, 1) := by decide +kernel
theorem dX8_whyNot_1 : decode cX8_whyNot 1 = .ok (.iload_n 1, 1) := by decide +kernel
theorem dX8_whyNot_2 : decode cX8_whyNot 2 = .ok (.iload_n 2, 1) := by decide +kernel
theorem dX8_whyNot_3 : decode cX8_whyNot 3 = .ok (.invokevirtual 28, 3) := by decide +kernel
theorem dX8_whyNot_6 : decode cX8_whyNot 6 = .ok (.ifCond .ne 5, 3) := by decide +kernel
theorem dX8_whyNot_9 : decode cX8_whyNot 9 = .ok (.iconst 1, 1) := by decide +kernel
theorem dX8_whyNot_10 : decode cX8_whyNot 10 = .ok (.ireturn, 1) := by decide +kernel
theorem dX8_whyNot_11 : decode cX8_whyNot 11 = .ok (.aload_n 0, 1) := by decide +kernel
theorem dX8_whyNot_12 : decode cX8_whyNot 12 = .ok (.iload_n 1, 1) := by decide +kernel
theorem dX8_whyNot_13 : decode cX8_whyNot 13 = .ok (.iload_n 2, 1) := by decide +kernel
theorem dX8_whyNot_14 : decode cX8_whyNot 14 = .ok (.invokevirtual 60, 3) := by decide +kernel
theorem dX8_whyNot_17 : decode cX8_whyNot 17 = .ok (.ifCond .ne 5, 3) := by decide +kernel
theorem dX8_whyNot_20 : decode cX8_whyNot 20 = .ok (.iconst 2, 1) := by decide +kernel
theorem dX8_whyNot_21 : decode cX8_whyNot 21 = .ok (.ireturn, 1) := by decide +kernel
theorem dX8_whyNot_22 : decode cX8_whyNot 22 = .ok (.aload_n 0, 1) := by decide +kernel
theorem dX8_whyNot_23 : decode cX8_whyNot 23 = .ok (.iload_n 2, 1) := by decide +kernel
theorem dX8_whyNot_24 : decode cX8_whyNot 24 = .ok (.invokevirtual 63, 3) := by decide +kernel
theorem dX8_whyNot_27 : decode cX8_whyNot 27 = .ok (.ifCond .ne 7, 3) := by decide +kernel
theorem dX8_whyNot_30 : decode cX8_whyNot 30 = .ok (.iconst 3, 1) := by decide +kernel
theorem dX8_whyNot_31 : decode cX8_whyNot 31 = .ok (.goto 4, 3) := by decide +kernel
theorem dX8_whyNot_34 : decode cX8_whyNot 34 = .ok (.iconst 0, 1) := by decide +kernel
theorem dX8_whyNot_35 : decode cX8_whyNot 35 = .ok (.ireturn, 1) := by decide +kernel
set_option maxHeartbeats 400000 in
theorem c8_whyNot {G : Gl} {l : Launch}  {M : Mem} {h c : Nat} {x w : Int} (hG : GR M) (hS : SH h c) (hB : SB (M c)) (hx0 : 0 ≤ x) (hx1 : x < 5) (hw0 : 0 ≤ w) (hw1 : w < 6) : Ct G LY 57 l 2 m8_whyNot [vR h, vI x, vI w] M (Ret (vI (whyN (M c) x w)) M) := by
  refine R_start (by decide +kernel) (Nat.le_of_ble_eq_true rfl) (fun C hC hRm hlau => ?_)
  show RZ G LY C (Zn G LY 57 C (Ret (vI (whyN (M c) x w)) M)) 0 0 57 0 [some (vR h), some (vI x), some (vI w)] [] M
  refine R_aload_0 hC dX8_whyNot_0 ?_
  refine R_iload_1 hC dX8_whyNot_1 ?_
  refine R_iload_2 hC dX8_whyNot_2 ?_
  refine R_callVq (as := [vI _, vI _]) hC dX8_whyNot_3 mo_8_heldIn ml_8_28 hS.l hS.k rfl (c8_heldIn  hG hS (by omega) (by omega) (by omega) (by omega)) rfl rfl hRm (by decide) (by decide) (Nat.le_of_ble_eq_true rfl) ?_
  refine R_if_ne hC dX8_whyNot_6 (tgt := 11) (by decide) (fun hb6 => ?_) (fun hb6 => ?_)
  · skip
    refine R_aload_0 hC dX8_whyNot_11 ?_
    refine R_iload_1 hC dX8_whyNot_12 ?_
    refine R_iload_2 hC dX8_whyNot_13 ?_
    refine R_callVq (as := [vI _, vI _]) hC dX8_whyNot_14 mo_8_offerOf ml_8_60 hS.l hS.k rfl (c8_offerOf  hG hS hB (by omega) (by omega) (by omega) (by omega)) rfl rfl hRm (by decide) (by decide) (Nat.le_of_ble_eq_true rfl) ?_
    have e14_1 := offr_bd (x := x) (w := w) hB (by omega) (by omega) (by omega) (by omega)
    refine R_if_ne hC dX8_whyNot_17 (tgt := 22) (by decide) (fun hb17 => ?_) (fun hb17 => ?_)
    · skip
      refine R_aload_0 hC dX8_whyNot_22 ?_
      refine R_iload_2 hC dX8_whyNot_23 ?_
      refine R_callVq (as := [vI _]) hC dX8_whyNot_24 mo_8_spareOf ml_8_63 hS.l hS.k rfl (c8_spareOf  hG hS hB (by omega) (by omega)) rfl rfl hRm (by decide) (by decide) (Nat.le_of_ble_eq_true rfl) ?_
      have e24_2 := spr_bd (w := w) hB (by omega) (by omega)
      refine R_if_ne hC dX8_whyNot_27 (tgt := 34) (by decide) (fun hb27 => ?_) (fun hb27 => ?_)
      · skip
        refine R_iconst hC dX8_whyNot_34 ⟨by decide, by decide⟩ ?_
        exact R_ireturn hC dX8_whyNot_35 rfl (ret_I (by unfold whyN; simp [*]))
      · skip
        refine R_iconst hC dX8_whyNot_30 ⟨by decide, by decide⟩ ?_
        refine R_goto hC dX8_whyNot_31 (tgt := 35) (by decide) ?_
        exact R_ireturn hC dX8_whyNot_35 rfl (ret_I (by unfold whyN; simp [*]))
    · skip
      refine R_iconst hC dX8_whyNot_20 ⟨by decide, by decide⟩ ?_
      exact R_ireturn hC dX8_whyNot_21 rfl (ret_I (by unfold whyN; simp [*]))
  · skip
    refine R_iconst hC dX8_whyNot_9 ⟨by decide, by decide⟩ ?_
    exact R_ireturn hC dX8_whyNot_10 rfl (ret_I (by unfold whyN; simp [*]))
theorem c8_whyNot_d {G : Gl} {l : Launch} {M : Mem} {h c : Nat} {x w : Int} {d : Int → Int} (hMd : M c = d) (hG : GR M) (hS : SH h c) (hB : SB (d)) (hx0 : 0 ≤ x) (hx1 : x < 5) (hw0 : 0 ≤ w) (hw1 : w < 6) : Ct G LY 57 l 2 m8_whyNot [vR h, vI x, vI w] M (Ret (vI (whyN (d) x w)) M) := by
  subst hMd
  exact c8_whyNot hG hS hB hx0 hx1 hw0 hw1
theorem dX8_hasRoom_0 : decode cX8_hasRoom 0 = .ok (.aload_n 0, 1) := by decide +kernel
theorem dX8_hasRoom_1 : decode cX8_hasRoom 1 = .ok (.iload_n 1, 1) := by decide +kernel
theorem dX8_hasRoom_2 : decode cX8_hasRoom 2 = .ok (.invokevirtual 39, 3) := by decide +kernel
theorem dX8_hasRoom_5 : decode cX8_hasRoom 5 = .ok (.aload_n 0, 1) := by decide +kernel
theorem dX8_hasRoom_6 : decode cX8_hasRoom 6 = .ok (.iload_n 1, 1) := by decide +kernel
theorem dX8_hasRoom_7 : decode cX8_hasRoom 7 = .ok (.invokevirtual 57, 3) := by decide +kernel
theorem dX8_hasRoom_10 : decode cX8_hasRoom 10 = .ok (.if_icmp .ge 7, 3) := by decide +kernel
theorem dX8_hasRoom_13 : decode cX8_hasRoom 13 = .ok (.iconst 1, 1) := by decide +kernel
theorem dX8_hasRoom_14 : decode cX8_hasRoom 14 = .ok (.goto 4, 3) := by decide +kernel
theorem dX8_hasRoom_17 : decode cX8_hasRoom 17 = .ok (.iconst 0, 1) := by decide +kernel
theorem dX8_hasRoom_18 : decode cX8_hasRoom 18 = .ok (.ireturn, 1) := by decide +kernel
set_option maxHeartbeats 400000 in
theorem c8_hasRoom {G : Gl} {l : Launch}  {M : Mem} {h c : Nat} {x : Int} (hG : GR M) (hS : SH h c) (hB : SB (M c)) (hx0 : 0 ≤ x) (hx1 : x < 5) : Ct G LY 57 l 1 m8_hasRoom [vR h, vI x] M (Ret (vI (bP (inAll (M c) x < M c x))) M) := by
  refine R_start (by decide +kernel) (Nat.le_of_ble_eq_true rfl) (fun C hC hRm hlau => ?_)
  show RZ G LY C (Zn G LY 57 C (Ret (vI (bP (inAll (M c) x < M c x))) M)) 0 0 57 0 [some (vR h), some (vI x)] [] M
  refine R_aload_0 hC dX8_hasRoom_0 ?_
  refine R_iload_1 hC dX8_hasRoom_1 ?_
  refine R_callVq (as := [vI _]) hC dX8_hasRoom_2 mo_8_copiesIn ml_8_39 hS.l hS.k rfl (c8_copiesIn  hG hS hB (by omega) (by omega)) rfl rfl hRm (by decide) (by decide) (Nat.le_of_ble_eq_true rfl) ?_
  have e2_1 := inAll_bd (x := x) hB (by omega) (by omega)
  refine R_aload_0 hC dX8_hasRoom_5 ?_
  refine R_iload_1 hC dX8_hasRoom_6 ?_
  refine R_callVq (as := [vI _]) hC dX8_hasRoom_7 mo_8_roomOf ml_8_57 hS.l hS.k rfl (c8_roomOf  hG hS (by omega) (by omega)) rfl rfl hRm (by decide) (by decide) (Nat.le_of_ble_eq_true rfl) ?_
  refine R_icmp_ge hC dX8_hasRoom_10 (tgt := 17) (by decide) (fun hb10 => ?_) (fun hb10 => ?_)
  · skip
    refine R_iconst hC dX8_hasRoom_17 ⟨by decide, by decide⟩ ?_
    exact R_zreturn hC dX8_hasRoom_18 rfl (.inl rfl) (ret_f (by omega))
  · skip
    refine R_iconst hC dX8_hasRoom_13 ⟨by decide, by decide⟩ ?_
    refine R_goto hC dX8_hasRoom_14 (tgt := 18) (by decide) ?_
    exact R_zreturn hC dX8_hasRoom_18 rfl (.inr rfl) (ret_t (by omega))
theorem c8_hasRoom_d {G : Gl} {l : Launch} {M : Mem} {h c : Nat} {x : Int} {d : Int → Int} (hMd : M c = d) (hG : GR M) (hS : SH h c) (hB : SB (d)) (hx0 : 0 ≤ x) (hx1 : x < 5) : Ct G LY 57 l 1 m8_hasRoom [vR h, vI x] M (Ret (vI (bP (inAll (d) x < d x))) M) := by
  subst hMd
  exact c8_hasRoom hG hS hB hx0 hx1
theorem dX8_mayGive_0 : decode cX8_mayGive 0 = .ok (.iload_n 1, 1) := by decide +kernel
theorem dX8_mayGive_1 : decode cX8_mayGive 1 = .ok (.iload_n 2, 1) := by decide +kernel
theorem dX8_mayGive_2 : decode cX8_mayGive 2 = .ok (.if_icmp .eq 34, 3) := by decide +kernel
theorem dX8_mayGive_5 : decode cX8_mayGive 5 = .ok (.aload_n 0, 1) := by decide +kernel
theorem dX8_mayGive_6 : decode cX8_mayGive 6 = .ok (.iload_n 1, 1) := by decide +kernel
theorem dX8_mayGive_7 : decode cX8_mayGive 7 = .ok (.iload_n 3, 1) := by decide +kernel
theorem dX8_mayGive_8 : decode cX8_mayGive 8 = .ok (.invokevirtual 60, 3) := by decide +kernel
theorem dX8_mayGive_11 : decode cX8_mayGive 11 = .ok (.ifCond .le 25, 3) := by decide +kernel
theorem dX8_mayGive_14 : decode cX8_mayGive 14 = .ok (.aload_n 0, 1) := by decide +kernel
theorem dX8_mayGive_15 : decode cX8_mayGive 15 = .ok (.iload_n 2, 1) := by decide +kernel
theorem dX8_mayGive_16 : decode cX8_mayGive 16 = .ok (.iload_n 3, 1) := by decide +kernel
theorem dX8_mayGive_17 : decode cX8_mayGive 17 = .ok (.invokevirtual 28, 3) := by decide +kernel
theorem dX8_mayGive_20 : decode cX8_mayGive 20 = .ok (.iconst 3, 1) := by decide +kernel
theorem dX8_mayGive_21 : decode cX8_mayGive 21 = .ok (.if_icmp .ge 15, 3) := by decide +kernel
theorem dX8_mayGive_24 : decode cX8_mayGive 24 = .ok (.aload_n 0, 1) := by decide +kernel
theorem dX8_mayGive_25 : decode cX8_mayGive 25 = .ok (.iload_n 2, 1) := by decide +kernel
theorem dX8_mayGive_26 : decode cX8_mayGive 26 = .ok (.invokevirtual 66, 3) := by decide +kernel
theorem dX8_mayGive_29 : decode cX8_mayGive 29 = .ok (.ifCond .eq 7, 3) := by decide +kernel
theorem dX8_mayGive_32 : decode cX8_mayGive 32 = .ok (.iconst 1, 1) := by decide +kernel
theorem dX8_mayGive_33 : decode cX8_mayGive 33 = .ok (.goto 4, 3) := by decide +kernel
theorem dX8_mayGive_36 : decode cX8_mayGive 36 = .ok (.iconst 0, 1) := by decide +kernel
theorem dX8_mayGive_37 : decode cX8_mayGive 37 = .ok (.ireturn, 1) := by decide +kernel
set_option maxHeartbeats 400000 in
theorem c8_mayGive {G : Gl} {l : Launch}  {M : Mem} {h c : Nat} {x t w : Int} (hG : GR M) (hS : SH h c) (hB : SB (M c)) (hx0 : 0 ≤ x) (hx1 : x < 5) (hw0 : 0 ≤ w) (hw1 : w < 6) (ht0 : 0 ≤ t) (ht1 : t < 5) : Ct G LY 57 l 2 m8_mayGive [vR h, vI x, vI t, vI w] M (Ret (vI (bP (mayGive (M c) x t w))) M) := by
  refine R_start (by decide +kernel) (Nat.le_of_ble_eq_true rfl) (fun C hC hRm hlau => ?_)
  show RZ G LY C (Zn G LY 57 C (Ret (vI (bP (mayGive (M c) x t w))) M)) 0 0 57 0 [some (vR h), some (vI x), some (vI t), some (vI w)] [] M
  refine R_iload_1 hC dX8_mayGive_0 ?_
  refine R_iload_2 hC dX8_mayGive_1 ?_
  refine R_icmp_eq hC dX8_mayGive_2 (tgt := 36) (by decide) (fun hb2 => ?_) (fun hb2 => ?_)
  · skip
    refine R_iconst hC dX8_mayGive_36 ⟨by decide, by decide⟩ ?_
    exact R_zreturn hC dX8_mayGive_37 rfl (.inl rfl) (ret_f (by unfold mayGive; omega))
  · skip
    refine R_aload_0 hC dX8_mayGive_5 ?_
    refine R_iload_1 hC dX8_mayGive_6 ?_
    refine R_iload_3 hC dX8_mayGive_7 ?_
    refine R_callVq (as := [vI _, vI _]) hC dX8_mayGive_8 mo_8_offerOf ml_8_60 hS.l hS.k rfl (c8_offerOf  hG hS hB (by omega) (by omega) (by omega) (by omega)) rfl rfl hRm (by decide) (by decide) (Nat.le_of_ble_eq_true rfl) ?_
    have e8_1 := offr_bd (x := x) (w := w) hB (by omega) (by omega) (by omega) (by omega)
    refine R_if_le hC dX8_mayGive_11 (tgt := 36) (by decide) (fun hb11 => ?_) (fun hb11 => ?_)
    · skip
      refine R_iconst hC dX8_mayGive_36 ⟨by decide, by decide⟩ ?_
      exact R_zreturn hC dX8_mayGive_37 rfl (.inl rfl) (ret_f (by unfold mayGive; omega))
    · skip
      refine R_aload_0 hC dX8_mayGive_14 ?_
      refine R_iload_2 hC dX8_mayGive_15 ?_
      refine R_iload_3 hC dX8_mayGive_16 ?_
      refine R_callVq (as := [vI _, vI _]) hC dX8_mayGive_17 mo_8_heldIn ml_8_28 hS.l hS.k rfl (c8_heldIn  hG hS (by omega) (by omega) (by omega) (by omega)) rfl rfl hRm (by decide) (by decide) (Nat.le_of_ble_eq_true rfl) ?_
      refine R_iconst hC dX8_mayGive_20 ⟨by decide, by decide⟩ ?_
      refine R_icmp_ge hC dX8_mayGive_21 (tgt := 36) (by decide) (fun hb21 => ?_) (fun hb21 => ?_)
      · skip
        refine R_iconst hC dX8_mayGive_36 ⟨by decide, by decide⟩ ?_
        exact R_zreturn hC dX8_mayGive_37 rfl (.inl rfl) (ret_f (by unfold mayGive; omega))
      · skip
        refine R_aload_0 hC dX8_mayGive_24 ?_
        refine R_iload_2 hC dX8_mayGive_25 ?_
        refine R_callVq (as := [vI _]) hC dX8_mayGive_26 mo_8_hasRoom ml_8_66 hS.l hS.k rfl (c8_hasRoom  hG hS hB (by omega) (by omega)) rfl rfl hRm (by decide) (by decide) (Nat.le_of_ble_eq_true rfl) ?_
        refine R_if_eq hC dX8_mayGive_29 (tgt := 36) (by decide) (fun hb29 => ?_) (fun hb29 => ?_)
        · skip
          replace hb29 := bP_z hb29
          refine R_iconst hC dX8_mayGive_36 ⟨by decide, by decide⟩ ?_
          exact R_zreturn hC dX8_mayGive_37 rfl (.inl rfl) (ret_f (by unfold mayGive; omega))
        · skip
          replace hb29 := bP_nz hb29
          refine R_iconst hC dX8_mayGive_32 ⟨by decide, by decide⟩ ?_
          refine R_goto hC dX8_mayGive_33 (tgt := 37) (by decide) ?_
          exact R_zreturn hC dX8_mayGive_37 rfl (.inr rfl) (ret_t (by unfold mayGive; omega))
theorem c8_mayGive_d {G : Gl} {l : Launch} {M : Mem} {h c : Nat} {x t w : Int} {d : Int → Int} (hMd : M c = d) (hG : GR M) (hS : SH h c) (hB : SB (d)) (hx0 : 0 ≤ x) (hx1 : x < 5) (hw0 : 0 ≤ w) (hw1 : w < 6) (ht0 : 0 ≤ t) (ht1 : t < 5) : Ct G LY 57 l 2 m8_mayGive [vR h, vI x, vI t, vI w] M (Ret (vI (bP (mayGive (d) x t w))) M) := by
  subst hMd
  exact c8_mayGive hG hS hB hx0 hx1 hw0 hw1 ht0 ht1
theorem dX8_maySend_0 : decode cX8_maySend 0 = .ok (.aload_n 0, 1) := by decide +kernel
theorem dX8_maySend_1 : decode cX8_maySend 1 = .ok (.iload_n 1, 1) := by decide +kernel
theorem dX8_maySend_2 : decode cX8_maySend 2 = .ok (.iload_n 2, 1) := by decide +kernel
theorem dX8_maySend_3 : decode cX8_maySend 3 = .ok (.invokevirtual 60, 3) := by decide +kernel
theorem dX8_maySend_6 : decode cX8_maySend 6 = .ok (.ifCond .le 21, 3) := by decide +kernel
theorem dX8_maySend_9 : decode cX8_maySend 9 = .ok (.aload_n 0, 1) := by decide +kernel
theorem dX8_maySend_10 : decode cX8_maySend 10 = .ok (.invokevirtual 69, 3) := by decide +kernel
theorem dX8_maySend_13 : decode cX8_maySend 13 = .ok (.aload_n 0, 1) := by decide +kernel
theorem dX8_maySend_14 : decode cX8_maySend 14 = .ok (.getfield 9, 3) := by decide +kernel
theorem dX8_maySend_17 : decode cX8_maySend 17 = .ok (.bipush 120, 2) := by decide +kernel
theorem dX8_maySend_19 : decode cX8_maySend 19 = .ok (.iaload, 1) := by decide +kernel
theorem dX8_maySend_20 : decode cX8_maySend 20 = .ok (.if_icmp .ge 7, 3) := by decide +kernel
theorem dX8_maySend_23 : decode cX8_maySend 23 = .ok (.iconst 1, 1) := by decide +kernel
theorem dX8_maySend_24 : decode cX8_maySend 24 = .ok (.goto 4, 3) := by decide +kernel
theorem dX8_maySend_27 : decode cX8_maySend 27 = .ok (.iconst 0, 1) := by decide +kernel
theorem dX8_maySend_28 : decode cX8_maySend 28 = .ok (.ireturn, 1) := by decide +kernel
set_option maxHeartbeats 400000 in
theorem c8_maySend {G : Gl} {l : Launch}  {M : Mem} {h c : Nat} {x w : Int} (hG : GR M) (hS : SH h c) (hB : SB (M c)) (hx0 : 0 ≤ x) (hx1 : x < 5) (hw0 : 0 ≤ w) (hw1 : w < 6) : Ct G LY 57 l 2 m8_maySend [vR h, vI x, vI w] M (Ret (vI (bP (maySend (M c) x w))) M) := by
  refine R_start (by decide +kernel) (Nat.le_of_ble_eq_true rfl) (fun C hC hRm hlau => ?_)
  show RZ G LY C (Zn G LY 57 C (Ret (vI (bP (maySend (M c) x w))) M)) 0 0 57 0 [some (vR h), some (vI x), some (vI w)] [] M
  refine R_aload_0 hC dX8_maySend_0 ?_
  refine R_iload_1 hC dX8_maySend_1 ?_
  refine R_iload_2 hC dX8_maySend_2 ?_
  refine R_callVq (as := [vI _, vI _]) hC dX8_maySend_3 mo_8_offerOf ml_8_60 hS.l hS.k rfl (c8_offerOf  hG hS hB (by omega) (by omega) (by omega) (by omega)) rfl rfl hRm (by decide) (by decide) (Nat.le_of_ble_eq_true rfl) ?_
  have e3_1 := offr_bd (x := x) (w := w) hB (by omega) (by omega) (by omega) (by omega)
  refine R_if_le hC dX8_maySend_6 (tgt := 27) (by decide) (fun hb6 => ?_) (fun hb6 => ?_)
  · skip
    refine R_iconst hC dX8_maySend_27 ⟨by decide, by decide⟩ ?_
    exact R_zreturn hC dX8_maySend_28 rfl (.inl rfl) (ret_f (by unfold maySend; omega))
  · skip
    refine R_aload_0 hC dX8_maySend_9 ?_
    refine R_callVq (as := []) hC dX8_maySend_10 mo_8_copiesStored ml_8_69 hS.l hS.k rfl (c8_copiesStored  hG hS hB) rfl rfl hRm (by decide) (by decide) (Nat.le_of_ble_eq_true rfl) ?_
    have e10_2 := stor_bd hB
    refine R_aload_0 hC dX8_maySend_13 ?_
    refine R_getR hC dX8_maySend_14 fl_8_9 hS.l hS.k (by decide) (by decide) (fi := 0) rfl (r := c) (hS.r hG) ?_
    refine R_bipush hC dX8_maySend_17 (by decide +kernel) ⟨by decide, by decide⟩ ?_
    refine R_iaload hC dX8_maySend_19 hS.m hS.a (by omega) (by omega) ?_
    have b19 := hB.1 120 (by omega) (by omega)
    refine R_icmp_ge hC dX8_maySend_20 (tgt := 27) (by decide) (fun hb20 => ?_) (fun hb20 => ?_)
    · skip
      refine R_iconst hC dX8_maySend_27 ⟨by decide, by decide⟩ ?_
      exact R_zreturn hC dX8_maySend_28 rfl (.inl rfl) (ret_f (by unfold maySend; omega))
    · skip
      refine R_iconst hC dX8_maySend_23 ⟨by decide, by decide⟩ ?_
      refine R_goto hC dX8_maySend_24 (tgt := 28) (by decide) ?_
      exact R_zreturn hC dX8_maySend_28 rfl (.inr rfl) (ret_t (by unfold maySend; omega))
theorem c8_maySend_d {G : Gl} {l : Launch} {M : Mem} {h c : Nat} {x w : Int} {d : Int → Int} (hMd : M c = d) (hG : GR M) (hS : SH h c) (hB : SB (d)) (hx0 : 0 ≤ x) (hx1 : x < 5) (hw0 : 0 ≤ w) (hw1 : w < 6) : Ct G LY 57 l 2 m8_maySend [vR h, vI x, vI w] M (Ret (vI (bP (maySend (d) x w))) M) := by
  subst hMd
  exact c8_maySend hG hS hB hx0 hx1 hw0 hw1
