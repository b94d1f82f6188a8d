theorem dX6_load_0 : decode cX6_load 0 = .ok (.aload_n 0, 1) := by decide +kernel
theorem dX6_load_1 : decode cX6_load 1 = .ok (.aload_n 1, 1) := by decide +kernel
theorem dX6_load_2 : decode cX6_load 2 = .ok (.invokevirtual 49, 3) := by decide +kernel
theorem dX6_load_5 : decode cX6_load 5 = .ok (.iconst 5, 1) := by decide +kernel
theorem dX6_load_6 : decode cX6_load 6 = .ok (.invokestatic 55, 3) := by decide +kernel
theorem dX6_load_9 : decode cX6_load 9 = .ok (.putfield 61, 3) := by decide +kernel
theorem dX6_load_12 : decode cX6_load 12 = .ok (.aload_n 0, 1) := by decide +kernel
theorem dX6_load_13 : decode cX6_load 13 = .ok (.aload_n 1, 1) := by decide +kernel
theorem dX6_load_14 : decode cX6_load 14 = .ok (.invokevirtual 63, 3) := by decide +kernel
theorem dX6_load_17 : decode cX6_load 17 = .ok (.bipush 6, 2) := by decide +kernel
theorem dX6_load_19 : decode cX6_load 19 = .ok (.invokestatic 55, 3) := by decide +kernel
theorem dX6_load_22 : decode cX6_load 22 = .ok (.putfield 66, 3) := by decide +kernel
theorem dX6_load_25 : decode cX6_load 25 = .ok (.aload_n 0, 1) := by decide +kernel
theorem dX6_load_26 : decode cX6_load 26 = .ok (.iconst 1, 1) := by decide +kernel
theorem dX6_load_27 : decode cX6_load 27 = .ok (.aload_n 0, 1) := by decide +kernel
theorem dX6_load_28 : decode cX6_load 28 = .ok (.getfield 61, 3) := by decide +kernel
theorem dX6_load_31 : decode cX6_load 31 = .ok (.ishl, 1) := by decide +kernel
theorem dX6_load_32 : decode cX6_load 32 = .ok (.putfield 45, 3) := by decide +kernel
theorem dX6_load_35 : decode cX6_load 35 = .ok (.iconst 0, 1) := by decide +kernel
theorem dX6_load_36 : decode cX6_load 36 = .ok (.istore_n 2, 1) := by decide +kernel
theorem dX6_load_37 : decode cX6_load 37 = .ok (.iload_n 2, 1) := by decide +kernel
theorem dX6_load_38 : decode cX6_load 38 = .ok (.aload_n 0, 1) := by decide +kernel
theorem dX6_load_39 : decode cX6_load 39 = .ok (.getfield 61, 3) := by decide +kernel
theorem dX6_load_42 : decode cX6_load 42 = .ok (.if_icmp .ge 73, 3) := by decide +kernel
theorem dX6_load_45 : decode cX6_load 45 = .ok (.aload_n 0, 1) := by decide +kernel
theorem dX6_load_46 : decode cX6_load 46 = .ok (.getfield 18, 3) := by decide +kernel
theorem dX6_load_49 : decode cX6_load 49 = .ok (.iload_n 2, 1) := by decide +kernel
theorem dX6_load_50 : decode cX6_load 50 = .ok (.aload_n 1, 1) := by decide +kernel
theorem dX6_load_51 : decode cX6_load 51 = .ok (.iload_n 2, 1) := by decide +kernel
theorem dX6_load_52 : decode cX6_load 52 = .ok (.invokevirtual 68, 3) := by decide +kernel
theorem dX6_load_55 : decode cX6_load 55 = .ok (.iastore, 1) := by decide +kernel
theorem dX6_load_56 : decode cX6_load 56 = .ok (.aload_n 0, 1) := by decide +kernel
theorem dX6_load_57 : decode cX6_load 57 = .ok (.getfield 21, 3) := by decide +kernel
theorem dX6_load_60 : decode cX6_load 60 = .ok (.iload_n 2, 1) := by decide +kernel
theorem dX6_load_61 : decode cX6_load 61 = .ok (.aload_n 0, 1) := by decide +kernel
theorem dX6_load_62 : decode cX6_load 62 = .ok (.getfield 18, 3) := by decide +kernel
theorem dX6_load_65 : decode cX6_load 65 = .ok (.iload_n 2, 1) := by decide +kernel
theorem dX6_load_66 : decode cX6_load 66 = .ok (.iaload, 1) := by decide +kernel
theorem dX6_load_67 : decode cX6_load 67 = .ok (.aload_n 1, 1) := by decide +kernel
theorem dX6_load_68 : decode cX6_load 68 = .ok (.iload_n 2, 1) := by decide +kernel
theorem dX6_load_69 : decode cX6_load 69 = .ok (.invokevirtual 72, 3) := by decide +kernel
theorem dX6_load_72 : decode cX6_load 72 = .ok (.invokestatic 75, 3) := by decide +kernel
theorem dX6_load_75 : decode cX6_load 75 = .ok (.iastore, 1) := by decide +kernel
theorem dX6_load_76 : decode cX6_load 76 = .ok (.iconst 0, 1) := by decide +kernel
theorem dX6_load_77 : decode cX6_load 77 = .ok (.istore_n 3, 1) := by decide +kernel
theorem dX6_load_78 : decode cX6_load 78 = .ok (.iload_n 3, 1) := by decide +kernel
theorem dX6_load_79 : decode cX6_load 79 = .ok (.aload_n 0, 1) := by decide +kernel
theorem dX6_load_80 : decode cX6_load 80 = .ok (.getfield 66, 3) := by decide +kernel
theorem dX6_load_83 : decode cX6_load 83 = .ok (.if_icmp .ge 26, 3) := by decide +kernel
theorem dX6_load_86 : decode cX6_load 86 = .ok (.aload_n 0, 1) := by decide +kernel
theorem dX6_load_87 : decode cX6_load 87 = .ok (.getfield 9, 3) := by decide +kernel
theorem dX6_load_90 : decode cX6_load 90 = .ok (.iload_n 2, 1) := by decide +kernel
theorem dX6_load_91 : decode cX6_load 91 = .ok (.bipush 6, 2) := by decide +kernel
theorem dX6_load_93 : decode cX6_load 93 = .ok (.imul, 1) := by decide +kernel
theorem dX6_load_94 : decode cX6_load 94 = .ok (.iload_n 3, 1) := by decide +kernel
theorem dX6_load_95 : decode cX6_load 95 = .ok (.iadd, 1) := by decide +kernel
theorem dX6_load_96 : decode cX6_load 96 = .ok (.aload_n 1, 1) := by decide +kernel
theorem dX6_load_97 : decode cX6_load 97 = .ok (.iload_n 2, 1) := by decide +kernel
theorem dX6_load_98 : decode cX6_load 98 = .ok (.iload_n 3, 1) := by decide +kernel
theorem dX6_load_99 : decode cX6_load 99 = .ok (.invokevirtual 78, 3) := by decide +kernel
theorem dX6_load_102 : decode cX6_load 102 = .ok (.iastore, 1) := by decide +kernel
theorem dX6_load_103 : decode cX6_load 103 = .ok (.iinc 3 1, 3) := by decide +kernel
theorem dX6_load_106 : decode cX6_load 106 = .ok (.goto (-28), 3) := by decide +kernel
theorem dX6_load_109 : decode cX6_load 109 = .ok (.iinc 2 1, 3) := by decide +kernel
theorem dX6_load_112 : decode cX6_load 112 = .ok (.goto (-75), 3) := by decide +kernel
theorem dX6_load_115 : decode cX6_load 115 = .ok (.aload_n 0, 1) := by decide +kernel
theorem dX6_load_116 : decode cX6_load 116 = .ok (.invokevirtual 81, 3) := by decide +kernel
theorem dX6_load_119 : decode cX6_load 119 = .ok (.iconst 0, 1) := by decide +kernel
theorem dX6_load_120 : decode cX6_load 120 = .ok (.istore_n 2, 1) := by decide +kernel
theorem dX6_load_121 : decode cX6_load 121 = .ok (.iload_n 2, 1) := by decide +kernel
theorem dX6_load_122 : decode cX6_load 122 = .ok (.aload_n 0, 1) := by decide +kernel
theorem dX6_load_123 : decode cX6_load 123 = .ok (.getfield 66, 3) := by decide +kernel
theorem dX6_load_126 : decode cX6_load 126 = .ok (.if_icmp .ge 41, 3) := by decide +kernel
theorem dX6_load_129 : decode cX6_load 129 = .ok (.aload_n 0, 1) := by decide +kernel
theorem dX6_load_130 : decode cX6_load 130 = .ok (.getfield 24, 3) := by decide +kernel
theorem dX6_load_133 : decode cX6_load 133 = .ok (.iload_n 2, 1) := by decide +kernel
theorem dX6_load_134 : decode cX6_load 134 = .ok (.aload_n 1, 1) := by decide +kernel
theorem dX6_load_135 : decode cX6_load 135 = .ok (.iload_n 2, 1) := by decide +kernel
theorem dX6_load_136 : decode cX6_load 136 = .ok (.invokevirtual 84, 3) := by decide +kernel
theorem dX6_load_139 : decode cX6_load 139 = .ok (.iastore, 1) := by decide +kernel
theorem dX6_load_140 : decode cX6_load 140 = .ok (.aload_n 0, 1) := by decide +kernel
theorem dX6_load_141 : decode cX6_load 141 = .ok (.getfield 15, 3) := by decide +kernel
theorem dX6_load_144 : decode cX6_load 144 = .ok (.iload_n 2, 1) := by decide +kernel
theorem dX6_load_145 : decode cX6_load 145 = .ok (.aload_n 1, 1) := by decide +kernel
theorem dX6_load_146 : decode cX6_load 146 = .ok (.iload_n 2, 1) := by decide +kernel
theorem dX6_load_147 : decode cX6_load 147 = .ok (.invokevirtual 87, 3) := by decide +kernel
theorem dX6_load_150 : decode cX6_load 150 = .ok (.iastore, 1) := by decide +kernel
theorem dX6_load_151 : decode cX6_load 151 = .ok (.aload_n 0, 1) := by decide +kernel
theorem dX6_load_152 : decode cX6_load 152 = .ok (.iload_n 2, 1) := by decide +kernel
theorem dX6_load_153 : decode cX6_load 153 = .ok (.invokevirtual 90, 3) := by decide +kernel
theorem dX6_load_156 : decode cX6_load 156 = .ok (.aload_n 0, 1) := by decide +kernel
theorem dX6_load_157 : decode cX6_load 157 = .ok (.iload_n 2, 1) := by decide +kernel
theorem dX6_load_158 : decode cX6_load 158 = .ok (.invokevirtual 94, 3) := by decide +kernel
theorem dX6_load_161 : decode cX6_load 161 = .ok (.iinc 2 1, 3) := by decide +kernel
theorem dX6_load_164 : decode cX6_load 164 = .ok (.goto (-43), 3) := by decide +kernel
theorem dX6_load_167 : decode cX6_load 167 = .ok (.return_, 1) := by decide +kernel
set_option maxHeartbeats 2000000 in
theorem c6_load {G : Gl} {l : Launch}  {M : Mem} {h c : Nat} {d : Int → Int} (hG : GR M) (hS : SH h c) (hD : M c = d) (hB : SB d) : Ct G LY 57 l 2 m6_load [vR 24, vR h] M (RV (fun M' => Fr [25, 26, 27, 28, 29, 30, 31, 32, 33, 34] [(24, 11), (24, 12), (24, 13)] M M' ∧ SC M' (insOf d))) := by
  refine R_start (by decide +kernel) (Nat.le_of_ble_eq_true rfl) (fun C hC hRm hlau => ?_)
  show RZ G LY C (Zn G LY 57 C (RV (fun M' => Fr [25, 26, 27, 28, 29, 30, 31, 32, 33, 34] [(24, 11), (24, 12), (24, 13)] M M' ∧ SC M' (insOf d)))) 0 0 57 0 [some (vR 24), some (vR h), none, none] [] M
  have hL := hB.L
  have hW := hB.W
  refine R_aload_0 hC dX6_load_0 ?_
  refine R_aload_1 hC dX6_load_1 ?_
  refine R_callVq (as := []) hC dX6_load_2 mo_8_libraries ml_6_49 hS.l hS.k rfl (c8_libraries_d  hD hG hS) rfl rfl hRm (by decide) (by decide) (Nat.le_of_ble_eq_true rfl) ?_
  refine R_iconst hC dX6_load_5 ⟨by decide, by decide⟩ ?_
  refine R_min hC dX6_load_6 jl_6_55 hRm (by decide) (Nat.le_of_ble_eq_true rfl) ?_
  rw [show min (d 121) 5 = d 121 by omega]
  refine R_putI hC dX6_load_9 fl_6_61 (by decide) rfl (by decide) (by decide) (fi := 11) rfl ?_
  refine R_aload_0 hC dX6_load_12 ?_
  refine R_aload_1 hC dX6_load_13 ?_
  have hr1 : (uM M 24 11 (d 121)) c = d := ((uM_ne (by exact hS.ne (by decide))).trans hD)
  have hG2 : GR (uM M 24 11 (d 121)) := (GR.uF hG (by decide +kernel) (by decide))
  refine R_callVq (as := []) hC dX6_load_14 mo_8_works ml_6_63 hS.l hS.k rfl (c8_works_d  hr1 hG2 hS) rfl rfl hRm (by decide) (by decide) (Nat.le_of_ble_eq_true rfl) ?_
  refine R_bipush hC dX6_load_17 (by decide +kernel) ⟨by decide, by decide⟩ ?_
  refine R_min hC dX6_load_19 jl_6_55 hRm (by decide) (Nat.le_of_ble_eq_true rfl) ?_
  rw [show min (d 122) 6 = d 122 by omega]
  refine R_putI hC dX6_load_22 fl_6_66 (by decide) rfl (by decide) (by decide) (fi := 12) rfl ?_
  refine R_aload_0 hC dX6_load_25 ?_
  refine R_iconst hC dX6_load_26 ⟨by decide, by decide⟩ ?_
  refine R_aload_0 hC dX6_load_27 ?_
  refine R_getIE hC dX6_load_28 fl_6_61 (by decide) rfl (by decide) (by decide) (fi := 11) rfl ((uM_k (by decide)).trans uM_same) ?_
  refine R_shl1 hC dX6_load_31 (by omega) (by omega) ?_
  refine R_putI hC dX6_load_32 fl_6_45 (by decide) rfl (by decide) (by decide) (fi := 13) rfl ?_
  refine R_iconst hC dX6_load_35 ⟨by decide, by decide⟩ ?_
  refine R_istore_2 hC dX6_load_36 rfl ?_
  have L37 : ∀ (mq : Nat) (i : Int) (M1 : Mem), (0 ≤ i) → (i ≤ d 121) → (GR M1) → (Fr [25, 26, 27, 28, 29, 30, 31, 32, 33, 34] [(24, 11), (24, 12), (24, 13)] M M1) → (M1 24 11 = d 121) → (M1 24 12 = d 122) → (M1 24 13 = 2 ^ (d 121).toNat) → (M1 c = d) → (∀ x, 0 ≤ x → x < i → M1 27 x = nee d x ∧ M1 28 x = max (nee d x) (d (5 + x))) → (∀ x w, 0 ≤ x → x < i → 0 ≤ w → w < d 122 → M1 25 (x * 6 + w) = offr d x w) → (d 121 - i).toNat < mq → RZ G LY C (Zn G LY 57 C (RV (fun M' => Fr [25, 26, 27, 28, 29, 30, 31, 32, 33, 34] [(24, 11), (24, 12), (24, 13)] M M' ∧ SC M' (insOf d)))) 0 0 57 37 [some (vR 24), some (vR h), some (vI i), none] [] M1 := by
    intro mq
    induction mq with
    | zero =>
      intro i M1 hi0 hi1 hg hF h11 h12 h13 hr hA hO hm
      exact absurd hm (Nat.not_lt_zero _)
    | succ mq ih37 =>
      intro i M1 hi0 hi1 hg hF h11 h12 h13 hr hA hO hm37
      refine R_iload_2 hC dX6_load_37 ?_
      refine R_aload_0 hC dX6_load_38 ?_
      refine R_getI hC dX6_load_39 fl_6_61 (by decide) rfl (by decide) (by decide) (fi := 11) rfl ?_
      refine R_icmp_ge hC dX6_load_42 (tgt := 115) (by decide) (fun hb42 => ?_) (fun hb42 => ?_)
      · skip
        refine R_aload_0 hC dX6_load_115 ?_
        refine R_callVv (as := []) hC dX6_load_116 mo_6_sumNeeds ml_6_81 (by decide) rfl rfl (c6_sumNeeds  hg (by rw [h11]; omega) (fun x a b => by (rw [h11] at b; have q := hA x a (by omega); rw [q.1, q.2]; have b1 := nee_bd hB a (by omega); have b2 := hB.1 (5 + x) (by omega) (by omega); omega))) rfl rfl hRm (by decide) (by decide) (Nat.le_of_ble_eq_true rfl) (fun Mc3 hq4 => ?_)
        refine R_iconst hC dX6_load_119 ⟨by decide, by decide⟩ ?_
        refine R_istore_2 hC dX6_load_120 rfl ?_
        have L121 : ∀ (mq : Nat) (k : Int) (M5 : Mem), (0 ≤ k) → (k ≤ d 122) → (GR M5) → (Fr [25, 26, 27, 28, 29, 30, 31, 32, 33, 34] [(24, 11), (24, 12), (24, 13)] M M5) → (M5 24 11 = d 121) → (M5 24 12 = d 122) → (M5 24 13 = 2 ^ (d 121).toNat) → (M5 c = d) → (∀ x, 0 ≤ x → x < d 121 → M5 27 x = nee d x ∧ M5 28 x = max (nee d x) (d (5 + x))) → (∀ x w, 0 ≤ x → x < d 121 → 0 ≤ w → w < d 122 → M5 25 (x * 6 + w) = offr d x w) → (∀ t, 0 ≤ t → t < 2 ^ (d 121).toNat → M5 33 t = ss (nee d) t ∧ M5 34 t = ss (fun x => max (nee d x) (d (5 + x))) t) → (∀ w, 0 ≤ w → w < k → M5 26 w = spr d w ∧ M5 29 w = d (10 + w)) → (∀ w, 0 ≤ w → w < k → ∀ t, 0 ≤ t → t < 2 ^ (d 121).toNat → M5 31 (w * 32 + t) = ss (fun x => offr d x w) t ∧ M5 32 (w * 32 + t) = min (ss (fun x => offr d x w) t) (spr d w)) → (RK k (fun w => d (10 + w)) (M5 30)) → (d 122 - k).toNat < mq → RZ G LY C (Zn G LY 57 C (RV (fun M' => Fr [25, 26, 27, 28, 29, 30, 31, 32, 33, 34] [(24, 11), (24, 12), (24, 13)] M M' ∧ SC M' (insOf d)))) 0 0 57 121 [some (vR 24), some (vR h), some (vI k), none] [] M5 := by
          intro mq
          induction mq with
          | zero =>
            intro k M5 hk0 hk1 hg5 hF5 h115 h125 h135 hr5 hA5 hO5 hS5 hZ5 hC5 hR5 hm
            exact absurd hm (Nat.not_lt_zero _)
          | succ mq ih121 =>
            intro k M5 hk0 hk1 hg5 hF5 h115 h125 h135 hr5 hA5 hO5 hS5 hZ5 hC5 hR5 hm121
            refine R_iload_2 hC dX6_load_121 ?_
            refine R_aload_0 hC dX6_load_122 ?_
            refine R_getI hC dX6_load_123 fl_6_66 (by decide) rfl (by decide) (by decide) (fi := 12) rfl ?_
            refine R_icmp_ge hC dX6_load_126 (tgt := 167) (by decide) (fun hb126 => ?_) (fun hb126 => ?_)
            · skip
              have ek : k = d 122 := by omega
              exact R_return hC dX6_load_167 rfl (ret_V ⟨hF5, ⟨h115, h125, h135⟩, hA5, hO5, fun w a b => hZ5 w a (by show w < k; have : w < d 122 := b; omega), hS5, fun w a b => hC5 w a (by have : w < d 122 := b; omega), show RK (d 122) (fun w => d (10 + w)) (M5 30) from ek ▸ hR5⟩)
            · skip
              have bz := hB.1 (10 + k) (by omega) (by omega)
              have bs := spr_bd hB hk0 (by omega)
              refine R_aload_0 hC dX6_load_129 ?_
              refine R_getR hC dX6_load_130 fl_6_24 (by decide) rfl (by decide) (by decide) (fi := 4) rfl (r := 29) (gr_24_4 hg5) ?_
              refine R_iload_2 hC dX6_load_133 ?_
              refine R_aload_1 hC dX6_load_134 ?_
              refine R_iload_2 hC dX6_load_135 ?_
              refine R_callVq (as := [vI _]) hC dX6_load_136 mo_8_sizeOf ml_6_84 hS.l hS.k rfl (c8_sizeOf_d  hr5 hg5 hS (by omega) (by omega)) rfl rfl hRm (by decide) (by decide) (Nat.le_of_ble_eq_true rfl) ?_
              refine R_iastore hC dX6_load_139 (by decide) rfl (by omega) (by omega) ?_
              refine R_aload_0 hC dX6_load_140 ?_
              have hG5 : GR (uM M5 29 k (d (10 + k))) := (GR.uA hg5 (by decide +kernel) (.inl (by decide)))
              refine R_getR hC dX6_load_141 fl_6_15 (by decide) rfl (by decide) (by decide) (fi := 1) rfl (r := 26) (gr_24_1 hG5) ?_
              refine R_iload_2 hC dX6_load_144 ?_
              refine R_aload_1 hC dX6_load_145 ?_
              refine R_iload_2 hC dX6_load_146 ?_
              have hr6 : (uM M5 29 k (d (10 + k))) c = d := ((uM_ne (by exact hS.ne (by decide))).trans hr5)
              refine R_callVq (as := [vI _]) hC dX6_load_147 mo_8_spareOf ml_6_87 hS.l hS.k rfl (c8_spareOf_d  hr6 hG5 hS hB (by omega) (by omega)) rfl rfl hRm (by decide) (by decide) (Nat.le_of_ble_eq_true rfl) ?_
              have e147_7 := spr_bd (w := k) hB (by omega) (by omega)
              refine R_iastore hC dX6_load_150 (by decide) rfl (by omega) (by omega) ?_
              refine R_aload_0 hC dX6_load_151 ?_
              refine R_iload_2 hC dX6_load_152 ?_
              have hG8 : GR (uM (uM M5 29 k (d (10 + k))) 26 k (spr (d) k)) := (GR.uA hG5 (by decide +kernel) (.inl (by decide)))
              refine R_callVv (as := [vI _]) hC dX6_load_153 mo_6_sumOffers ml_6_90 (by decide) rfl rfl (c6_sumOffers  hG8 (by rw [uM_h (by decide), uM_h (by decide), h115]; exact hL) (fun x a b => by (rw [uM_h (by decide), uM_h (by decide), h115] at b; rw [uM_h (by decide), uM_h (by decide), hO5 x k a b hk0 (by omega)]; exact offr_bd hB a (by omega) hk0 (by omega))) (by rw [uM_same]; exact bs) (by omega) (by omega)) rfl rfl hRm (by decide) (by decide) (Nat.le_of_ble_eq_true rfl) (fun Mc9 hq10 => ?_)
              refine R_aload_0 hC dX6_load_156 ?_
              refine R_iload_2 hC dX6_load_157 ?_
              have hG11 : GR Mc9 := (GR.fr hG8 hq10.1 (by decide +kernel))
              refine R_callVv (as := [vI _]) hC dX6_load_158 mo_6_rank ml_6_94 (by decide) rfl rfl (c6_rank  hG11 (RK_congr hR5 (fun i _ _ => (hq10.1.at (by decide)).trans ((uM_h (by decide)).trans (uM_h (by decide)))) (fun i a b => (hq10.1.at (by decide)).trans ((uM_h (by decide)).trans ((uM_k (by omega)).trans (hZ5 i a b).2)))) (by omega) (by omega)) rfl rfl hRm (by decide) (by decide) (Nat.le_of_ble_eq_true rfl) (fun Mc12 hq13 => ?_)
              refine R_iinc_2 hC dX6_load_161 rfl ⟨by omega, by omega⟩ ?_
              refine R_goto hC dX6_load_164 (tgt := 121) (by decide) ?_
              have qf : ∀ h, h ≠ 30 → h ≠ 31 → h ≠ 32 → h ≠ 26 → h ≠ 29 → ∀ q, Mc12 h q = M5 h q := fun h a1 a2 a3 a4 a5 q => ((hq13.1.at (by simp; omega)).trans ((hq10.1.at (by simp; omega)).trans ((uM_h a4).trans (uM_h a5))))
              have q26 : ∀ q, Mc12 26 q = (uM (uM M5 29 k (d (10 + k))) 26 k (spr d k)) 26 q := fun q => (hq13.1.at (by decide)).trans (hq10.1.at (by decide))
              have q29 : ∀ q, Mc12 29 q = (uM M5 29 k (d (10 + k))) 29 q := fun q => (hq13.1.at (by decide)).trans ((hq10.1.at (by decide)).trans (uM_h (by decide)))
              have hZ6 : ∀ w, 0 ≤ w → w < k + 1 → Mc12 26 w = spr d w ∧ Mc12 29 w = d (10 + w) := fun w a b => by (rw [q26, q29]; by_cases q : w = k; (rw [uM_at q, uM_at q, q]; exact ⟨rfl, rfl⟩); rw [uM_k q, uM_k q, uM_h (by decide)]; exact hZ5 w a (by omega))
              have hR6 : RK (k + 1) (fun w => d (10 + w)) (Mc12 30) := RK_congr hq13.2 (fun _ _ _ => rfl) (fun w a b => by rw [← (hZ6 w a b).2, q29]; exact ((hq10.1.at (by decide)).trans (uM_h (by decide))).symm)
              have hC6 : ∀ w, 0 ≤ w → w < k + 1 → ∀ t, 0 ≤ t → t < 2 ^ (d 121).toNat → Mc12 31 (w * 32 + t) = ss (fun x => offr d x w) t ∧ Mc12 32 (w * 32 + t) = min (ss (fun x => offr d x w) t) (spr d w) := by
                                intro w a b t t0 t1
                                have hp5 := pw_le6 hL.1 hL.2
                                rw [hq13.1.at (h := 31) (by decide), hq13.1.at (h := 32) (by decide)]
                                by_cases q : w = k
                                · subst q
                                  have z := hq10.2.1 t t0 (by rw [uM_h (by decide), uM_h (by decide), h115]; exact t1)
                                  have zc : ss (fun x => (uM (uM M5 29 w (d (10 + w))) 26 w (spr d w)) 25 (x * 6 + w)) t = ss (fun x => offr d x w) t := ss_congr hL.1 hL.2 t0 t1 (fun x x0 x1 => by rw [uM_h (by decide), uM_h (by decide)]; exact hO5 x w x0 x1 a (by omega))
                                  rw [zc, uM_same] at z
                                  exact z
                                · have z := hq10.2.2 (w * 32 + t) (by omega)
                                  rw [z.1, z.2, uM_h (by decide), uM_h (by decide), uM_h (by decide), uM_h (by decide)]
                                  exact hC5 w a (by omega) t t0 t1
              have hG14 : GR Mc12 := (GR.fr hG11 hq13.1 (by decide +kernel))
              have hr15 : Mc12 c = d := ((hq13.1.row (hS.nin (by decide)) (hS.nB (by decide))).trans ((hq10.1.row (hS.nin (by decide)) (hS.nB (by decide))).trans ((uM_ne (by exact hS.ne (by decide))).trans hr6)))
              exact ih121 _ _ (by omega) (by omega) hG14 (Fr.tr (Fr.tr (Fr.uA (Fr.uA hF5 (by decide)) (by decide)) hq10.1 (fun x h => h) (by decide) (fun x h => h) (by decide)) hq13.1 (fun x h => h) (by decide) (fun x h => h) (by decide)) (qf 24 (by decide) (by decide) (by decide) (by decide) (by decide) 11 ▸ h115) (qf 24 (by decide) (by decide) (by decide) (by decide) (by decide) 12 ▸ h125) (qf 24 (by decide) (by decide) (by decide) (by decide) (by decide) 13 ▸ h135) hr15 (fun x a b => by rw [qf 27 (by decide) (by decide) (by decide) (by decide) (by decide) x, qf 28 (by decide) (by decide) (by decide) (by decide) (by decide) x]; exact hA5 x a b) (fun x w a b e f => by rw [qf 25 (by decide) (by decide) (by decide) (by decide) (by decide)]; exact hO5 x w a b e f) (fun t a b => by rw [qf 33 (by decide) (by decide) (by decide) (by decide) (by decide) t, qf 34 (by decide) (by decide) (by decide) (by decide) (by decide) t]; exact hS5 t a b) (fun w a b => hZ6 w a (by omega)) hC6 hR6 (by omega)
        have e_i : i = d 121 := by omega
        have hFn := hq4.1
        have hG16 : GR Mc3 := (GR.fr hg hq4.1 (by decide +kernel))
        have hr17 : Mc3 c = d := ((hq4.1.row (hS.nin (by decide)) (hS.nB (by decide))).trans hr)
        exact L121 _ _ _ (by omega) (by omega) hG16 (Fr.tr hF hq4.1 (by decide) (by decide) (by decide) (by decide)) ((hq4.1.at (by decide)).trans h11) ((hq4.1.at (by decide)).trans h12) ((hq4.1.at (by decide)).trans h13) hr17 (fun x a b => by rw [hq4.1.row (by decide) (by decide), hq4.1.row (h := 28) (by decide) (by decide)]; exact hA x a (by omega)) (fun x w a b e f => by rw [hq4.1.row (by decide) (by decide)]; exact hO x w a (by omega) e f) (fun t a b => by have q := hq4.2 t a (by rw [h11]; exact b); exact ⟨q.1.trans (ss_congr hL.1 hL.2 a b (fun x x0 x1 => (hA x x0 (by omega)).1)), q.2.trans (ss_congr hL.1 hL.2 a b (fun x x0 x1 => (hA x x0 (by omega)).2))⟩) (fun w a b => by omega) (fun w a b => by omega) (RK_0 _ _) (Nat.lt_succ_self _)
      · skip
        have bn := nee_bd hB hi0 (by omega)
        have bw := hB.1 (5 + i) (by omega) (by omega)
        refine R_aload_0 hC dX6_load_45 ?_
        refine R_getR hC dX6_load_46 fl_6_18 (by decide) rfl (by decide) (by decide) (fi := 2) rfl (r := 27) (gr_24_2 hg) ?_
        refine R_iload_2 hC dX6_load_49 ?_
        refine R_aload_1 hC dX6_load_50 ?_
        refine R_iload_2 hC dX6_load_51 ?_
        refine R_callVq (as := [vI _]) hC dX6_load_52 mo_8_needOf ml_6_68 hS.l hS.k rfl (c8_needOf_d  hr hg hS hB (by omega) (by omega)) rfl rfl hRm (by decide) (by decide) (Nat.le_of_ble_eq_true rfl) ?_
        have e52_18 := nee_bd (x := i) hB (by omega) (by omega)
        refine R_iastore hC dX6_load_55 (by decide) rfl (by omega) (by omega) ?_
        refine R_aload_0 hC dX6_load_56 ?_
        have hG19 : GR (uM M1 27 i (nee (d) i)) := (GR.uA hg (by decide +kernel) (.inl (by decide)))
        refine R_getR hC dX6_load_57 fl_6_21 (by decide) rfl (by decide) (by decide) (fi := 3) rfl (r := 28) (gr_24_3 hG19) ?_
        refine R_iload_2 hC dX6_load_60 ?_
        refine R_aload_0 hC dX6_load_61 ?_
        refine R_getR hC dX6_load_62 fl_6_18 (by decide) rfl (by decide) (by decide) (fi := 2) rfl (r := 27) (gr_24_2 hG19) ?_
        refine R_iload_2 hC dX6_load_65 ?_
        refine R_ialoadE hC dX6_load_66 (by decide) rfl (by omega) (by omega) uM_same ?_
        refine R_aload_1 hC dX6_load_67 ?_
        refine R_iload_2 hC dX6_load_68 ?_
        have hr20 : (uM M1 27 i (nee (d) i)) c = d := ((uM_ne (by exact hS.ne (by decide))).trans hr)
        refine R_callVq (as := [vI _]) hC dX6_load_69 mo_8_wishOf ml_6_72 hS.l hS.k rfl (c8_wishOf_d  hr20 hG19 hS (by omega) (by omega)) rfl rfl hRm (by decide) (by decide) (Nat.le_of_ble_eq_true rfl) ?_
        refine R_max hC dX6_load_72 jl_6_75 hRm (by decide) (Nat.le_of_ble_eq_true rfl) ?_
        refine R_iastore hC dX6_load_75 (by decide) rfl (by omega) (by omega) ?_
        refine R_iconst hC dX6_load_76 ⟨by decide, by decide⟩ ?_
        refine R_istore_3 hC dX6_load_77 rfl ?_
        have L78 : ∀ (mq : Nat) (j : Int) (M2 : Mem), (0 ≤ j) → (j ≤ d 122) → (GR M2) → (Fr [25, 26, 27, 28, 29, 30, 31, 32, 33, 34] [(24, 11), (24, 12), (24, 13)] M M2) → (M2 24 11 = d 121) → (M2 24 12 = d 122) → (M2 24 13 = 2 ^ (d 121).toNat) → (M2 c = d) → (∀ x, 0 ≤ x → x < i + 1 → M2 27 x = nee d x ∧ M2 28 x = max (nee d x) (d (5 + x))) → (∀ x w, 0 ≤ x → x < i → 0 ≤ w → w < d 122 → M2 25 (x * 6 + w) = offr d x w) → (∀ w, 0 ≤ w → w < j → M2 25 (i * 6 + w) = offr d i w) → (d 122 - j).toNat < mq → RZ G LY C (Zn G LY 57 C (RV (fun M' => Fr [25, 26, 27, 28, 29, 30, 31, 32, 33, 34] [(24, 11), (24, 12), (24, 13)] M M' ∧ SC M' (insOf d)))) 0 0 57 78 [some (vR 24), some (vR h), some (vI i), some (vI j)] [] M2 := by
          intro mq
          induction mq with
          | zero =>
            intro j M2 hj0 hj1 hg2 hF2 h112 h122 h132 hr2 hA2 hO2 hO3 hm
            exact absurd hm (Nat.not_lt_zero _)
          | succ mq ih78 =>
            intro j M2 hj0 hj1 hg2 hF2 h112 h122 h132 hr2 hA2 hO2 hO3 hm78
            refine R_iload_3 hC dX6_load_78 ?_
            refine R_aload_0 hC dX6_load_79 ?_
            refine R_getI hC dX6_load_80 fl_6_66 (by decide) rfl (by decide) (by decide) (fi := 12) rfl ?_
            refine R_icmp_ge hC dX6_load_83 (tgt := 109) (by decide) (fun hb83 => ?_) (fun hb83 => ?_)
            · skip
              refine R_iinc_2 hC dX6_load_109 rfl ⟨by omega, by omega⟩ ?_
              refine R_goto hC dX6_load_112 (tgt := 37) (by decide) ?_
              refine R_weak (subL_c (subL_c (subL_c (subL_d subL_n)))) ?_
              exact ih37 _ _ (by omega) (by omega) hg2 hF2 h112 h122 h132 hr2 (fun x a b => hA2 x a (by omega)) (fun x w a b e f => by (by_cases q : x = i; (subst q; exact hO3 w e (by omega)); exact hO2 x w a (by omega) e f)) (by omega)
            · skip
              have bo := offr_bd hB hi0 (by omega) hj0 (by omega)
              refine R_aload_0 hC dX6_load_86 ?_
              refine R_getR hC dX6_load_87 fl_6_9 (by decide) rfl (by decide) (by decide) (fi := 0) rfl (r := 25) (gr_24_0 hg2) ?_
              refine R_iload_2 hC dX6_load_90 ?_
              refine R_bipush hC dX6_load_91 (by decide +kernel) ⟨by decide, by decide⟩ ?_
              refine R_imul hC dX6_load_93 ⟨by omega, by omega⟩ ?_
              refine R_iload_3 hC dX6_load_94 ?_
              refine R_iadd hC dX6_load_95 ⟨by omega, by omega⟩ ?_
              refine R_aload_1 hC dX6_load_96 ?_
              refine R_iload_2 hC dX6_load_97 ?_
              refine R_iload_3 hC dX6_load_98 ?_
              refine R_callVq (as := [vI _, vI _]) hC dX6_load_99 mo_8_offerOf ml_6_78 hS.l hS.k rfl (c8_offerOf_d  hr2 hg2 hS hB (by omega) (by omega) (by omega) (by omega)) rfl rfl hRm (by decide) (by decide) (Nat.le_of_ble_eq_true rfl) ?_
              have e99_21 := offr_bd (x := i) (w := j) hB (by omega) (by omega) (by omega) (by omega)
              refine R_iastore hC dX6_load_102 (by decide) rfl (by omega) (by omega) ?_
              refine R_iinc_3 hC dX6_load_103 rfl ⟨by omega, by omega⟩ ?_
              refine R_goto hC dX6_load_106 (tgt := 78) (by decide) ?_
              have hG22 : GR (uM M2 25 ((i * 6) + j) (offr (d) i j)) := (GR.uA hg2 (by decide +kernel) (.inl (by decide)))
              have hr23 : (uM M2 25 ((i * 6) + j) (offr (d) i j)) c = d := ((uM_ne (by exact hS.ne (by decide))).trans hr2)
              exact ih78 _ _ (by omega) (by omega) hG22 (Fr.uA hF2 (by decide)) ((uM_h (by decide)).trans h112) ((uM_h (by decide)).trans h122) ((uM_h (by decide)).trans h132) hr23 (fun x a b => by rw [uM_h (by decide), uM_h (by decide)]; exact hA2 x a b) (fun x w a b e f => by rw [uM_k (by omega)]; exact hO2 x w a b e f) (fun w a b => by (by_cases q : w = j; (rw [uM_at (by omega), q]); rw [uM_k (by omega)]; exact hO3 w a (by omega))) (by omega)
        have hG24 : GR (uM (uM M1 27 i (nee (d) i)) 28 i (max (nee (d) i) (d (5 + i)))) := (GR.uA hG19 (by decide +kernel) (.inl (by decide)))
        have hr25 : (uM (uM M1 27 i (nee (d) i)) 28 i (max (nee (d) i) (d (5 + i)))) c = d := ((uM_ne (by exact hS.ne (by decide))).trans hr20)
        exact L78 _ _ _ (by omega) (by omega) hG24 (Fr.uA (Fr.uA hF (by decide)) (by decide)) ((uM_h (by decide)).trans ((uM_h (by decide)).trans h11)) ((uM_h (by decide)).trans ((uM_h (by decide)).trans h12)) ((uM_h (by decide)).trans ((uM_h (by decide)).trans h13)) hr25 (fun x a b => by (rw [uM_h (by decide)]; by_cases q : x = i; (rw [uM_at q, uM_at q, q]; exact ⟨rfl, rfl⟩); rw [uM_k q, uM_k q, uM_h (by decide)]; exact hA x a (by omega))) (fun x w a b e f => by rw [uM_h (by decide), uM_h (by decide)]; exact hO x w a b e f) (fun w a b => by omega) (Nat.lt_succ_self _)
  have hG26 : GR (uM (uM (uM M 24 11 (d 121)) 24 12 (d 122)) 24 13 ((2 : Int) ^ (d 121).toNat)) := (GR.uF (GR.uF hG2 (by decide +kernel) (by decide)) (by decide +kernel) (by decide))
  have hr27 : (uM (uM (uM M 24 11 (d 121)) 24 12 (d 122)) 24 13 ((2 : Int) ^ (d 121).toNat)) c = d := ((uM_ne (by exact hS.ne (by decide))).trans ((uM_ne (by exact hS.ne (by decide))).trans hr1))
  exact L37 _ _ _ (by omega) (by omega) hG26 (Fr.uB (Fr.uB (Fr.uB Fr.rf (by decide)) (by decide)) (by decide)) ((uM_k (by decide)).trans ((uM_k (by decide)).trans uM_same)) ((uM_k (by decide)).trans uM_same) uM_same hr27 (fun x a b => by omega) (fun x w a b => by omega) (Nat.lt_succ_self _)
