/-! the model's reader: the next word -/
theorem dX12_go_0 : decode cX12_go 0 = .ok (.aload_n 0, 1) := by decide +kernel
theorem dX12_go_1 : decode cX12_go 1 = .ok (.getfield 207, 3) := by decide +kernel
theorem dX12_go_4 : decode cX12_go 4 = .ok (.aload_n 0, 1) := by decide +kernel
theorem dX12_go_5 : decode cX12_go 5 = .ok (.getfield 197, 3) := by decide +kernel
theorem dX12_go_8 : decode cX12_go 8 = .ok (.if_icmp .ge 42, 3) := by decide +kernel
theorem dX12_go_11 : decode cX12_go 11 = .ok (.aload_n 0, 1) := by decide +kernel
theorem dX12_go_12 : decode cX12_go 12 = .ok (.aload_n 0, 1) := by decide +kernel
theorem dX12_go_13 : decode cX12_go 13 = .ok (.getfield 207, 3) := by decide +kernel
theorem dX12_go_16 : decode cX12_go 16 = .ok (.invokevirtual 204, 3) := by decide +kernel
theorem dX12_go_19 : decode cX12_go 19 = .ok (.bipush 32, 2) := by decide +kernel
theorem dX12_go_21 : decode cX12_go 21 = .ok (.if_icmp .eq 16, 3) := by decide +kernel
theorem dX12_go_24 : decode cX12_go 24 = .ok (.aload_n 0, 1) := by decide +kernel
theorem dX12_go_25 : decode cX12_go 25 = .ok (.aload_n 0, 1) := by decide +kernel
theorem dX12_go_26 : decode cX12_go 26 = .ok (.getfield 207, 3) := by decide +kernel
theorem dX12_go_29 : decode cX12_go 29 = .ok (.invokevirtual 204, 3) := by decide +kernel
theorem dX12_go_32 : decode cX12_go 32 = .ok (.bipush 10, 2) := by decide +kernel
theorem dX12_go_34 : decode cX12_go 34 = .ok (.if_icmp .ne 16, 3) := by decide +kernel
theorem dX12_go_37 : decode cX12_go 37 = .ok (.aload_n 0, 1) := by decide +kernel
theorem dX12_go_38 : decode cX12_go 38 = .ok (.dup, 1) := by decide +kernel
theorem dX12_go_39 : decode cX12_go 39 = .ok (.getfield 207, 3) := by decide +kernel
theorem dX12_go_42 : decode cX12_go 42 = .ok (.iconst 1, 1) := by decide +kernel
theorem dX12_go_43 : decode cX12_go 43 = .ok (.iadd, 1) := by decide +kernel
theorem dX12_go_44 : decode cX12_go 44 = .ok (.putfield 207, 3) := by decide +kernel
theorem dX12_go_47 : decode cX12_go 47 = .ok (.goto (-47), 3) := by decide +kernel
theorem dX12_go_50 : decode cX12_go 50 = .ok (.aload_n 0, 1) := by decide +kernel
theorem dX12_go_51 : decode cX12_go 51 = .ok (.aload_n 0, 1) := by decide +kernel
theorem dX12_go_52 : decode cX12_go 52 = .ok (.getfield 207, 3) := by decide +kernel
theorem dX12_go_55 : decode cX12_go 55 = .ok (.putfield 210, 3) := by decide +kernel
theorem dX12_go_58 : decode cX12_go 58 = .ok (.aload_n 0, 1) := by decide +kernel
theorem dX12_go_59 : decode cX12_go 59 = .ok (.aload_n 0, 1) := by decide +kernel
theorem dX12_go_60 : decode cX12_go 60 = .ok (.getfield 207, 3) := by decide +kernel
theorem dX12_go_63 : decode cX12_go 63 = .ok (.invokevirtual 204, 3) := by decide +kernel
theorem dX12_go_66 : decode cX12_go 66 = .ok (.istore_n 1, 1) := by decide +kernel
theorem dX12_go_67 : decode cX12_go 67 = .ok (.aload_n 0, 1) := by decide +kernel
theorem dX12_go_68 : decode cX12_go 68 = .ok (.iconst (-1), 1) := by decide +kernel
theorem dX12_go_69 : decode cX12_go 69 = .ok (.putfield 213, 3) := by decide +kernel
theorem dX12_go_72 : decode cX12_go 72 = .ok (.aload_n 0, 1) := by decide +kernel
theorem dX12_go_73 : decode cX12_go 73 = .ok (.iconst 0, 1) := by decide +kernel
theorem dX12_go_74 : decode cX12_go 74 = .ok (.putfield 216, 3) := by decide +kernel
theorem dX12_go_77 : decode cX12_go 77 = .ok (.aload_n 0, 1) := by decide +kernel
theorem dX12_go_78 : decode cX12_go 78 = .ok (.getfield 207, 3) := by decide +kernel
theorem dX12_go_81 : decode cX12_go 81 = .ok (.aload_n 0, 1) := by decide +kernel
theorem dX12_go_82 : decode cX12_go 82 = .ok (.getfield 197, 3) := by decide +kernel
theorem dX12_go_85 : decode cX12_go 85 = .ok (.if_icmp .lt 11, 3) := by decide +kernel
theorem dX12_go_88 : decode cX12_go 88 = .ok (.aload_n 0, 1) := by decide +kernel
theorem dX12_go_89 : decode cX12_go 89 = .ok (.iconst 0, 1) := by decide +kernel
theorem dX12_go_90 : decode cX12_go 90 = .ok (.putfield 219, 3) := by decide +kernel
theorem dX12_go_93 : decode cX12_go 93 = .ok (.goto 187, 3) := by decide +kernel
theorem dX12_go_96 : decode cX12_go 96 = .ok (.iload_n 1, 1) := by decide +kernel
theorem dX12_go_97 : decode cX12_go 97 = .ok (.invokestatic 222, 3) := by decide +kernel
theorem dX12_go_100 : decode cX12_go 100 = .ok (.ifCond .eq 54, 3) := by decide +kernel
theorem dX12_go_103 : decode cX12_go 103 = .ok (.aload_n 0, 1) := by decide +kernel
theorem dX12_go_104 : decode cX12_go 104 = .ok (.aload_n 0, 1) := by decide +kernel
theorem dX12_go_105 : decode cX12_go 105 = .ok (.getfield 207, 3) := by decide +kernel
theorem dX12_go_108 : decode cX12_go 108 = .ok (.invokevirtual 204, 3) := by decide +kernel
theorem dX12_go_111 : decode cX12_go 111 = .ok (.invokestatic 222, 3) := by decide +kernel
theorem dX12_go_114 : decode cX12_go 114 = .ok (.ifCond .eq 16, 3) := by decide +kernel
theorem dX12_go_117 : decode cX12_go 117 = .ok (.aload_n 0, 1) := by decide +kernel
theorem dX12_go_118 : decode cX12_go 118 = .ok (.dup, 1) := by decide +kernel
theorem dX12_go_119 : decode cX12_go 119 = .ok (.getfield 207, 3) := by decide +kernel
theorem dX12_go_122 : decode cX12_go 122 = .ok (.iconst 1, 1) := by decide +kernel
theorem dX12_go_123 : decode cX12_go 123 = .ok (.iadd, 1) := by decide +kernel
theorem dX12_go_124 : decode cX12_go 124 = .ok (.putfield 207, 3) := by decide +kernel
theorem dX12_go_127 : decode cX12_go 127 = .ok (.goto (-24), 3) := by decide +kernel
theorem dX12_go_130 : decode cX12_go 130 = .ok (.aload_n 0, 1) := by decide +kernel
theorem dX12_go_131 : decode cX12_go 131 = .ok (.iconst 1, 1) := by decide +kernel
theorem dX12_go_132 : decode cX12_go 132 = .ok (.putfield 219, 3) := by decide +kernel
theorem dX12_go_135 : decode cX12_go 135 = .ok (.aload_n 0, 1) := by decide +kernel
theorem dX12_go_136 : decode cX12_go 136 = .ok (.aload_n 0, 1) := by decide +kernel
theorem dX12_go_137 : decode cX12_go 137 = .ok (.aload_n 0, 1) := by decide +kernel
theorem dX12_go_138 : decode cX12_go 138 = .ok (.getfield 210, 3) := by decide +kernel
theorem dX12_go_141 : decode cX12_go 141 = .ok (.aload_n 0, 1) := by decide +kernel
theorem dX12_go_142 : decode cX12_go 142 = .ok (.getfield 207, 3) := by decide +kernel
theorem dX12_go_145 : decode cX12_go 145 = .ok (.invokevirtual 225, 3) := by decide +kernel
theorem dX12_go_148 : decode cX12_go 148 = .ok (.putfield 213, 3) := by decide +kernel
theorem dX12_go_151 : decode cX12_go 151 = .ok (.goto 129, 3) := by decide +kernel
theorem dX12_go_154 : decode cX12_go 154 = .ok (.iload_n 1, 1) := by decide +kernel
theorem dX12_go_155 : decode cX12_go 155 = .ok (.bipush 48, 2) := by decide +kernel
theorem dX12_go_157 : decode cX12_go 157 = .ok (.if_icmp .lt 98, 3) := by decide +kernel
theorem dX12_go_160 : decode cX12_go 160 = .ok (.iload_n 1, 1) := by decide +kernel
theorem dX12_go_161 : decode cX12_go 161 = .ok (.bipush 57, 2) := by decide +kernel
theorem dX12_go_163 : decode cX12_go 163 = .ok (.if_icmp .gt 92, 3) := by decide +kernel
theorem dX12_go_166 : decode cX12_go 166 = .ok (.aload_n 0, 1) := by decide +kernel
theorem dX12_go_167 : decode cX12_go 167 = .ok (.aload_n 0, 1) := by decide +kernel
theorem dX12_go_168 : decode cX12_go 168 = .ok (.getfield 207, 3) := by decide +kernel
theorem dX12_go_171 : decode cX12_go 171 = .ok (.invokevirtual 204, 3) := by decide +kernel
theorem dX12_go_174 : decode cX12_go 174 = .ok (.bipush 48, 2) := by decide +kernel
theorem dX12_go_176 : decode cX12_go 176 = .ok (.if_icmp .lt 71, 3) := by decide +kernel
theorem dX12_go_179 : decode cX12_go 179 = .ok (.aload_n 0, 1) := by decide +kernel
theorem dX12_go_180 : decode cX12_go 180 = .ok (.aload_n 0, 1) := by decide +kernel
theorem dX12_go_181 : decode cX12_go 181 = .ok (.getfield 207, 3) := by decide +kernel
theorem dX12_go_184 : decode cX12_go 184 = .ok (.invokevirtual 204, 3) := by decide +kernel
theorem dX12_go_187 : decode cX12_go 187 = .ok (.bipush 57, 2) := by decide +kernel
theorem dX12_go_189 : decode cX12_go 189 = .ok (.if_icmp .gt 58, 3) := by decide +kernel
theorem dX12_go_192 : decode cX12_go 192 = .ok (.aload_n 0, 1) := by decide +kernel
theorem dX12_go_193 : decode cX12_go 193 = .ok (.aload_n 0, 1) := by decide +kernel
theorem dX12_go_194 : decode cX12_go 194 = .ok (.getfield 207, 3) := by decide +kernel
theorem dX12_go_197 : decode cX12_go 197 = .ok (.aload_n 0, 1) := by decide +kernel
theorem dX12_go_198 : decode cX12_go 198 = .ok (.getfield 210, 3) := by decide +kernel
theorem dX12_go_201 : decode cX12_go 201 = .ok (.isub, 1) := by decide +kernel
theorem dX12_go_202 : decode cX12_go 202 = .ok (.iconst 2, 1) := by decide +kernel
theorem dX12_go_203 : decode cX12_go 203 = .ok (.if_icmp .ge 25, 3) := by decide +kernel
theorem dX12_go_206 : decode cX12_go 206 = .ok (.bipush 10, 2) := by decide +kernel
theorem dX12_go_208 : decode cX12_go 208 = .ok (.aload_n 0, 1) := by decide +kernel
theorem dX12_go_209 : decode cX12_go 209 = .ok (.getfield 216, 3) := by decide +kernel
theorem dX12_go_212 : decode cX12_go 212 = .ok (.imul, 1) := by decide +kernel
theorem dX12_go_213 : decode cX12_go 213 = .ok (.aload_n 0, 1) := by decide +kernel
theorem dX12_go_214 : decode cX12_go 214 = .ok (.aload_n 0, 1) := by decide +kernel
theorem dX12_go_215 : decode cX12_go 215 = .ok (.getfield 207, 3) := by decide +kernel
theorem dX12_go_218 : decode cX12_go 218 = .ok (.invokevirtual 204, 3) := by decide +kernel
theorem dX12_go_221 : decode cX12_go 221 = .ok (.iadd, 1) := by decide +kernel
theorem dX12_go_222 : decode cX12_go 222 = .ok (.bipush 48, 2) := by decide +kernel
theorem dX12_go_224 : decode cX12_go 224 = .ok (.isub, 1) := by decide +kernel
theorem dX12_go_225 : decode cX12_go 225 = .ok (.goto 6, 3) := by decide +kernel
theorem dX12_go_228 : decode cX12_go 228 = .ok (.sipush 999, 3) := by decide +kernel
theorem dX12_go_231 : decode cX12_go 231 = .ok (.putfield 216, 3) := by decide +kernel
theorem dX12_go_234 : decode cX12_go 234 = .ok (.aload_n 0, 1) := by decide +kernel
theorem dX12_go_235 : decode cX12_go 235 = .ok (.dup, 1) := by decide +kernel
theorem dX12_go_236 : decode cX12_go 236 = .ok (.getfield 207, 3) := by decide +kernel
theorem dX12_go_239 : decode cX12_go 239 = .ok (.iconst 1, 1) := by decide +kernel
theorem dX12_go_240 : decode cX12_go 240 = .ok (.iadd, 1) := by decide +kernel
theorem dX12_go_241 : decode cX12_go 241 = .ok (.putfield 207, 3) := by decide +kernel
theorem dX12_go_244 : decode cX12_go 244 = .ok (.goto (-78), 3) := by decide +kernel
theorem dX12_go_247 : decode cX12_go 247 = .ok (.aload_n 0, 1) := by decide +kernel
theorem dX12_go_248 : decode cX12_go 248 = .ok (.iconst 2, 1) := by decide +kernel
theorem dX12_go_249 : decode cX12_go 249 = .ok (.putfield 219, 3) := by decide +kernel
theorem dX12_go_252 : decode cX12_go 252 = .ok (.goto 28, 3) := by decide +kernel
theorem dX12_go_255 : decode cX12_go 255 = .ok (.aload_n 0, 1) := by decide +kernel
theorem dX12_go_256 : decode cX12_go 256 = .ok (.dup, 1) := by decide +kernel
theorem dX12_go_257 : decode cX12_go 257 = .ok (.getfield 207, 3) := by decide +kernel
theorem dX12_go_260 : decode cX12_go 260 = .ok (.iconst 1, 1) := by decide +kernel
theorem dX12_go_261 : decode cX12_go 261 = .ok (.iadd, 1) := by decide +kernel
theorem dX12_go_262 : decode cX12_go 262 = .ok (.putfield 207, 3) := by decide +kernel
theorem dX12_go_265 : decode cX12_go 265 = .ok (.aload_n 0, 1) := by decide +kernel
theorem dX12_go_266 : decode cX12_go 266 = .ok (.iload_n 1, 1) := by decide +kernel
theorem dX12_go_267 : decode cX12_go 267 = .ok (.bipush 59, 2) := by decide +kernel
theorem dX12_go_269 : decode cX12_go 269 = .ok (.if_icmp .ne 7, 3) := by decide +kernel
theorem dX12_go_272 : decode cX12_go 272 = .ok (.iconst 3, 1) := by decide +kernel
theorem dX12_go_273 : decode cX12_go 273 = .ok (.goto 4, 3) := by decide +kernel
theorem dX12_go_276 : decode cX12_go 276 = .ok (.iconst 4, 1) := by decide +kernel
theorem dX12_go_277 : decode cX12_go 277 = .ok (.putfield 219, 3) := by decide +kernel
theorem dX12_go_280 : decode cX12_go 280 = .ok (.return_, 1) := by decide +kernel
set_option maxHeartbeats 2000000 in
theorem c12_go {G : Gl} {l : Launch}  {M : Mem} {e : Int} {n : Int} {r : Int → Int} (hG : GR M) (hn : M 57 33 = n) (htp : ∀ k, 0 ≤ k → k < n → M 62 k = r k % 2 ^ 8) (hn0 : 0 ≤ n) (hn1 : n ≤ 700) (he : M 57 31 = e) (he0 : 0 ≤ e) (he1 : e ≤ n) : Ct G LY 82 l 2 m12_go [vR 57] M (RV (fun M' => Fr [] [(57, 31), (57, 32), (57, 34), (57, 35), (57, 36)] M M' ∧ M' 57 34 = (nxT r n e).1 ∧ M' 57 32 = (nxT r n e).2.1 ∧ M' 57 31 = (nxT r n e).2.2 ∧ M' 57 35 = vlV r n (nxT r n e) ∧ M' 57 36 = wdV r n (nxT r n e))) := by
  refine R_start (by decide +kernel) (Nat.le_of_ble_eq_true rfl) (fun C hC hRm hlau => ?_)
  show RZ G LY C (Zn G LY 82 C (RV (fun M' => Fr [] [(57, 31), (57, 32), (57, 34), (57, 35), (57, 36)] M M' ∧ M' 57 34 = (nxT r n e).1 ∧ M' 57 32 = (nxT r n e).2.1 ∧ M' 57 31 = (nxT r n e).2.2 ∧ M' 57 35 = vlV r n (nxT r n e) ∧ M' 57 36 = wdV r n (nxT r n e)))) 0 0 82 0 [some (vR 57), none] [] M
  have L0 : ∀ (mq : Nat) (a : Int) (M1 : Mem), (e ≤ a) → (a ≤ n) → (GR M1) → (M1 57 31 = a) → (Fr [] [(57, 31)] M M1) → (scn (fun j => blP (byA r n j)) n e = scn (fun j => blP (byA r n j)) n a) → (n - a).toNat < mq → RZ G LY C (Zn G LY 82 C (RV (fun M' => Fr [] [(57, 31), (57, 32), (57, 34), (57, 35), (57, 36)] M M' ∧ M' 57 34 = (nxT r n e).1 ∧ M' 57 32 = (nxT r n e).2.1 ∧ M' 57 31 = (nxT r n e).2.2 ∧ M' 57 35 = vlV r n (nxT r n e) ∧ M' 57 36 = wdV r n (nxT r n e)))) 0 0 82 0 [some (vR 57), none] [] M1 := by
    intro mq
    induction mq with
    | zero =>
      intro a M1 ha0 ha1 hg h31 hF hs hm
      exact absurd hm (Nat.not_lt_zero _)
    | succ mq ih0 =>
      intro a M1 ha0 ha1 hg h31 hF hs hm0
      refine R_aload_0 hC dX12_go_0 ?_
      refine R_getIE hC dX12_go_1 fl_12_207 (by decide) rfl (by decide) (by decide) (fi := 31) rfl h31 ?_
      refine R_aload_0 hC dX12_go_4 ?_
      refine R_getIE hC dX12_go_5 fl_12_197 (by decide) rfl (by decide) (by decide) (fi := 33) rfl ((hF 57 33 (by decide) (by decide)).trans hn) ?_
      have L50 : (scn (fun j => blP (byA r n j)) n e = a) → RZ G LY C (Zn G LY 82 C (RV (fun M' => Fr [] [(57, 31), (57, 32), (57, 34), (57, 35), (57, 36)] M M' ∧ M' 57 34 = (nxT r n e).1 ∧ M' 57 32 = (nxT r n e).2.1 ∧ M' 57 31 = (nxT r n e).2.2 ∧ M' 57 35 = vlV r n (nxT r n e) ∧ M' 57 36 = wdV r n (nxT r n e)))) 0 0 82 50 [some (vR 57), none] [] M1 := by
        intro  hx
        refine R_aload_0 hC dX12_go_50 ?_
        refine R_aload_0 hC dX12_go_51 ?_
        refine R_getIE hC dX12_go_52 fl_12_207 (by decide) rfl (by decide) (by decide) (fi := 31) rfl h31 ?_
        refine R_putI hC dX12_go_55 fl_12_210 (by decide) rfl (by decide) (by decide) (fi := 32) rfl ?_
        refine R_aload_0 hC dX12_go_58 ?_
        refine R_aload_0 hC dX12_go_59 ?_
        refine R_getIE hC dX12_go_60 fl_12_207 (by decide) rfl (by decide) (by decide) (fi := 31) rfl (by (repeat (first | (refine (uM_k (by decide)).trans ?_))); first | exact uM_same | exact h31) ?_
        have hG1 : GR (uM M1 57 32 a) := (GR.uF hg (by decide +kernel) (by decide))
        refine R_callVq (as := [vI _]) hC dX12_go_63 mo_12_byteAt ml_12_204 (by decide) rfl rfl (c12_byteAt  hG1 (by (repeat (first | (refine (uM_k (by decide)).trans ?_))); first | exact uM_same | exact (hF 57 33 (by decide) (by decide)).trans hn) (fun j p q => (uM_h (by decide)).trans ((congrFun (hF.row (by decide) (by decide)) j).trans (htp j p q))) (by omega) (by omega) (by omega)) rfl rfl hRm (by decide) (by decide) (Nat.le_of_ble_eq_true rfl) ?_
        refine R_istore_1 hC dX12_go_66 rfl ?_
        refine R_aload_0 hC dX12_go_67 ?_
        refine R_iconst hC dX12_go_68 ⟨by decide, by decide⟩ ?_
        refine R_putI hC dX12_go_69 fl_12_213 (by decide) rfl (by decide) (by decide) (fi := 36) rfl ?_
        refine R_aload_0 hC dX12_go_72 ?_
        refine R_iconst hC dX12_go_73 ⟨by decide, by decide⟩ ?_
        refine R_putI hC dX12_go_74 fl_12_216 (by decide) rfl (by decide) (by decide) (fi := 35) rfl ?_
        refine R_aload_0 hC dX12_go_77 ?_
        refine R_getIE hC dX12_go_78 fl_12_207 (by decide) rfl (by decide) (by decide) (fi := 31) rfl (by (repeat (first | (refine (uM_k (by decide)).trans ?_))); first | exact uM_same | exact h31) ?_
        refine R_aload_0 hC dX12_go_81 ?_
        refine R_getIE hC dX12_go_82 fl_12_197 (by decide) rfl (by decide) (by decide) (fi := 33) rfl (by (repeat (first | (refine (uM_k (by decide)).trans ?_))); first | exact uM_same | exact (hF 57 33 (by decide) (by decide)).trans hn) ?_
        refine R_icmp_lt hC dX12_go_85 (tgt := 96) (by decide) (fun hb85 => ?_) (fun hb85 => ?_)
        · skip
          refine R_iload_1 hC dX12_go_96 ?_
          refine R_callSq (as := [vI _]) hC dX12_go_97 mo_12_isLetter ml_12_222 (c12_isLetter  ) rfl rfl hRm (by decide) (by decide) (Nat.le_of_ble_eq_true rfl) ?_
          refine R_if_eq hC dX12_go_100 (tgt := 154) (by decide) (fun hb100 => ?_) (fun hb100 => ?_)
          · skip
            replace hb100 := bP_z hb100
            have hnl : ¬ ltP (byA r n a) := fun y => hb100 (b0_lt.mpr ⟨by omega, y⟩)
            refine R_iload_1 hC dX12_go_154 ?_
            refine R_bipush hC dX12_go_155 (by decide +kernel) ⟨by decide, by decide⟩ ?_
            refine R_icmp_lt hC dX12_go_157 (tgt := 255) (by decide) (fun hb157 => ?_) (fun hb157 => ?_)
            · skip
              have hnd : ¬ dgP (byA r n a) := fun y => by have := (b0_dg (n := n).mpr ⟨by omega, y⟩).1; omega
              refine R_aload_0 hC dX12_go_255 ?_
              refine R_dup hC dX12_go_256 rfl ?_
              refine R_getIE hC dX12_go_257 fl_12_207 (by decide) rfl (by decide) (by decide) (fi := 31) rfl (by (repeat (first | (refine (uM_k (by decide)).trans ?_))); first | exact uM_same | exact h31) ?_
              refine R_iconst hC dX12_go_260 ⟨by decide, by decide⟩ ?_
              refine R_iadd hC dX12_go_261 ⟨by omega, by omega⟩ ?_
              refine R_putI hC dX12_go_262 fl_12_207 (by decide) rfl (by decide) (by decide) (fi := 31) rfl ?_
              refine R_aload_0 hC dX12_go_265 ?_
              refine R_iload_1 hC dX12_go_266 ?_
              refine R_bipush hC dX12_go_267 (by decide +kernel) ⟨by decide, by decide⟩ ?_
              refine R_icmp_ne hC dX12_go_269 (tgt := 276) (by decide) (fun hb269 => ?_) (fun hb269 => ?_)
              · skip
                refine R_iconst hC dX12_go_276 ⟨by decide, by decide⟩ ?_
                refine R_putI hC dX12_go_277 fl_12_219 (by decide) rfl (by decide) (by decide) (fi := 34) rfl ?_
                have hFz : Fr [] [(57, 31), (57, 32), (57, 34), (57, 35), (57, 36)] M (uM (uM (uM (uM (uM M1 57 32 a) 57 36 (-1)) 57 35 0) 57 31 (a + 1)) 57 34 4) := (by (repeat (first | (refine Fr.uB ?_ (by decide)))); exact hF.mo (by simp) (by simp))
                have h9x : ∃ kd, (nxT r n e) = (kd, a, a + 1) ∧ (uM (uM (uM (uM (uM M1 57 32 a) 57 36 (-1)) 57 35 0) 57 31 (a + 1)) 57 34 4) 57 34 = kd ∧ (kd = 3 ∨ kd = 4) := by
                  unfold nxT
                  rw [hx]
                  first
                    | exact ⟨3, nx_3 (by omega) hnl hnd (by rw [← b0_in (n := n) (by omega)]; exact hb269), (by (repeat (first | (refine (uM_k (by decide)).trans ?_))); first | exact uM_same | exact rfl), .inl rfl⟩
                    | exact ⟨4, nx_4 (by omega) hnl hnd (by rw [← b0_in (n := n) (by omega)]; exact hb269), (by (repeat (first | (refine (uM_k (by decide)).trans ?_))); first | exact uM_same | exact rfl), .inr rfl⟩
                obtain ⟨kd, hK, hkd, hk34⟩ := h9x
                have hzz : (uM (uM (uM (uM (uM M1 57 32 a) 57 36 (-1)) 57 35 0) 57 31 (a + 1)) 57 34 4) 57 34 = (kd, a, a + 1).1 ∧ (uM (uM (uM (uM (uM M1 57 32 a) 57 36 (-1)) 57 35 0) 57 31 (a + 1)) 57 34 4) 57 32 = (kd, a, a + 1).2.1 ∧ (uM (uM (uM (uM (uM M1 57 32 a) 57 36 (-1)) 57 35 0) 57 31 (a + 1)) 57 34 4) 57 31 = (kd, a, a + 1).2.2 ∧ (uM (uM (uM (uM (uM M1 57 32 a) 57 36 (-1)) 57 35 0) 57 31 (a + 1)) 57 34 4) 57 35 = vlV r n (kd, a, a + 1) ∧ (uM (uM (uM (uM (uM M1 57 32 a) 57 36 (-1)) 57 35 0) 57 31 (a + 1)) 57 34 4) 57 36 = wdV r n (kd, a, a + 1) := by
                  rcases hk34 with z | z <;> subst z <;> exact ⟨hkd, (by (repeat (first | (refine (uM_k (by decide)).trans ?_))); first | exact uM_same | exact rfl), (by (repeat (first | (refine (uM_k (by decide)).trans ?_))); first | exact uM_same | exact rfl), (by (repeat (first | (refine (uM_k (by decide)).trans ?_))); first | exact uM_same | exact rfl), (by (repeat (first | (refine (uM_k (by decide)).trans ?_))); first | exact uM_same | exact rfl)⟩
                exact R_return hC dX12_go_280 rfl (ret_V (by rw [hK]; exact ⟨hFz, hzz⟩))
              · skip
                refine R_iconst hC dX12_go_272 ⟨by decide, by decide⟩ ?_
                refine R_goto hC dX12_go_273 (tgt := 277) (by decide) ?_
                refine R_putI hC dX12_go_277 fl_12_219 (by decide) rfl (by decide) (by decide) (fi := 34) rfl ?_
                have hFz : Fr [] [(57, 31), (57, 32), (57, 34), (57, 35), (57, 36)] M (uM (uM (uM (uM (uM M1 57 32 a) 57 36 (-1)) 57 35 0) 57 31 (a + 1)) 57 34 3) := (by (repeat (first | (refine Fr.uB ?_ (by decide)))); exact hF.mo (by simp) (by simp))
                have h9x : ∃ kd, (nxT r n e) = (kd, a, a + 1) ∧ (uM (uM (uM (uM (uM M1 57 32 a) 57 36 (-1)) 57 35 0) 57 31 (a + 1)) 57 34 3) 57 34 = kd ∧ (kd = 3 ∨ kd = 4) := by
                  unfold nxT
                  rw [hx]
                  first
                    | exact ⟨3, nx_3 (by omega) hnl hnd (by rw [← b0_in (n := n) (by omega)]; exact hb269), (by (repeat (first | (refine (uM_k (by decide)).trans ?_))); first | exact uM_same | exact rfl), .inl rfl⟩
                    | exact ⟨4, nx_4 (by omega) hnl hnd (by rw [← b0_in (n := n) (by omega)]; exact hb269), (by (repeat (first | (refine (uM_k (by decide)).trans ?_))); first | exact uM_same | exact rfl), .inr rfl⟩
                obtain ⟨kd, hK, hkd, hk34⟩ := h9x
                have hzz : (uM (uM (uM (uM (uM M1 57 32 a) 57 36 (-1)) 57 35 0) 57 31 (a + 1)) 57 34 3) 57 34 = (kd, a, a + 1).1 ∧ (uM (uM (uM (uM (uM M1 57 32 a) 57 36 (-1)) 57 35 0) 57 31 (a + 1)) 57 34 3) 57 32 = (kd, a, a + 1).2.1 ∧ (uM (uM (uM (uM (uM M1 57 32 a) 57 36 (-1)) 57 35 0) 57 31 (a + 1)) 57 34 3) 57 31 = (kd, a, a + 1).2.2 ∧ (uM (uM (uM (uM (uM M1 57 32 a) 57 36 (-1)) 57 35 0) 57 31 (a + 1)) 57 34 3) 57 35 = vlV r n (kd, a, a + 1) ∧ (uM (uM (uM (uM (uM M1 57 32 a) 57 36 (-1)) 57 35 0) 57 31 (a + 1)) 57 34 3) 57 36 = wdV r n (kd, a, a + 1) := by
                  rcases hk34 with z | z <;> subst z <;> exact ⟨hkd, (by (repeat (first | (refine (uM_k (by decide)).trans ?_))); first | exact uM_same | exact rfl), (by (repeat (first | (refine (uM_k (by decide)).trans ?_))); first | exact uM_same | exact rfl), (by (repeat (first | (refine (uM_k (by decide)).trans ?_))); first | exact uM_same | exact rfl), (by (repeat (first | (refine (uM_k (by decide)).trans ?_))); first | exact uM_same | exact rfl)⟩
                exact R_return hC dX12_go_280 rfl (ret_V (by rw [hK]; exact ⟨hFz, hzz⟩))
            · skip
              refine R_iload_1 hC dX12_go_160 ?_
              refine R_bipush hC dX12_go_161 (by decide +kernel) ⟨by decide, by decide⟩ ?_
              refine R_icmp_gt hC dX12_go_163 (tgt := 255) (by decide) (fun hb163 => ?_) (fun hb163 => ?_)
              · skip
                have hnd : ¬ dgP (byA r n a) := fun y => by have := (b0_dg (n := n).mpr ⟨by omega, y⟩).2; omega
                refine R_aload_0 hC dX12_go_255 ?_
                refine R_dup hC dX12_go_256 rfl ?_
                refine R_getIE hC dX12_go_257 fl_12_207 (by decide) rfl (by decide) (by decide) (fi := 31) rfl (by (repeat (first | (refine (uM_k (by decide)).trans ?_))); first | exact uM_same | exact h31) ?_
                refine R_iconst hC dX12_go_260 ⟨by decide, by decide⟩ ?_
                refine R_iadd hC dX12_go_261 ⟨by omega, by omega⟩ ?_
                refine R_putI hC dX12_go_262 fl_12_207 (by decide) rfl (by decide) (by decide) (fi := 31) rfl ?_
                refine R_aload_0 hC dX12_go_265 ?_
                refine R_iload_1 hC dX12_go_266 ?_
                refine R_bipush hC dX12_go_267 (by decide +kernel) ⟨by decide, by decide⟩ ?_
                refine R_icmp_ne hC dX12_go_269 (tgt := 276) (by decide) (fun hb269 => ?_) (fun hb269 => ?_)
                · skip
                  refine R_iconst hC dX12_go_276 ⟨by decide, by decide⟩ ?_
                  refine R_putI hC dX12_go_277 fl_12_219 (by decide) rfl (by decide) (by decide) (fi := 34) rfl ?_
                  have hFz : Fr [] [(57, 31), (57, 32), (57, 34), (57, 35), (57, 36)] M (uM (uM (uM (uM (uM M1 57 32 a) 57 36 (-1)) 57 35 0) 57 31 (a + 1)) 57 34 4) := (by (repeat (first | (refine Fr.uB ?_ (by decide)))); exact hF.mo (by simp) (by simp))
                  have h9x : ∃ kd, (nxT r n e) = (kd, a, a + 1) ∧ (uM (uM (uM (uM (uM M1 57 32 a) 57 36 (-1)) 57 35 0) 57 31 (a + 1)) 57 34 4) 57 34 = kd ∧ (kd = 3 ∨ kd = 4) := by
                    unfold nxT
                    rw [hx]
                    first
                      | exact ⟨3, nx_3 (by omega) hnl hnd (by rw [← b0_in (n := n) (by omega)]; exact hb269), (by (repeat (first | (refine (uM_k (by decide)).trans ?_))); first | exact uM_same | exact rfl), .inl rfl⟩
                      | exact ⟨4, nx_4 (by omega) hnl hnd (by rw [← b0_in (n := n) (by omega)]; exact hb269), (by (repeat (first | (refine (uM_k (by decide)).trans ?_))); first | exact uM_same | exact rfl), .inr rfl⟩
                  obtain ⟨kd, hK, hkd, hk34⟩ := h9x
                  have hzz : (uM (uM (uM (uM (uM M1 57 32 a) 57 36 (-1)) 57 35 0) 57 31 (a + 1)) 57 34 4) 57 34 = (kd, a, a + 1).1 ∧ (uM (uM (uM (uM (uM M1 57 32 a) 57 36 (-1)) 57 35 0) 57 31 (a + 1)) 57 34 4) 57 32 = (kd, a, a + 1).2.1 ∧ (uM (uM (uM (uM (uM M1 57 32 a) 57 36 (-1)) 57 35 0) 57 31 (a + 1)) 57 34 4) 57 31 = (kd, a, a + 1).2.2 ∧ (uM (uM (uM (uM (uM M1 57 32 a) 57 36 (-1)) 57 35 0) 57 31 (a + 1)) 57 34 4) 57 35 = vlV r n (kd, a, a + 1) ∧ (uM (uM (uM (uM (uM M1 57 32 a) 57 36 (-1)) 57 35 0) 57 31 (a + 1)) 57 34 4) 57 36 = wdV r n (kd, a, a + 1) := by
                    rcases hk34 with z | z <;> subst z <;> exact ⟨hkd, (by (repeat (first | (refine (uM_k (by decide)).trans ?_))); first | exact uM_same | exact rfl), (by (repeat (first | (refine (uM_k (by decide)).trans ?_))); first | exact uM_same | exact rfl), (by (repeat (first | (refine (uM_k (by decide)).trans ?_))); first | exact uM_same | exact rfl), (by (repeat (first | (refine (uM_k (by decide)).trans ?_))); first | exact uM_same | exact rfl)⟩
                  exact R_return hC dX12_go_280 rfl (ret_V (by rw [hK]; exact ⟨hFz, hzz⟩))
                · skip
                  refine R_iconst hC dX12_go_272 ⟨by decide, by decide⟩ ?_
                  refine R_goto hC dX12_go_273 (tgt := 277) (by decide) ?_
                  refine R_putI hC dX12_go_277 fl_12_219 (by decide) rfl (by decide) (by decide) (fi := 34) rfl ?_
                  have hFz : Fr [] [(57, 31), (57, 32), (57, 34), (57, 35), (57, 36)] M (uM (uM (uM (uM (uM M1 57 32 a) 57 36 (-1)) 57 35 0) 57 31 (a + 1)) 57 34 3) := (by (repeat (first | (refine Fr.uB ?_ (by decide)))); exact hF.mo (by simp) (by simp))
                  have h9x : ∃ kd, (nxT r n e) = (kd, a, a + 1) ∧ (uM (uM (uM (uM (uM M1 57 32 a) 57 36 (-1)) 57 35 0) 57 31 (a + 1)) 57 34 3) 57 34 = kd ∧ (kd = 3 ∨ kd = 4) := by
                    unfold nxT
                    rw [hx]
                    first
                      | exact ⟨3, nx_3 (by omega) hnl hnd (by rw [← b0_in (n := n) (by omega)]; exact hb269), (by (repeat (first | (refine (uM_k (by decide)).trans ?_))); first | exact uM_same | exact rfl), .inl rfl⟩
                      | exact ⟨4, nx_4 (by omega) hnl hnd (by rw [← b0_in (n := n) (by omega)]; exact hb269), (by (repeat (first | (refine (uM_k (by decide)).trans ?_))); first | exact uM_same | exact rfl), .inr rfl⟩
                  obtain ⟨kd, hK, hkd, hk34⟩ := h9x
                  have hzz : (uM (uM (uM (uM (uM M1 57 32 a) 57 36 (-1)) 57 35 0) 57 31 (a + 1)) 57 34 3) 57 34 = (kd, a, a + 1).1 ∧ (uM (uM (uM (uM (uM M1 57 32 a) 57 36 (-1)) 57 35 0) 57 31 (a + 1)) 57 34 3) 57 32 = (kd, a, a + 1).2.1 ∧ (uM (uM (uM (uM (uM M1 57 32 a) 57 36 (-1)) 57 35 0) 57 31 (a + 1)) 57 34 3) 57 31 = (kd, a, a + 1).2.2 ∧ (uM (uM (uM (uM (uM M1 57 32 a) 57 36 (-1)) 57 35 0) 57 31 (a + 1)) 57 34 3) 57 35 = vlV r n (kd, a, a + 1) ∧ (uM (uM (uM (uM (uM M1 57 32 a) 57 36 (-1)) 57 35 0) 57 31 (a + 1)) 57 34 3) 57 36 = wdV r n (kd, a, a + 1) := by
                    rcases hk34 with z | z <;> subst z <;> exact ⟨hkd, (by (repeat (first | (refine (uM_k (by decide)).trans ?_))); first | exact uM_same | exact rfl), (by (repeat (first | (refine (uM_k (by decide)).trans ?_))); first | exact uM_same | exact rfl), (by (repeat (first | (refine (uM_k (by decide)).trans ?_))); first | exact uM_same | exact rfl), (by (repeat (first | (refine (uM_k (by decide)).trans ?_))); first | exact uM_same | exact rfl)⟩
                  exact R_return hC dX12_go_280 rfl (ret_V (by rw [hK]; exact ⟨hFz, hzz⟩))
              · skip
                have hda : a < n ∧ dgP (byA r n a) := b0_dg.mp ⟨by omega, by omega⟩
                have L166 : ∀ (mq : Nat) (q : Int) (v : Int) (M3 : Mem), (a ≤ q) → (q ≤ n) → (GR M3) → (M3 57 31 = q) → (M3 57 32 = a) → (M3 57 35 = v) → (M3 57 36 = -1) → (Fr [] [(57, 31), (57, 32), (57, 35), (57, 36)] M M3) → (scn (fun j => dgP (byA r n j)) n a = scn (fun j => dgP (byA r n j)) n q) → (v = (if q - a ≤ 2 then nmF r n a (q - a).toNat else 999)) → (0 ≤ v) → (v ≤ 999) → (q - a = 0 → v = 0) → (q - a = 1 → v ≤ 9) → (n - q).toNat < mq → RZ G LY C (Zn G LY 82 C (RV (fun M' => Fr [] [(57, 31), (57, 32), (57, 34), (57, 35), (57, 36)] M M' ∧ M' 57 34 = (nxT r n e).1 ∧ M' 57 32 = (nxT r n e).2.1 ∧ M' 57 31 = (nxT r n e).2.2 ∧ M' 57 35 = vlV r n (nxT r n e) ∧ M' 57 36 = wdV r n (nxT r n e)))) 0 0 82 166 [some (vR 57), some (vI (b0 r n a))] [] M3 := by
                  intro mq
                  induction mq with
                  | zero =>
                    intro q v M3 hq0 hq1 hg3 h313 h323 h353 h363 hF3 hs3 hv hv0 hv9 hva hvb hm
                    exact absurd hm (Nat.not_lt_zero _)
                  | succ mq ih166 =>
                    intro q v M3 hq0 hq1 hg3 h313 h323 h353 h363 hF3 hs3 hv hv0 hv9 hva hvb hm166
                    refine R_aload_0 hC dX12_go_166 ?_
                    refine R_aload_0 hC dX12_go_167 ?_
                    refine R_getIE hC dX12_go_168 fl_12_207 (by decide) rfl (by decide) (by decide) (fi := 31) rfl h313 ?_
                    refine R_callVq (as := [vI _]) hC dX12_go_171 mo_12_byteAt ml_12_204 (by decide) rfl rfl (c12_byteAt  hg3 ((hF3 57 33 (by decide) (by decide)).trans hn) (fun j p q => (congrFun (hF3.row (by decide) (by decide)) j).trans (htp j p q)) (by omega) (by omega) (by omega)) rfl rfl hRm (by decide) (by decide) (Nat.le_of_ble_eq_true rfl) ?_
                    refine R_bipush hC dX12_go_174 (by decide +kernel) ⟨by decide, by decide⟩ ?_
                    refine R_icmp_lt hC dX12_go_176 (tgt := 247) (by decide) (fun hb176 => ?_) (fun hb176 => ?_)
                    · skip
                      have hend : scn (fun j => dgP (byA r n j)) n q = q := by
                        by_cases z : q < n
                        · exact scn_f (fun y => by have := (b0_dg.mpr ⟨z, y⟩).1; omega)
                        · exact scn_e (by omega)
                      refine R_aload_0 hC dX12_go_247 ?_
                      refine R_iconst hC dX12_go_248 ⟨by decide, by decide⟩ ?_
                      refine R_putI hC dX12_go_249 fl_12_219 (by decide) rfl (by decide) (by decide) (fi := 34) rfl ?_
                      have hK : (nxT r n e) = (2, a, q) := by (unfold nxT; rw [hx, nx_2 hda.1 hnl hda.2, ← scn_t (P := (fun j => dgP (byA r n j))) hda.1 hda.2, hs3, hend])
                      have hFz : Fr [] [(57, 31), (57, 32), (57, 34), (57, 35), (57, 36)] M (uM M3 57 34 2) := (by (repeat (first | (refine Fr.uB ?_ (by decide)))); exact hF3.mo (by simp) (by simp))
                      have hzz : (uM M3 57 34 2) 57 34 = (2, a, q).1 ∧ (uM M3 57 34 2) 57 32 = (2, a, q).2.1 ∧ (uM M3 57 34 2) 57 31 = (2, a, q).2.2 ∧ (uM M3 57 34 2) 57 35 = vlV r n (2, a, q) ∧ (uM M3 57 34 2) 57 36 = wdV r n (2, a, q) := ⟨(by (repeat (first | (refine (uM_k (by decide)).trans ?_))); first | exact uM_same | exact rfl), (by (repeat (first | (refine (uM_k (by decide)).trans ?_))); first | exact uM_same | exact h323), (by (repeat (first | (refine (uM_k (by decide)).trans ?_))); first | exact uM_same | exact h313), (by (repeat (first | (refine (uM_k (by decide)).trans ?_))); first | exact uM_same | exact (h353.trans hv)), (by (repeat (first | (refine (uM_k (by decide)).trans ?_))); first | exact uM_same | exact h363)⟩
                      refine R_goto hC dX12_go_252 (tgt := 280) (by decide) ?_
                      exact R_return hC dX12_go_280 rfl (ret_V (by rw [hK]; exact ⟨hFz, hzz⟩))
                    · skip
                      refine R_aload_0 hC dX12_go_179 ?_
                      refine R_aload_0 hC dX12_go_180 ?_
                      refine R_getIE hC dX12_go_181 fl_12_207 (by decide) rfl (by decide) (by decide) (fi := 31) rfl h313 ?_
                      refine R_callVq (as := [vI _]) hC dX12_go_184 mo_12_byteAt ml_12_204 (by decide) rfl rfl (c12_byteAt  hg3 ((hF3 57 33 (by decide) (by decide)).trans hn) (fun j p q => (congrFun (hF3.row (by decide) (by decide)) j).trans (htp j p q)) (by omega) (by omega) (by omega)) rfl rfl hRm (by decide) (by decide) (Nat.le_of_ble_eq_true rfl) ?_
                      refine R_bipush hC dX12_go_187 (by decide +kernel) ⟨by decide, by decide⟩ ?_
                      refine R_icmp_gt hC dX12_go_189 (tgt := 247) (by decide) (fun hb189 => ?_) (fun hb189 => ?_)
                      · skip
                        have hend : scn (fun j => dgP (byA r n j)) n q = q := by
                          by_cases z : q < n
                          · exact scn_f (fun y => by have := (b0_dg.mpr ⟨z, y⟩).2; omega)
                          · exact scn_e (by omega)
                        refine R_aload_0 hC dX12_go_247 ?_
                        refine R_iconst hC dX12_go_248 ⟨by decide, by decide⟩ ?_
                        refine R_putI hC dX12_go_249 fl_12_219 (by decide) rfl (by decide) (by decide) (fi := 34) rfl ?_
                        have hK : (nxT r n e) = (2, a, q) := by (unfold nxT; rw [hx, nx_2 hda.1 hnl hda.2, ← scn_t (P := (fun j => dgP (byA r n j))) hda.1 hda.2, hs3, hend])
                        have hFz : Fr [] [(57, 31), (57, 32), (57, 34), (57, 35), (57, 36)] M (uM M3 57 34 2) := (by (repeat (first | (refine Fr.uB ?_ (by decide)))); exact hF3.mo (by simp) (by simp))
                        have hzz : (uM M3 57 34 2) 57 34 = (2, a, q).1 ∧ (uM M3 57 34 2) 57 32 = (2, a, q).2.1 ∧ (uM M3 57 34 2) 57 31 = (2, a, q).2.2 ∧ (uM M3 57 34 2) 57 35 = vlV r n (2, a, q) ∧ (uM M3 57 34 2) 57 36 = wdV r n (2, a, q) := ⟨(by (repeat (first | (refine (uM_k (by decide)).trans ?_))); first | exact uM_same | exact rfl), (by (repeat (first | (refine (uM_k (by decide)).trans ?_))); first | exact uM_same | exact h323), (by (repeat (first | (refine (uM_k (by decide)).trans ?_))); first | exact uM_same | exact h313), (by (repeat (first | (refine (uM_k (by decide)).trans ?_))); first | exact uM_same | exact (h353.trans hv)), (by (repeat (first | (refine (uM_k (by decide)).trans ?_))); first | exact uM_same | exact h363)⟩
                        refine R_goto hC dX12_go_252 (tgt := 280) (by decide) ?_
                        exact R_return hC dX12_go_280 rfl (ret_V (by rw [hK]; exact ⟨hFz, hzz⟩))
                      · skip
                        have hdq : q < n ∧ dgP (byA r n q) := b0_dg.mp ⟨by omega, by omega⟩
                        have hq9 := hdq.1
                        have hbq := b0_in (r := r) hdq.1
                        refine R_aload_0 hC dX12_go_192 ?_
                        refine R_aload_0 hC dX12_go_193 ?_
                        refine R_getIE hC dX12_go_194 fl_12_207 (by decide) rfl (by decide) (by decide) (fi := 31) rfl h313 ?_
                        refine R_aload_0 hC dX12_go_197 ?_
                        refine R_getIE hC dX12_go_198 fl_12_210 (by decide) rfl (by decide) (by decide) (fi := 32) rfl h323 ?_
                        refine R_isub hC dX12_go_201 ⟨by omega, by omega⟩ ?_
                        refine R_iconst hC dX12_go_202 ⟨by decide, by decide⟩ ?_
                        refine R_icmp_ge hC dX12_go_203 (tgt := 228) (by decide) (fun hb203 => ?_) (fun hb203 => ?_)
                        · skip
                          refine R_sipush hC dX12_go_228 (by decide +kernel) ⟨by decide, by decide⟩ ?_
                          obtain ⟨vN, hvN⟩ : ∃ vN : Int, vN = 999 := ⟨_, rfl⟩
                          have hvn1 : vN = (if q + 1 - a ≤ 2 then nmF r n a (q + 1 - a).toNat else 999) := by
                            rw [hvN]
                            first
                              | (rw [if_pos (by omega), nmF_s hq0 rfl, ← hbq, show nmF r n a (q - a).toNat = v by (rw [hv, if_pos (by omega)])])
                              | (rw [if_neg (by omega)])
                          refine R_putI hC dX12_go_231 fl_12_216 (by decide) rfl (by decide) (by decide) (fi := 35) rfl ?_
                          refine R_aload_0 hC dX12_go_234 ?_
                          refine R_dup hC dX12_go_235 rfl ?_
                          refine R_getIE hC dX12_go_236 fl_12_207 (by decide) rfl (by decide) (by decide) (fi := 31) rfl (by (repeat (first | (refine (uM_k (by decide)).trans ?_))); first | exact uM_same | exact h313) ?_
                          refine R_iconst hC dX12_go_239 ⟨by decide, by decide⟩ ?_
                          refine R_iadd hC dX12_go_240 ⟨by omega, by omega⟩ ?_
                          refine R_putI hC dX12_go_241 fl_12_207 (by decide) rfl (by decide) (by decide) (fi := 31) rfl ?_
                          refine R_goto hC dX12_go_244 (tgt := 166) (by decide) ?_
                          have hG2 : GR (uM (uM M3 57 35 999) 57 31 (q + 1)) := (GR.uF (GR.uF hg3 (by decide +kernel) (by decide)) (by decide +kernel) (by decide))
                          exact ih166 (q + 1) vN _ (by omega) (by omega) hG2 uM_same (by (repeat (first | (refine (uM_k (by decide)).trans ?_))); first | exact uM_same | exact h323) (by (repeat (first | (refine (uM_k (by decide)).trans ?_))); exact uM_same.trans hvN.symm) (by (repeat (first | (refine (uM_k (by decide)).trans ?_))); first | exact uM_same | exact h363) (Fr.uB (Fr.uB hF3 (by decide)) (by decide)) (by (rw [hs3]; exact scn_t hdq.1 hdq.2)) hvn1 (by omega) (by omega) (by omega) (by omega) (by omega)
                        · skip
                          refine R_bipush hC dX12_go_206 (by decide +kernel) ⟨by decide, by decide⟩ ?_
                          refine R_aload_0 hC dX12_go_208 ?_
                          refine R_getIE hC dX12_go_209 fl_12_216 (by decide) rfl (by decide) (by decide) (fi := 35) rfl h353 ?_
                          refine R_imul hC dX12_go_212 ⟨by omega, by omega⟩ ?_
                          refine R_aload_0 hC dX12_go_213 ?_
                          refine R_aload_0 hC dX12_go_214 ?_
                          refine R_getIE hC dX12_go_215 fl_12_207 (by decide) rfl (by decide) (by decide) (fi := 31) rfl h313 ?_
                          refine R_callVq (as := [vI _]) hC dX12_go_218 mo_12_byteAt ml_12_204 (by decide) rfl rfl (c12_byteAt  hg3 ((hF3 57 33 (by decide) (by decide)).trans hn) (fun j p q => (congrFun (hF3.row (by decide) (by decide)) j).trans (htp j p q)) (by omega) (by omega) (by omega)) rfl rfl hRm (by decide) (by decide) (Nat.le_of_ble_eq_true rfl) ?_
                          refine R_iadd hC dX12_go_221 ⟨by omega, by omega⟩ ?_
                          refine R_bipush hC dX12_go_222 (by decide +kernel) ⟨by decide, by decide⟩ ?_
                          refine R_isub hC dX12_go_224 ⟨by omega, by omega⟩ ?_
                          refine R_goto hC dX12_go_225 (tgt := 231) (by decide) ?_
                          obtain ⟨vN, hvN⟩ : ∃ vN : Int, vN = (((10 * v) + (b0 r n q)) - 48) := ⟨_, rfl⟩
                          have hvn1 : vN = (if q + 1 - a ≤ 2 then nmF r n a (q + 1 - a).toNat else 999) := by
                            rw [hvN]
                            first
                              | (rw [if_pos (by omega), nmF_s hq0 rfl, ← hbq, show nmF r n a (q - a).toNat = v by (rw [hv, if_pos (by omega)])])
                              | (rw [if_neg (by omega)])
                          refine R_putI hC dX12_go_231 fl_12_216 (by decide) rfl (by decide) (by decide) (fi := 35) rfl ?_
                          refine R_aload_0 hC dX12_go_234 ?_
                          refine R_dup hC dX12_go_235 rfl ?_
                          refine R_getIE hC dX12_go_236 fl_12_207 (by decide) rfl (by decide) (by decide) (fi := 31) rfl (by (repeat (first | (refine (uM_k (by decide)).trans ?_))); first | exact uM_same | exact h313) ?_
                          refine R_iconst hC dX12_go_239 ⟨by decide, by decide⟩ ?_
                          refine R_iadd hC dX12_go_240 ⟨by omega, by omega⟩ ?_
                          refine R_putI hC dX12_go_241 fl_12_207 (by decide) rfl (by decide) (by decide) (fi := 31) rfl ?_
                          refine R_goto hC dX12_go_244 (tgt := 166) (by decide) ?_
                          have hG3 : GR (uM (uM M3 57 35 (((10 * v) + (b0 r n q)) - 48)) 57 31 (q + 1)) := (GR.uF (GR.uF hg3 (by decide +kernel) (by decide)) (by decide +kernel) (by decide))
                          exact ih166 (q + 1) vN _ (by omega) (by omega) hG3 uM_same (by (repeat (first | (refine (uM_k (by decide)).trans ?_))); first | exact uM_same | exact h323) (by (repeat (first | (refine (uM_k (by decide)).trans ?_))); exact uM_same.trans hvN.symm) (by (repeat (first | (refine (uM_k (by decide)).trans ?_))); first | exact uM_same | exact h363) (Fr.uB (Fr.uB hF3 (by decide)) (by decide)) (by (rw [hs3]; exact scn_t hdq.1 hdq.2)) hvn1 (by omega) (by omega) (by omega) (by omega) (by omega)
                have hG4 : GR (uM (uM (uM M1 57 32 a) 57 36 (-1)) 57 35 0) := (GR.uF (GR.uF hG1 (by decide +kernel) (by decide)) (by decide +kernel) (by decide))
                exact L166 _ a 0 _ (by omega) (by omega) hG4 (by (repeat (first | (refine (uM_k (by decide)).trans ?_))); first | exact uM_same | exact h31) (by (repeat (first | (refine (uM_k (by decide)).trans ?_))); first | exact uM_same | exact rfl) (by (repeat (first | (refine (uM_k (by decide)).trans ?_))); first | exact uM_same | exact rfl) (by (repeat (first | (refine (uM_k (by decide)).trans ?_))); first | exact uM_same | exact rfl) (by (repeat (first | (refine Fr.uB ?_ (by decide)))); exact hF.mo (by simp) (by simp)) rfl (by (rw [if_pos (by omega), show (a - a).toNat = 0 by omega]; rfl)) (by omega) (by omega) (by omega) (by omega) (Nat.lt_succ_self _)
          · skip
            replace hb100 := bP_nz hb100
            have hla : a < n ∧ ltP (byA r n a) := b0_lt.mp hb100
            have L103 : ∀ (mq : Nat) (q : Int) (M2 : Mem), (a ≤ q) → (q ≤ n) → (GR M2) → (M2 57 31 = q) → (M2 57 32 = a) → (M2 57 35 = 0) → (Fr [] [(57, 31), (57, 32), (57, 35), (57, 36)] M M2) → (scn (fun j => ltP (byA r n j)) n a = scn (fun j => ltP (byA r n j)) n q) → (n - q).toNat < mq → RZ G LY C (Zn G LY 82 C (RV (fun M' => Fr [] [(57, 31), (57, 32), (57, 34), (57, 35), (57, 36)] M M' ∧ M' 57 34 = (nxT r n e).1 ∧ M' 57 32 = (nxT r n e).2.1 ∧ M' 57 31 = (nxT r n e).2.2 ∧ M' 57 35 = vlV r n (nxT r n e) ∧ M' 57 36 = wdV r n (nxT r n e)))) 0 0 82 103 [some (vR 57), some (vI (b0 r n a))] [] M2 := by
              intro mq
              induction mq with
              | zero =>
                intro q M2 hq0 hq1 hg2 h312 h322 h352 hF2 hs2 hm
                exact absurd hm (Nat.not_lt_zero _)
              | succ mq ih103 =>
                intro q M2 hq0 hq1 hg2 h312 h322 h352 hF2 hs2 hm103
                refine R_aload_0 hC dX12_go_103 ?_
                refine R_aload_0 hC dX12_go_104 ?_
                refine R_getIE hC dX12_go_105 fl_12_207 (by decide) rfl (by decide) (by decide) (fi := 31) rfl h312 ?_
                refine R_callVq (as := [vI _]) hC dX12_go_108 mo_12_byteAt ml_12_204 (by decide) rfl rfl (c12_byteAt  hg2 ((hF2 57 33 (by decide) (by decide)).trans hn) (fun j p q => (congrFun (hF2.row (by decide) (by decide)) j).trans (htp j p q)) (by omega) (by omega) (by omega)) rfl rfl hRm (by decide) (by decide) (Nat.le_of_ble_eq_true rfl) ?_
                refine R_callSq (as := [vI _]) hC dX12_go_111 mo_12_isLetter ml_12_222 (c12_isLetter  ) rfl rfl hRm (by decide) (by decide) (Nat.le_of_ble_eq_true rfl) ?_
                refine R_if_eq hC dX12_go_114 (tgt := 130) (by decide) (fun hb114 => ?_) (fun hb114 => ?_)
                · skip
                  replace hb114 := bP_z hb114
                  have hend : scn (fun j => ltP (byA r n j)) n q = q := by
                    by_cases z : q < n
                    · exact scn_f (fun y => hb114 (b0_lt.mpr ⟨z, y⟩))
                    · exact scn_e (by omega)
                  refine R_aload_0 hC dX12_go_130 ?_
                  refine R_iconst hC dX12_go_131 ⟨by decide, by decide⟩ ?_
                  refine R_putI hC dX12_go_132 fl_12_219 (by decide) rfl (by decide) (by decide) (fi := 34) rfl ?_
                  refine R_aload_0 hC dX12_go_135 ?_
                  refine R_aload_0 hC dX12_go_136 ?_
                  refine R_aload_0 hC dX12_go_137 ?_
                  refine R_getIE hC dX12_go_138 fl_12_210 (by decide) rfl (by decide) (by decide) (fi := 32) rfl (by (repeat (first | (refine (uM_k (by decide)).trans ?_))); first | exact uM_same | exact h322) ?_
                  refine R_aload_0 hC dX12_go_141 ?_
                  refine R_getIE hC dX12_go_142 fl_12_207 (by decide) rfl (by decide) (by decide) (fi := 31) rfl (by (repeat (first | (refine (uM_k (by decide)).trans ?_))); first | exact uM_same | exact h312) ?_
                  have hG5 : GR (uM M2 57 34 1) := (GR.uF hg2 (by decide +kernel) (by decide))
                  refine R_callVq (as := [vI _, vI _]) hC dX12_go_145 mo_12_wordFrom ml_12_225 (by decide) rfl rfl (c12_wordFrom  hG5 (by (repeat (first | (refine (uM_k (by decide)).trans ?_))); first | exact uM_same | exact (hF2 57 33 (by decide) (by decide)).trans hn) (fun j p q => (uM_h (by decide)).trans ((congrFun (hF2.row (by decide) (by decide)) j).trans (htp j p q))) (by omega) (by omega) (by omega) (by omega) (by omega)) rfl rfl hRm (by decide) (by decide) (Nat.le_of_ble_eq_true rfl) ?_
                  refine R_putI hC dX12_go_148 fl_12_213 (by decide) rfl (by decide) (by decide) (fi := 36) rfl ?_
                  have hK : (nxT r n e) = (1, a, q) := by (unfold nxT; rw [hx, nx_1 hla.1 hla.2, ← scn_t (P := (fun j => ltP (byA r n j))) hla.1 hla.2, hs2, hend])
                  have hFz : Fr [] [(57, 31), (57, 32), (57, 34), (57, 35), (57, 36)] M (uM (uM M2 57 34 1) 57 36 (kwV r n a q)) := (by (repeat (first | (refine Fr.uB ?_ (by decide)))); exact hF2.mo (by simp) (by simp))
                  have hzz : (uM (uM M2 57 34 1) 57 36 (kwV r n a q)) 57 34 = (1, a, q).1 ∧ (uM (uM M2 57 34 1) 57 36 (kwV r n a q)) 57 32 = (1, a, q).2.1 ∧ (uM (uM M2 57 34 1) 57 36 (kwV r n a q)) 57 31 = (1, a, q).2.2 ∧ (uM (uM M2 57 34 1) 57 36 (kwV r n a q)) 57 35 = vlV r n (1, a, q) ∧ (uM (uM M2 57 34 1) 57 36 (kwV r n a q)) 57 36 = wdV r n (1, a, q) := ⟨(by (repeat (first | (refine (uM_k (by decide)).trans ?_))); first | exact uM_same | exact rfl), (by (repeat (first | (refine (uM_k (by decide)).trans ?_))); first | exact uM_same | exact h322), (by (repeat (first | (refine (uM_k (by decide)).trans ?_))); first | exact uM_same | exact h312), (by (repeat (first | (refine (uM_k (by decide)).trans ?_))); first | exact uM_same | exact h352), by (show _ = (if (1 : Int) = 1 then kwV r n a q else -1); rw [if_pos rfl]; exact uM_same)⟩
                  refine R_goto hC dX12_go_151 (tgt := 280) (by decide) ?_
                  exact R_return hC dX12_go_280 rfl (ret_V (by rw [hK]; exact ⟨hFz, hzz⟩))
                · skip
                  replace hb114 := bP_nz hb114
                  have hlq : ltP (b0 r n q) := hb114
                  have hq9 := (b0_lt.mp hlq).1
                  refine R_aload_0 hC dX12_go_117 ?_
                  refine R_dup hC dX12_go_118 rfl ?_
                  refine R_getIE hC dX12_go_119 fl_12_207 (by decide) rfl (by decide) (by decide) (fi := 31) rfl h312 ?_
                  refine R_iconst hC dX12_go_122 ⟨by decide, by decide⟩ ?_
                  refine R_iadd hC dX12_go_123 ⟨by omega, by omega⟩ ?_
                  refine R_putI hC dX12_go_124 fl_12_207 (by decide) rfl (by decide) (by decide) (fi := 31) rfl ?_
                  refine R_goto hC dX12_go_127 (tgt := 103) (by decide) ?_
                  have hG6 : GR (uM M2 57 31 (q + 1)) := (GR.uF hg2 (by decide +kernel) (by decide))
                  exact ih103 (q + 1) _ (by omega) (by omega) hG6 uM_same (by (repeat (first | (refine (uM_k (by decide)).trans ?_))); first | exact uM_same | exact h322) (by (repeat (first | (refine (uM_k (by decide)).trans ?_))); first | exact uM_same | exact h352) (Fr.uB hF2 (by decide)) (by (rw [hs2]; exact scn_t (b0_lt.mp hlq).1 (b0_lt.mp hlq).2)) (by omega)
            have hG7 : GR (uM (uM (uM M1 57 32 a) 57 36 (-1)) 57 35 0) := (GR.uF (GR.uF hG1 (by decide +kernel) (by decide)) (by decide +kernel) (by decide))
            exact L103 _ a _ (by omega) (by omega) hG7 (by (repeat (first | (refine (uM_k (by decide)).trans ?_))); first | exact uM_same | exact h31) (by (repeat (first | (refine (uM_k (by decide)).trans ?_))); first | exact uM_same | exact rfl) (by (repeat (first | (refine (uM_k (by decide)).trans ?_))); first | exact uM_same | exact rfl) (by (repeat (first | (refine Fr.uB ?_ (by decide)))); exact hF.mo (by simp) (by simp)) rfl (Nat.lt_succ_self _)
        · skip
          have hK : (nxT r n e) = (0, a, a) := by (unfold nxT; rw [hx]; exact nx_0 (by omega))
          refine R_aload_0 hC dX12_go_88 ?_
          refine R_iconst hC dX12_go_89 ⟨by decide, by decide⟩ ?_
          refine R_putI hC dX12_go_90 fl_12_219 (by decide) rfl (by decide) (by decide) (fi := 34) rfl ?_
          have hFz : Fr [] [(57, 31), (57, 32), (57, 34), (57, 35), (57, 36)] M (uM (uM (uM (uM M1 57 32 a) 57 36 (-1)) 57 35 0) 57 34 0) := (by (repeat (first | (refine Fr.uB ?_ (by decide)))); exact hF.mo (by simp) (by simp))
          have hzz : (uM (uM (uM (uM M1 57 32 a) 57 36 (-1)) 57 35 0) 57 34 0) 57 34 = (0, a, a).1 ∧ (uM (uM (uM (uM M1 57 32 a) 57 36 (-1)) 57 35 0) 57 34 0) 57 32 = (0, a, a).2.1 ∧ (uM (uM (uM (uM M1 57 32 a) 57 36 (-1)) 57 35 0) 57 34 0) 57 31 = (0, a, a).2.2 ∧ (uM (uM (uM (uM M1 57 32 a) 57 36 (-1)) 57 35 0) 57 34 0) 57 35 = vlV r n (0, a, a) ∧ (uM (uM (uM (uM M1 57 32 a) 57 36 (-1)) 57 35 0) 57 34 0) 57 36 = wdV r n (0, a, a) := ⟨(by (repeat (first | (refine (uM_k (by decide)).trans ?_))); first | exact uM_same | exact rfl), (by (repeat (first | (refine (uM_k (by decide)).trans ?_))); first | exact uM_same | exact h32), (by (repeat (first | (refine (uM_k (by decide)).trans ?_))); first | exact uM_same | exact h31), (by (repeat (first | (refine (uM_k (by decide)).trans ?_))); first | exact uM_same | exact rfl), (by (repeat (first | (refine (uM_k (by decide)).trans ?_))); first | exact uM_same | exact rfl)⟩
          refine R_goto hC dX12_go_93 (tgt := 280) (by decide) ?_
          exact R_return hC dX12_go_280 rfl (ret_V (by rw [hK]; exact ⟨hFz, hzz⟩))
      refine R_icmp_ge hC dX12_go_8 (tgt := 50) (by decide) (fun hb8 => ?_) (fun hb8 => ?_)
      · skip
        have hxx : scn (fun j => blP (byA r n j)) n e = a := by (rw [hs]; exact scn_e hb8)
        exact L50  hxx
      · skip
        refine R_aload_0 hC dX12_go_11 ?_
        refine R_aload_0 hC dX12_go_12 ?_
        refine R_getIE hC dX12_go_13 fl_12_207 (by decide) rfl (by decide) (by decide) (fi := 31) rfl h31 ?_
        refine R_callVq (as := [vI _]) hC dX12_go_16 mo_12_byteAt ml_12_204 (by decide) rfl rfl (c12_byteAt  hg ((hF 57 33 (by decide) (by decide)).trans hn) (fun j p q => (congrFun (hF.row (by decide) (by decide)) j).trans (htp j p q)) (by omega) (by omega) (by omega)) rfl rfl hRm (by decide) (by decide) (Nat.le_of_ble_eq_true rfl) ?_
        refine R_bipush hC dX12_go_19 (by decide +kernel) ⟨by decide, by decide⟩ ?_
        refine R_icmp_eq hC dX12_go_21 (tgt := 37) (by decide) (fun hb21 => ?_) (fun hb21 => ?_)
        · skip
          have hbl : blP (byA r n a) := .inl (by rw [← b0_in hb8]; exact hb21)
          refine R_aload_0 hC dX12_go_37 ?_
          refine R_dup hC dX12_go_38 rfl ?_
          refine R_getIE hC dX12_go_39 fl_12_207 (by decide) rfl (by decide) (by decide) (fi := 31) rfl h31 ?_
          refine R_iconst hC dX12_go_42 ⟨by decide, by decide⟩ ?_
          refine R_iadd hC dX12_go_43 ⟨by omega, by omega⟩ ?_
          refine R_putI hC dX12_go_44 fl_12_207 (by decide) rfl (by decide) (by decide) (fi := 31) rfl ?_
          refine R_goto hC dX12_go_47 (tgt := 0) (by decide) ?_
          have hG8 : GR (uM M1 57 31 (a + 1)) := (GR.uF hg (by decide +kernel) (by decide))
          exact ih0 (a + 1) _ (by omega) (by omega) hG8 uM_same (Fr.uB hF (by decide)) (by (rw [hs]; exact scn_t hb8 hbl)) (by omega)
        · skip
          refine R_aload_0 hC dX12_go_24 ?_
          refine R_aload_0 hC dX12_go_25 ?_
          refine R_getIE hC dX12_go_26 fl_12_207 (by decide) rfl (by decide) (by decide) (fi := 31) rfl h31 ?_
          refine R_callVq (as := [vI _]) hC dX12_go_29 mo_12_byteAt ml_12_204 (by decide) rfl rfl (c12_byteAt  hg ((hF 57 33 (by decide) (by decide)).trans hn) (fun j p q => (congrFun (hF.row (by decide) (by decide)) j).trans (htp j p q)) (by omega) (by omega) (by omega)) rfl rfl hRm (by decide) (by decide) (Nat.le_of_ble_eq_true rfl) ?_
          refine R_bipush hC dX12_go_32 (by decide +kernel) ⟨by decide, by decide⟩ ?_
          refine R_icmp_ne hC dX12_go_34 (tgt := 50) (by decide) (fun hb34 => ?_) (fun hb34 => ?_)
          · skip
            have hxx : scn (fun j => blP (byA r n j)) n e = a := by (rw [hs]; exact scn_f (fun z => by rw [b0_in hb8] at hb21 hb34; exact z.elim hb21 hb34))
            exact L50  hxx
          · skip
            have hbl : blP (byA r n a) := .inr (by rw [← b0_in hb8]; exact hb34)
            refine R_aload_0 hC dX12_go_37 ?_
            refine R_dup hC dX12_go_38 rfl ?_
            refine R_getIE hC dX12_go_39 fl_12_207 (by decide) rfl (by decide) (by decide) (fi := 31) rfl h31 ?_
            refine R_iconst hC dX12_go_42 ⟨by decide, by decide⟩ ?_
            refine R_iadd hC dX12_go_43 ⟨by omega, by omega⟩ ?_
            refine R_putI hC dX12_go_44 fl_12_207 (by decide) rfl (by decide) (by decide) (fi := 31) rfl ?_
            refine R_goto hC dX12_go_47 (tgt := 0) (by decide) ?_
            have hG9 : GR (uM M1 57 31 (a + 1)) := (GR.uF hg (by decide +kernel) (by decide))
            exact ih0 (a + 1) _ (by omega) (by omega) hG9 uM_same (Fr.uB hF (by decide)) (by (rw [hs]; exact scn_t hb8 hbl)) (by omega)
  exact L0 _ e _ (by omega) (by omega) hG he Fr.rf rfl (Nat.lt_succ_self _)
