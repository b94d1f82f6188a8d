/-! the desk's questions -/
theorem dX11_count_0 : decode cX11_count 0 = .ok (.iload_n 1, 1) := by decide +kernel
theorem dX11_count_1 : decode cX11_count 1 = .ok (.tableswitch 276 0 27 #[127, 127, 127, 127, 127, 133, 133, 133, 133, 139, 139, 139, 145, 160, 182, 127, 127, 204, 204, 204, 204, 204, 204, 210, 232, 127, 127, 254], 127) := by decide +kernel
theorem dX11_count_128 : decode cX11_count 128 = .ok (.aload_n 0, 1) := by decide +kernel
theorem dX11_count_129 : decode cX11_count 129 = .ok (.iload_n 1, 1) := by decide +kernel
theorem dX11_count_130 : decode cX11_count 130 = .ok (.invokevirtual 141, 3) := by decide +kernel
theorem dX11_count_133 : decode cX11_count 133 = .ok (.ireturn, 1) := by decide +kernel
theorem dX11_count_134 : decode cX11_count 134 = .ok (.aload_n 0, 1) := by decide +kernel
theorem dX11_count_135 : decode cX11_count 135 = .ok (.iload_n 1, 1) := by decide +kernel
theorem dX11_count_136 : decode cX11_count 136 = .ok (.invokevirtual 145, 3) := by decide +kernel
theorem dX11_count_139 : decode cX11_count 139 = .ok (.ireturn, 1) := by decide +kernel
theorem dX11_count_140 : decode cX11_count 140 = .ok (.aload_n 0, 1) := by decide +kernel
theorem dX11_count_141 : decode cX11_count 141 = .ok (.iload_n 1, 1) := by decide +kernel
theorem dX11_count_142 : decode cX11_count 142 = .ok (.invokevirtual 148, 3) := by decide +kernel
theorem dX11_count_145 : decode cX11_count 145 = .ok (.ireturn, 1) := by decide +kernel
theorem dX11_count_146 : decode cX11_count 146 = .ok (.aload_n 0, 1) := by decide +kernel
theorem dX11_count_147 : decode cX11_count 147 = .ok (.getfield 70, 3) := by decide +kernel
theorem dX11_count_150 : decode cX11_count 150 = .ok (.aload_n 0, 1) := by decide +kernel
theorem dX11_count_151 : decode cX11_count 151 = .ok (.getfield 23, 3) := by decide +kernel
theorem dX11_count_154 : decode cX11_count 154 = .ok (.getfield 122, 3) := by decide +kernel
theorem dX11_count_157 : decode cX11_count 157 = .ok (.invokevirtual 151, 3) := by decide +kernel
theorem dX11_count_160 : decode cX11_count 160 = .ok (.ireturn, 1) := by decide +kernel
theorem dX11_count_161 : decode cX11_count 161 = .ok (.aload_n 0, 1) := by decide +kernel
theorem dX11_count_162 : decode cX11_count 162 = .ok (.getfield 70, 3) := by decide +kernel
theorem dX11_count_165 : decode cX11_count 165 = .ok (.aload_n 0, 1) := by decide +kernel
theorem dX11_count_166 : decode cX11_count 166 = .ok (.getfield 23, 3) := by decide +kernel
theorem dX11_count_169 : decode cX11_count 169 = .ok (.getfield 122, 3) := by decide +kernel
theorem dX11_count_172 : decode cX11_count 172 = .ok (.invokevirtual 155, 3) := by decide +kernel
theorem dX11_count_175 : decode cX11_count 175 = .ok (.aload_n 0, 1) := by decide +kernel
theorem dX11_count_176 : decode cX11_count 176 = .ok (.getfield 70, 3) := by decide +kernel
theorem dX11_count_179 : decode cX11_count 179 = .ok (.getfield 158, 3) := by decide +kernel
theorem dX11_count_182 : decode cX11_count 182 = .ok (.ireturn, 1) := by decide +kernel
theorem dX11_count_183 : decode cX11_count 183 = .ok (.aload_n 0, 1) := by decide +kernel
theorem dX11_count_184 : decode cX11_count 184 = .ok (.getfield 70, 3) := by decide +kernel
theorem dX11_count_187 : decode cX11_count 187 = .ok (.aload_n 0, 1) := by decide +kernel
theorem dX11_count_188 : decode cX11_count 188 = .ok (.getfield 23, 3) := by decide +kernel
theorem dX11_count_191 : decode cX11_count 191 = .ok (.getfield 122, 3) := by decide +kernel
theorem dX11_count_194 : decode cX11_count 194 = .ok (.invokevirtual 155, 3) := by decide +kernel
theorem dX11_count_197 : decode cX11_count 197 = .ok (.aload_n 0, 1) := by decide +kernel
theorem dX11_count_198 : decode cX11_count 198 = .ok (.getfield 70, 3) := by decide +kernel
theorem dX11_count_201 : decode cX11_count 201 = .ok (.getfield 161, 3) := by decide +kernel
theorem dX11_count_204 : decode cX11_count 204 = .ok (.ireturn, 1) := by decide +kernel
theorem dX11_count_205 : decode cX11_count 205 = .ok (.aload_n 0, 1) := by decide +kernel
theorem dX11_count_206 : decode cX11_count 206 = .ok (.iload_n 1, 1) := by decide +kernel
theorem dX11_count_207 : decode cX11_count 207 = .ok (.invokevirtual 164, 3) := by decide +kernel
theorem dX11_count_210 : decode cX11_count 210 = .ok (.ireturn, 1) := by decide +kernel
theorem dX11_count_211 : decode cX11_count 211 = .ok (.aload_n 0, 1) := by decide +kernel
theorem dX11_count_212 : decode cX11_count 212 = .ok (.getfield 84, 3) := by decide +kernel
theorem dX11_count_215 : decode cX11_count 215 = .ok (.aload_n 0, 1) := by decide +kernel
theorem dX11_count_216 : decode cX11_count 216 = .ok (.getfield 23, 3) := by decide +kernel
theorem dX11_count_219 : decode cX11_count 219 = .ok (.getfield 122, 3) := by decide +kernel
theorem dX11_count_222 : decode cX11_count 222 = .ok (.invokevirtual 167, 3) := by decide +kernel
theorem dX11_count_225 : decode cX11_count 225 = .ok (.aload_n 0, 1) := by decide +kernel
theorem dX11_count_226 : decode cX11_count 226 = .ok (.getfield 84, 3) := by decide +kernel
theorem dX11_count_229 : decode cX11_count 229 = .ok (.getfield 170, 3) := by decide +kernel
theorem dX11_count_232 : decode cX11_count 232 = .ok (.ireturn, 1) := by decide +kernel
theorem dX11_count_233 : decode cX11_count 233 = .ok (.aload_n 0, 1) := by decide +kernel
theorem dX11_count_234 : decode cX11_count 234 = .ok (.getfield 84, 3) := by decide +kernel
theorem dX11_count_237 : decode cX11_count 237 = .ok (.aload_n 0, 1) := by decide +kernel
theorem dX11_count_238 : decode cX11_count 238 = .ok (.getfield 23, 3) := by decide +kernel
theorem dX11_count_241 : decode cX11_count 241 = .ok (.getfield 122, 3) := by decide +kernel
theorem dX11_count_244 : decode cX11_count 244 = .ok (.invokevirtual 167, 3) := by decide +kernel
theorem dX11_count_247 : decode cX11_count 247 = .ok (.aload_n 0, 1) := by decide +kernel
theorem dX11_count_248 : decode cX11_count 248 = .ok (.getfield 84, 3) := by decide +kernel
theorem dX11_count_251 : decode cX11_count 251 = .ok (.getfield 173, 3) := by decide +kernel
theorem dX11_count_254 : decode cX11_count 254 = .ok (.ireturn, 1) := by decide +kernel
theorem dX11_count_255 : decode cX11_count 255 = .ok (.aload_n 0, 1) := by decide +kernel
theorem dX11_count_256 : decode cX11_count 256 = .ok (.getfield 77, 3) := by decide +kernel
theorem dX11_count_259 : decode cX11_count 259 = .ok (.aload_n 0, 1) := by decide +kernel
theorem dX11_count_260 : decode cX11_count 260 = .ok (.getfield 23, 3) := by decide +kernel
theorem dX11_count_263 : decode cX11_count 263 = .ok (.getfield 122, 3) := by decide +kernel
theorem dX11_count_266 : decode cX11_count 266 = .ok (.invokevirtual 176, 3) := by decide +kernel
theorem dX11_count_269 : decode cX11_count 269 = .ok (.aload_n 0, 1) := by decide +kernel
theorem dX11_count_270 : decode cX11_count 270 = .ok (.getfield 77, 3) := by decide +kernel
theorem dX11_count_273 : decode cX11_count 273 = .ok (.getfield 179, 3) := by decide +kernel
theorem dX11_count_276 : decode cX11_count 276 = .ok (.ireturn, 1) := by decide +kernel
theorem dX11_count_277 : decode cX11_count 277 = .ok (.new 182, 3) := by decide +kernel
theorem dX11_count_280 : decode cX11_count 280 = .ok (.dup, 1) := by decide +kernel
theorem dX11_count_281 : decode cX11_count 281 = .ok (.invokespecial 184, 3) := by decide +kernel
theorem dX11_count_284 : decode cX11_count 284 = .ok (.athrow, 1) := by decide +kernel
set_option maxHeartbeats 2000000 in
theorem c11_count {G : Gl} {l : Launch} {M : Mem} {d : Int → Int} {w : Int} (hT : (0 ≤ w ∧ w ≤ 27)) (hG : GR M) (hD : M 4 = d) (hSP : SP d) (hFP : FP M d) : Ct G LY 57 l 9 m11_count [vR 0, vI w] M (fun o M' => ∃ v, o = some (vI v) ∧ (0 ≤ w ∧ w ≤ 27) ∧ Fr [25, 26, 27, 28, 29, 30, 31, 32, 33, 34, 35, 37, 40, 42, 43, 44, 47, 48, 50, 51, 54, 56] [(24, 11), (24, 12), (24, 13), (36, 2), (36, 3), (0, 10), (38, 2), (38, 3), (41, 3), (41, 5), (41, 6), (41, 7), (41, 8), (45, 3), (45, 4), (49, 3), (49, 4), (49, 5), (49, 6), (52, 1), (52, 3), (53, 2), (53, 3)] M M' ∧ (GR M' ∧ FP M' d) ∧ (w = 0 → v = d 121) ∧ (w = 1 → v = d 122) ∧ (w = 2 → v = d 118) ∧ (w = 3 → v = heldAll d) ∧ (w = 4 → v = d 119) ∧ (w = 5 → v = bP (planI (insOf d))) ∧ (w = 6 → v = SPC (insOf d)) ∧ (w = 7 → v = if SPC (insOf d) = -1 then -1 else if iW (insOf d) = 0 then 0 else MC (insOf d) 1) ∧ (w = 8 → v = itc (planI (insOf d)) (chgs (plT (insOf d)) d) (-1)) ∧ (w = 9 → v = lackI (insOf d) (worst (insOf d))) ∧ (w = 10 → v = worst (insOf d)) ∧ (w = 11 → v = bits (d 122).toNat (fun w => spr d w < ss (fun x => offr d x w) (worst (insOf d)))) ∧ (w = 12 → LateV d v) ∧ (w = 13 → v = (ca (itwP d) (d 122) (d 121).toNat).1) ∧ (w = 14 → v = (ca (itwP d) (d 122) (d 121).toNat).2) ∧ (w = 15 → v = bits (d 122).toNat (fun k => allOf d k = 1)) ∧ (w = 16 → v = bits (d 122).toNat (fun k => 0 < shrt d k)) ∧ (w = 17 → v = M 5 4) ∧ (w = 18 → v = M 2 3) ∧ (w = 19 → v = M 0 1) ∧ (w = 20 → v = M 10 0) ∧ (w = 21 → v = M 10 1) ∧ (w = 22 → v = M 10 2) ∧ (w = 23 → ∃ f, HelpC d v f) ∧ (w = 24 → ∃ f, HelpC d f v) ∧ (w = 25 → v = d 120) ∧ (w = 26 → v = stor d) ∧ (w = 27 → ∃ b o e, RK (d 122) (fun w => d (10 + w)) b ∧ v = (luF (insOf d) b (d 121).toNat 0 0 0 (spr d) o (0, -1, e)).2.1)) := by
  refine R_start (by decide +kernel) (Nat.le_of_ble_eq_true rfl) (fun C hC hRm hlau => ?_)
  show RZ G LY C (Zn G LY 57 C (fun o M' => ∃ v, o = some (vI v) ∧ (0 ≤ w ∧ w ≤ 27) ∧ Fr [25, 26, 27, 28, 29, 30, 31, 32, 33, 34, 35, 37, 40, 42, 43, 44, 47, 48, 50, 51, 54, 56] [(24, 11), (24, 12), (24, 13), (36, 2), (36, 3), (0, 10), (38, 2), (38, 3), (41, 3), (41, 5), (41, 6), (41, 7), (41, 8), (45, 3), (45, 4), (49, 3), (49, 4), (49, 5), (49, 6), (52, 1), (52, 3), (53, 2), (53, 3)] M M' ∧ (GR M' ∧ FP M' d) ∧ (w = 0 → v = d 121) ∧ (w = 1 → v = d 122) ∧ (w = 2 → v = d 118) ∧ (w = 3 → v = heldAll d) ∧ (w = 4 → v = d 119) ∧ (w = 5 → v = bP (planI (insOf d))) ∧ (w = 6 → v = SPC (insOf d)) ∧ (w = 7 → v = if SPC (insOf d) = -1 then -1 else if iW (insOf d) = 0 then 0 else MC (insOf d) 1) ∧ (w = 8 → v = itc (planI (insOf d)) (chgs (plT (insOf d)) d) (-1)) ∧ (w = 9 → v = lackI (insOf d) (worst (insOf d))) ∧ (w = 10 → v = worst (insOf d)) ∧ (w = 11 → v = bits (d 122).toNat (fun w => spr d w < ss (fun x => offr d x w) (worst (insOf d)))) ∧ (w = 12 → LateV d v) ∧ (w = 13 → v = (ca (itwP d) (d 122) (d 121).toNat).1) ∧ (w = 14 → v = (ca (itwP d) (d 122) (d 121).toNat).2) ∧ (w = 15 → v = bits (d 122).toNat (fun k => allOf d k = 1)) ∧ (w = 16 → v = bits (d 122).toNat (fun k => 0 < shrt d k)) ∧ (w = 17 → v = M 5 4) ∧ (w = 18 → v = M 2 3) ∧ (w = 19 → v = M 0 1) ∧ (w = 20 → v = M 10 0) ∧ (w = 21 → v = M 10 1) ∧ (w = 22 → v = M 10 2) ∧ (w = 23 → ∃ f, HelpC d v f) ∧ (w = 24 → ∃ f, HelpC d f v) ∧ (w = 25 → v = d 120) ∧ (w = 26 → v = stor d) ∧ (w = 27 → ∃ b o e, RK (d 122) (fun w => d (10 + w)) b ∧ v = (luF (insOf d) b (d 121).toNat 0 0 0 (spr d) o (0, -1, e)).2.1))) 0 0 57 0 [some (vR 0), some (vI w)] [] M
  have hB9 := hSP.B
  have hL0 := hSP.1.1.1
  have hL1 := hSP.1.1.2
  have hW0 := hSP.1.2.1
  have hW1 := hSP.1.2.2
  refine R_iload_1 hC dX11_count_0 ?_
  by_cases hsw : w < 0 ∨ 27 < w
  · skip
    refine R_tableOut hC dX11_count_1 hsw (tgt := 277) (by decide) ?_
    exact absurd hT (by omega)
  have hsw2 : w = 0 ∨ w = 1 ∨ w = 2 ∨ w = 3 ∨ w = 4 ∨ w = 5 ∨ w = 6 ∨ w = 7 ∨ w = 8 ∨ w = 9 ∨ w = 10 ∨ w = 11 ∨ w = 12 ∨ w = 13 ∨ w = 14 ∨ w = 15 ∨ w = 16 ∨ w = 17 ∨ w = 18 ∨ w = 19 ∨ w = 20 ∨ w = 21 ∨ w = 22 ∨ w = 23 ∨ w = 24 ∨ w = 25 ∨ w = 26 ∨ w = 27 := by omega
  rcases hsw2 with hsw2 | hsw2 | hsw2 | hsw2 | hsw2 | hsw2 | hsw2 | hsw2 | hsw2 | hsw2 | hsw2 | hsw2 | hsw2 | hsw2 | hsw2 | hsw2 | hsw2 | hsw2 | hsw2 | hsw2 | hsw2 | hsw2 | hsw2 | hsw2 | hsw2 | hsw2 | hsw2 | hsw2
  · skip
    subst hsw2
    refine R_tableIn hC dX11_count_1 (off := 127) (by omega) (by omega) rfl (tgt := 128) (by decide) ?_
    refine R_aload_0 hC dX11_count_128 ?_
    refine R_iload_1 hC dX11_count_129 ?_
    refine R_callVp (as := [vI _]) hC dX11_count_130 mo_11_countInStock ml_11_141 (by decide) rfl rfl (c11_countInStock  hG hD hSP (by decide)) rfl rfl hRm (by decide) (by decide) (Nat.le_of_ble_eq_true rfl) (fun v3 Mc1 hq2 => ?_)
    have hG4 : GR Mc1 := (GR.fr hG hq2.1 (by decide +kernel))
    exact R_ireturn hC dX11_count_133 rfl (⟨_, rfl, by decide, hq2.1.mo (by simp) (by simp), ⟨hG4, hFP.fr hq2.1 (by decide +kernel)⟩, by
        refine ⟨?_, ?_, ?_, ?_, ?_, ?_, ?_, ?_, ?_, ?_, ?_, ?_, ?_, ?_, ?_, ?_, ?_, ?_, ?_, ?_, ?_, ?_, ?_, ?_, ?_, ?_, ?_, ?_⟩ <;> intro h <;> first | exact absurd h (by decide) | (exfalso; omega) | exact hq2.2.1 rfl | exact hq2.2.2.1 rfl | exact hq2.2.2.2.1 rfl | exact hq2.2.2.2.2.1 rfl | exact hq2.2.2.2.2.2.1 rfl | exact hq2.2.2.2.2.2.2.1 rfl | exact hq2.2.2.2.2.2.2.2.1 rfl | exact hq2.2.2.2.2.2.2.2.2.1 rfl | exact hq2.2.2.2.2.2.2.2.2.2 rfl⟩)
  · skip
    subst hsw2
    refine R_tableIn hC dX11_count_1 (off := 127) (by omega) (by omega) rfl (tgt := 128) (by decide) ?_
    refine R_aload_0 hC dX11_count_128 ?_
    refine R_iload_1 hC dX11_count_129 ?_
    refine R_callVp (as := [vI _]) hC dX11_count_130 mo_11_countInStock ml_11_141 (by decide) rfl rfl (c11_countInStock  hG hD hSP (by decide)) rfl rfl hRm (by decide) (by decide) (Nat.le_of_ble_eq_true rfl) (fun v7 Mc5 hq6 => ?_)
    have hG8 : GR Mc5 := (GR.fr hG hq6.1 (by decide +kernel))
    exact R_ireturn hC dX11_count_133 rfl (⟨_, rfl, by decide, hq6.1.mo (by simp) (by simp), ⟨hG8, hFP.fr hq6.1 (by decide +kernel)⟩, by
        refine ⟨?_, ?_, ?_, ?_, ?_, ?_, ?_, ?_, ?_, ?_, ?_, ?_, ?_, ?_, ?_, ?_, ?_, ?_, ?_, ?_, ?_, ?_, ?_, ?_, ?_, ?_, ?_, ?_⟩ <;> intro h <;> first | exact absurd h (by decide) | (exfalso; omega) | exact hq6.2.1 rfl | exact hq6.2.2.1 rfl | exact hq6.2.2.2.1 rfl | exact hq6.2.2.2.2.1 rfl | exact hq6.2.2.2.2.2.1 rfl | exact hq6.2.2.2.2.2.2.1 rfl | exact hq6.2.2.2.2.2.2.2.1 rfl | exact hq6.2.2.2.2.2.2.2.2.1 rfl | exact hq6.2.2.2.2.2.2.2.2.2 rfl⟩)
  · skip
    subst hsw2
    refine R_tableIn hC dX11_count_1 (off := 127) (by omega) (by omega) rfl (tgt := 128) (by decide) ?_
    refine R_aload_0 hC dX11_count_128 ?_
    refine R_iload_1 hC dX11_count_129 ?_
    refine R_callVp (as := [vI _]) hC dX11_count_130 mo_11_countInStock ml_11_141 (by decide) rfl rfl (c11_countInStock  hG hD hSP (by decide)) rfl rfl hRm (by decide) (by decide) (Nat.le_of_ble_eq_true rfl) (fun v11 Mc9 hq10 => ?_)
    have hG12 : GR Mc9 := (GR.fr hG hq10.1 (by decide +kernel))
    exact R_ireturn hC dX11_count_133 rfl (⟨_, rfl, by decide, hq10.1.mo (by simp) (by simp), ⟨hG12, hFP.fr hq10.1 (by decide +kernel)⟩, by
        refine ⟨?_, ?_, ?_, ?_, ?_, ?_, ?_, ?_, ?_, ?_, ?_, ?_, ?_, ?_, ?_, ?_, ?_, ?_, ?_, ?_, ?_, ?_, ?_, ?_, ?_, ?_, ?_, ?_⟩ <;> intro h <;> first | exact absurd h (by decide) | (exfalso; omega) | exact hq10.2.1 rfl | exact hq10.2.2.1 rfl | exact hq10.2.2.2.1 rfl | exact hq10.2.2.2.2.1 rfl | exact hq10.2.2.2.2.2.1 rfl | exact hq10.2.2.2.2.2.2.1 rfl | exact hq10.2.2.2.2.2.2.2.1 rfl | exact hq10.2.2.2.2.2.2.2.2.1 rfl | exact hq10.2.2.2.2.2.2.2.2.2 rfl⟩)
  · skip
    subst hsw2
    refine R_tableIn hC dX11_count_1 (off := 127) (by omega) (by omega) rfl (tgt := 128) (by decide) ?_
    refine R_aload_0 hC dX11_count_128 ?_
    refine R_iload_1 hC dX11_count_129 ?_
    refine R_callVp (as := [vI _]) hC dX11_count_130 mo_11_countInStock ml_11_141 (by decide) rfl rfl (c11_countInStock  hG hD hSP (by decide)) rfl rfl hRm (by decide) (by decide) (Nat.le_of_ble_eq_true rfl) (fun v15 Mc13 hq14 => ?_)
    have hG16 : GR Mc13 := (GR.fr hG hq14.1 (by decide +kernel))
    exact R_ireturn hC dX11_count_133 rfl (⟨_, rfl, by decide, hq14.1.mo (by simp) (by simp), ⟨hG16, hFP.fr hq14.1 (by decide +kernel)⟩, by
        refine ⟨?_, ?_, ?_, ?_, ?_, ?_, ?_, ?_, ?_, ?_, ?_, ?_, ?_, ?_, ?_, ?_, ?_, ?_, ?_, ?_, ?_, ?_, ?_, ?_, ?_, ?_, ?_, ?_⟩ <;> intro h <;> first | exact absurd h (by decide) | (exfalso; omega) | exact hq14.2.1 rfl | exact hq14.2.2.1 rfl | exact hq14.2.2.2.1 rfl | exact hq14.2.2.2.2.1 rfl | exact hq14.2.2.2.2.2.1 rfl | exact hq14.2.2.2.2.2.2.1 rfl | exact hq14.2.2.2.2.2.2.2.1 rfl | exact hq14.2.2.2.2.2.2.2.2.1 rfl | exact hq14.2.2.2.2.2.2.2.2.2 rfl⟩)
  · skip
    subst hsw2
    refine R_tableIn hC dX11_count_1 (off := 127) (by omega) (by omega) rfl (tgt := 128) (by decide) ?_
    refine R_aload_0 hC dX11_count_128 ?_
    refine R_iload_1 hC dX11_count_129 ?_
    refine R_callVp (as := [vI _]) hC dX11_count_130 mo_11_countInStock ml_11_141 (by decide) rfl rfl (c11_countInStock  hG hD hSP (by decide)) rfl rfl hRm (by decide) (by decide) (Nat.le_of_ble_eq_true rfl) (fun v19 Mc17 hq18 => ?_)
    have hG20 : GR Mc17 := (GR.fr hG hq18.1 (by decide +kernel))
    exact R_ireturn hC dX11_count_133 rfl (⟨_, rfl, by decide, hq18.1.mo (by simp) (by simp), ⟨hG20, hFP.fr hq18.1 (by decide +kernel)⟩, by
        refine ⟨?_, ?_, ?_, ?_, ?_, ?_, ?_, ?_, ?_, ?_, ?_, ?_, ?_, ?_, ?_, ?_, ?_, ?_, ?_, ?_, ?_, ?_, ?_, ?_, ?_, ?_, ?_, ?_⟩ <;> intro h <;> first | exact absurd h (by decide) | (exfalso; omega) | exact hq18.2.1 rfl | exact hq18.2.2.1 rfl | exact hq18.2.2.2.1 rfl | exact hq18.2.2.2.2.1 rfl | exact hq18.2.2.2.2.2.1 rfl | exact hq18.2.2.2.2.2.2.1 rfl | exact hq18.2.2.2.2.2.2.2.1 rfl | exact hq18.2.2.2.2.2.2.2.2.1 rfl | exact hq18.2.2.2.2.2.2.2.2.2 rfl⟩)
  · skip
    subst hsw2
    refine R_tableIn hC dX11_count_1 (off := 133) (by omega) (by omega) rfl (tgt := 134) (by decide) ?_
    refine R_aload_0 hC dX11_count_134 ?_
    refine R_iload_1 hC dX11_count_135 ?_
    refine R_callVp (as := [vI _]) hC dX11_count_136 mo_11_countOfPlan ml_11_145 (by decide) rfl rfl (c11_countOfPlan  hG hD hSP hFP (by decide)) rfl rfl hRm (by decide) (by decide) (Nat.le_of_ble_eq_true rfl) (fun v23 Mc21 hq22 => ?_)
    have hG24 : GR Mc21 := (GR.fr hG hq22.1 (by decide +kernel))
    exact R_ireturn hC dX11_count_139 rfl (⟨_, rfl, by decide, hq22.1.mo (by simp) (by simp), ⟨hG24, hq22.2.1⟩, by
        refine ⟨?_, ?_, ?_, ?_, ?_, ?_, ?_, ?_, ?_, ?_, ?_, ?_, ?_, ?_, ?_, ?_, ?_, ?_, ?_, ?_, ?_, ?_, ?_, ?_, ?_, ?_, ?_, ?_⟩ <;> intro h <;> first | exact absurd h (by decide) | (exfalso; omega) | exact hq22.2.2.1 rfl | exact hq22.2.2.2.1 rfl | exact hq22.2.2.2.2.1 rfl | exact hq22.2.2.2.2.2 rfl⟩)
  · skip
    subst hsw2
    refine R_tableIn hC dX11_count_1 (off := 133) (by omega) (by omega) rfl (tgt := 134) (by decide) ?_
    refine R_aload_0 hC dX11_count_134 ?_
    refine R_iload_1 hC dX11_count_135 ?_
    refine R_callVp (as := [vI _]) hC dX11_count_136 mo_11_countOfPlan ml_11_145 (by decide) rfl rfl (c11_countOfPlan  hG hD hSP hFP (by decide)) rfl rfl hRm (by decide) (by decide) (Nat.le_of_ble_eq_true rfl) (fun v27 Mc25 hq26 => ?_)
    have hG28 : GR Mc25 := (GR.fr hG hq26.1 (by decide +kernel))
    exact R_ireturn hC dX11_count_139 rfl (⟨_, rfl, by decide, hq26.1.mo (by simp) (by simp), ⟨hG28, hq26.2.1⟩, by
        refine ⟨?_, ?_, ?_, ?_, ?_, ?_, ?_, ?_, ?_, ?_, ?_, ?_, ?_, ?_, ?_, ?_, ?_, ?_, ?_, ?_, ?_, ?_, ?_, ?_, ?_, ?_, ?_, ?_⟩ <;> intro h <;> first | exact absurd h (by decide) | (exfalso; omega) | exact hq26.2.2.1 rfl | exact hq26.2.2.2.1 rfl | exact hq26.2.2.2.2.1 rfl | exact hq26.2.2.2.2.2 rfl⟩)
  · skip
    subst hsw2
    refine R_tableIn hC dX11_count_1 (off := 133) (by omega) (by omega) rfl (tgt := 134) (by decide) ?_
    refine R_aload_0 hC dX11_count_134 ?_
    refine R_iload_1 hC dX11_count_135 ?_
    refine R_callVp (as := [vI _]) hC dX11_count_136 mo_11_countOfPlan ml_11_145 (by decide) rfl rfl (c11_countOfPlan  hG hD hSP hFP (by decide)) rfl rfl hRm (by decide) (by decide) (Nat.le_of_ble_eq_true rfl) (fun v31 Mc29 hq30 => ?_)
    have hG32 : GR Mc29 := (GR.fr hG hq30.1 (by decide +kernel))
    exact R_ireturn hC dX11_count_139 rfl (⟨_, rfl, by decide, hq30.1.mo (by simp) (by simp), ⟨hG32, hq30.2.1⟩, by
        refine ⟨?_, ?_, ?_, ?_, ?_, ?_, ?_, ?_, ?_, ?_, ?_, ?_, ?_, ?_, ?_, ?_, ?_, ?_, ?_, ?_, ?_, ?_, ?_, ?_, ?_, ?_, ?_, ?_⟩ <;> intro h <;> first | exact absurd h (by decide) | (exfalso; omega) | exact hq30.2.2.1 rfl | exact hq30.2.2.2.1 rfl | exact hq30.2.2.2.2.1 rfl | exact hq30.2.2.2.2.2 rfl⟩)
  · skip
    subst hsw2
    refine R_tableIn hC dX11_count_1 (off := 133) (by omega) (by omega) rfl (tgt := 134) (by decide) ?_
    refine R_aload_0 hC dX11_count_134 ?_
    refine R_iload_1 hC dX11_count_135 ?_
    refine R_callVp (as := [vI _]) hC dX11_count_136 mo_11_countOfPlan ml_11_145 (by decide) rfl rfl (c11_countOfPlan  hG hD hSP hFP (by decide)) rfl rfl hRm (by decide) (by decide) (Nat.le_of_ble_eq_true rfl) (fun v35 Mc33 hq34 => ?_)
    have hG36 : GR Mc33 := (GR.fr hG hq34.1 (by decide +kernel))
    exact R_ireturn hC dX11_count_139 rfl (⟨_, rfl, by decide, hq34.1.mo (by simp) (by simp), ⟨hG36, hq34.2.1⟩, by
        refine ⟨?_, ?_, ?_, ?_, ?_, ?_, ?_, ?_, ?_, ?_, ?_, ?_, ?_, ?_, ?_, ?_, ?_, ?_, ?_, ?_, ?_, ?_, ?_, ?_, ?_, ?_, ?_, ?_⟩ <;> intro h <;> first | exact absurd h (by decide) | (exfalso; omega) | exact hq34.2.2.1 rfl | exact hq34.2.2.2.1 rfl | exact hq34.2.2.2.2.1 rfl | exact hq34.2.2.2.2.2 rfl⟩)
  · skip
    subst hsw2
    refine R_tableIn hC dX11_count_1 (off := 139) (by omega) (by omega) rfl (tgt := 140) (by decide) ?_
    refine R_aload_0 hC dX11_count_140 ?_
    refine R_iload_1 hC dX11_count_141 ?_
    refine R_callVp (as := [vI _]) hC dX11_count_142 mo_11_countOfShortage ml_11_148 (by decide) rfl rfl (c11_countOfShortage  hG hD hSP hFP (by decide)) rfl rfl hRm (by decide) (by decide) (Nat.le_of_ble_eq_true rfl) (fun v39 Mc37 hq38 => ?_)
    have hG40 : GR Mc37 := (GR.fr hG hq38.1 (by decide +kernel))
    exact R_ireturn hC dX11_count_145 rfl (⟨_, rfl, by decide, hq38.1.mo (by simp) (by simp), ⟨hG40, hq38.2.1⟩, by
        refine ⟨?_, ?_, ?_, ?_, ?_, ?_, ?_, ?_, ?_, ?_, ?_, ?_, ?_, ?_, ?_, ?_, ?_, ?_, ?_, ?_, ?_, ?_, ?_, ?_, ?_, ?_, ?_, ?_⟩ <;> intro h <;> first | exact absurd h (by decide) | (exfalso; omega) | exact hq38.2.2.1 rfl | exact hq38.2.2.2.1 rfl | exact hq38.2.2.2.2 rfl⟩)
  · skip
    subst hsw2
    refine R_tableIn hC dX11_count_1 (off := 139) (by omega) (by omega) rfl (tgt := 140) (by decide) ?_
    refine R_aload_0 hC dX11_count_140 ?_
    refine R_iload_1 hC dX11_count_141 ?_
    refine R_callVp (as := [vI _]) hC dX11_count_142 mo_11_countOfShortage ml_11_148 (by decide) rfl rfl (c11_countOfShortage  hG hD hSP hFP (by decide)) rfl rfl hRm (by decide) (by decide) (Nat.le_of_ble_eq_true rfl) (fun v43 Mc41 hq42 => ?_)
    have hG44 : GR Mc41 := (GR.fr hG hq42.1 (by decide +kernel))
    exact R_ireturn hC dX11_count_145 rfl (⟨_, rfl, by decide, hq42.1.mo (by simp) (by simp), ⟨hG44, hq42.2.1⟩, by
        refine ⟨?_, ?_, ?_, ?_, ?_, ?_, ?_, ?_, ?_, ?_, ?_, ?_, ?_, ?_, ?_, ?_, ?_, ?_, ?_, ?_, ?_, ?_, ?_, ?_, ?_, ?_, ?_, ?_⟩ <;> intro h <;> first | exact absurd h (by decide) | (exfalso; omega) | exact hq42.2.2.1 rfl | exact hq42.2.2.2.1 rfl | exact hq42.2.2.2.2 rfl⟩)
  · skip
    subst hsw2
    refine R_tableIn hC dX11_count_1 (off := 139) (by omega) (by omega) rfl (tgt := 140) (by decide) ?_
    refine R_aload_0 hC dX11_count_140 ?_
    refine R_iload_1 hC dX11_count_141 ?_
    refine R_callVp (as := [vI _]) hC dX11_count_142 mo_11_countOfShortage ml_11_148 (by decide) rfl rfl (c11_countOfShortage  hG hD hSP hFP (by decide)) rfl rfl hRm (by decide) (by decide) (Nat.le_of_ble_eq_true rfl) (fun v47 Mc45 hq46 => ?_)
    have hG48 : GR Mc45 := (GR.fr hG hq46.1 (by decide +kernel))
    exact R_ireturn hC dX11_count_145 rfl (⟨_, rfl, by decide, hq46.1.mo (by simp) (by simp), ⟨hG48, hq46.2.1⟩, by
        refine ⟨?_, ?_, ?_, ?_, ?_, ?_, ?_, ?_, ?_, ?_, ?_, ?_, ?_, ?_, ?_, ?_, ?_, ?_, ?_, ?_, ?_, ?_, ?_, ?_, ?_, ?_, ?_, ?_⟩ <;> intro h <;> first | exact absurd h (by decide) | (exfalso; omega) | exact hq46.2.2.1 rfl | exact hq46.2.2.2.1 rfl | exact hq46.2.2.2.2 rfl⟩)
  · skip
    subst hsw2
    refine R_tableIn hC dX11_count_1 (off := 145) (by omega) (by omega) rfl (tgt := 146) (by decide) ?_
    refine R_aload_0 hC dX11_count_146 ?_
    refine R_getR hC dX11_count_147 fl_11_70 (by decide) rfl (by decide) (by decide) (fi := 11) rfl (r := 38) (gr_0_11 hG) ?_
    refine R_aload_0 hC dX11_count_150 ?_
    refine R_getR hC dX11_count_151 fl_11_23 (by decide) rfl (by decide) (by decide) (fi := 3) rfl (r := 2) (gr_0_3 hG) ?_
    refine R_getR hC dX11_count_154 fl_11_122 (by decide) rfl (by decide) (by decide) (fi := 0) rfl (r := 3) (gr_2_0 hG) ?_
    refine R_callVp (as := [vR _]) hC dX11_count_157 mo_4_late ml_11_151 (by decide) rfl rfl (c4_late  hG hD hSP) rfl rfl hRm (by decide) (by decide) (Nat.le_of_ble_eq_true rfl) (fun v51 Mc49 hq50 => ?_)
    have hG52 := hq50.2.1
    exact R_ireturn hC dX11_count_160 rfl (⟨_, rfl, by decide, hq50.1.mo (by simp) (by simp), ⟨hG52, hFP.fr hq50.1 (by decide +kernel)⟩, by
        refine ⟨?_, ?_, ?_, ?_, ?_, ?_, ?_, ?_, ?_, ?_, ?_, ?_, ?_, ?_, ?_, ?_, ?_, ?_, ?_, ?_, ?_, ?_, ?_, ?_, ?_, ?_, ?_, ?_⟩ <;> intro h <;> first | exact absurd h (by decide) | (exfalso; omega) | exact hq50.2.2⟩)
  · skip
    subst hsw2
    refine R_tableIn hC dX11_count_1 (off := 160) (by omega) (by omega) rfl (tgt := 161) (by decide) ?_
    refine R_aload_0 hC dX11_count_161 ?_
    refine R_getR hC dX11_count_162 fl_11_70 (by decide) rfl (by decide) (by decide) (fi := 11) rfl (r := 38) (gr_0_11 hG) ?_
    refine R_aload_0 hC dX11_count_165 ?_
    refine R_getR hC dX11_count_166 fl_11_23 (by decide) rfl (by decide) (by decide) (fi := 3) rfl (r := 2) (gr_0_3 hG) ?_
    refine R_getR hC dX11_count_169 fl_11_122 (by decide) rfl (by decide) (by decide) (fi := 0) rfl (r := 3) (gr_2_0 hG) ?_
    refine R_callVv (as := [vR _]) hC dX11_count_172 mo_4_findInTheWay ml_11_155 (by decide) rfl rfl (c4_findInTheWay  hG hD hSP) rfl rfl hRm (by decide) (by decide) (Nat.le_of_ble_eq_true rfl) (fun Mc53 hq54 => ?_)
    refine R_aload_0 hC dX11_count_175 ?_
    have hG55 : GR Mc53 := (GR.fr hG hq54.1 (by decide +kernel))
    refine R_getR hC dX11_count_176 fl_11_70 (by decide) rfl (by decide) (by decide) (fi := 11) rfl (r := 38) (gr_0_11 hG55) ?_
    refine R_getI hC dX11_count_179 fl_11_158 (by decide) rfl (by decide) (by decide) (fi := 2) rfl ?_
    exact R_ireturn hC dX11_count_182 rfl (⟨_, rfl, by decide, hq54.1.mo (by simp) (by simp), ⟨hG55, hFP.fr hq54.1 (by decide +kernel)⟩, by
        refine ⟨?_, ?_, ?_, ?_, ?_, ?_, ?_, ?_, ?_, ?_, ?_, ?_, ?_, ?_, ?_, ?_, ?_, ?_, ?_, ?_, ?_, ?_, ?_, ?_, ?_, ?_, ?_, ?_⟩ <;> intro h <;> first | exact absurd h (by decide) | (exfalso; omega) | exact congrArg Prod.fst hq54.2⟩)
  · skip
    subst hsw2
    refine R_tableIn hC dX11_count_1 (off := 182) (by omega) (by omega) rfl (tgt := 183) (by decide) ?_
    refine R_aload_0 hC dX11_count_183 ?_
    refine R_getR hC dX11_count_184 fl_11_70 (by decide) rfl (by decide) (by decide) (fi := 11) rfl (r := 38) (gr_0_11 hG) ?_
    refine R_aload_0 hC dX11_count_187 ?_
    refine R_getR hC dX11_count_188 fl_11_23 (by decide) rfl (by decide) (by decide) (fi := 3) rfl (r := 2) (gr_0_3 hG) ?_
    refine R_getR hC dX11_count_191 fl_11_122 (by decide) rfl (by decide) (by decide) (fi := 0) rfl (r := 3) (gr_2_0 hG) ?_
    refine R_callVv (as := [vR _]) hC dX11_count_194 mo_4_findInTheWay ml_11_155 (by decide) rfl rfl (c4_findInTheWay  hG hD hSP) rfl rfl hRm (by decide) (by decide) (Nat.le_of_ble_eq_true rfl) (fun Mc56 hq57 => ?_)
    refine R_aload_0 hC dX11_count_197 ?_
    have hG58 : GR Mc56 := (GR.fr hG hq57.1 (by decide +kernel))
    refine R_getR hC dX11_count_198 fl_11_70 (by decide) rfl (by decide) (by decide) (fi := 11) rfl (r := 38) (gr_0_11 hG58) ?_
    refine R_getI hC dX11_count_201 fl_11_161 (by decide) rfl (by decide) (by decide) (fi := 3) rfl ?_
    exact R_ireturn hC dX11_count_204 rfl (⟨_, rfl, by decide, hq57.1.mo (by simp) (by simp), ⟨hG58, hFP.fr hq57.1 (by decide +kernel)⟩, by
        refine ⟨?_, ?_, ?_, ?_, ?_, ?_, ?_, ?_, ?_, ?_, ?_, ?_, ?_, ?_, ?_, ?_, ?_, ?_, ?_, ?_, ?_, ?_, ?_, ?_, ?_, ?_, ?_, ?_⟩ <;> intro h <;> first | exact absurd h (by decide) | (exfalso; omega) | exact congrArg Prod.snd hq57.2⟩)
  · skip
    subst hsw2
    refine R_tableIn hC dX11_count_1 (off := 127) (by omega) (by omega) rfl (tgt := 128) (by decide) ?_
    refine R_aload_0 hC dX11_count_128 ?_
    refine R_iload_1 hC dX11_count_129 ?_
    refine R_callVp (as := [vI _]) hC dX11_count_130 mo_11_countInStock ml_11_141 (by decide) rfl rfl (c11_countInStock  hG hD hSP (by decide)) rfl rfl hRm (by decide) (by decide) (Nat.le_of_ble_eq_true rfl) (fun v61 Mc59 hq60 => ?_)
    have hG62 : GR Mc59 := (GR.fr hG hq60.1 (by decide +kernel))
    exact R_ireturn hC dX11_count_133 rfl (⟨_, rfl, by decide, hq60.1.mo (by simp) (by simp), ⟨hG62, hFP.fr hq60.1 (by decide +kernel)⟩, by
        refine ⟨?_, ?_, ?_, ?_, ?_, ?_, ?_, ?_, ?_, ?_, ?_, ?_, ?_, ?_, ?_, ?_, ?_, ?_, ?_, ?_, ?_, ?_, ?_, ?_, ?_, ?_, ?_, ?_⟩ <;> intro h <;> first | exact absurd h (by decide) | (exfalso; omega) | exact hq60.2.1 rfl | exact hq60.2.2.1 rfl | exact hq60.2.2.2.1 rfl | exact hq60.2.2.2.2.1 rfl | exact hq60.2.2.2.2.2.1 rfl | exact hq60.2.2.2.2.2.2.1 rfl | exact hq60.2.2.2.2.2.2.2.1 rfl | exact hq60.2.2.2.2.2.2.2.2.1 rfl | exact hq60.2.2.2.2.2.2.2.2.2 rfl⟩)
  · skip
    subst hsw2
    refine R_tableIn hC dX11_count_1 (off := 127) (by omega) (by omega) rfl (tgt := 128) (by decide) ?_
    refine R_aload_0 hC dX11_count_128 ?_
    refine R_iload_1 hC dX11_count_129 ?_
    refine R_callVp (as := [vI _]) hC dX11_count_130 mo_11_countInStock ml_11_141 (by decide) rfl rfl (c11_countInStock  hG hD hSP (by decide)) rfl rfl hRm (by decide) (by decide) (Nat.le_of_ble_eq_true rfl) (fun v65 Mc63 hq64 => ?_)
    have hG66 : GR Mc63 := (GR.fr hG hq64.1 (by decide +kernel))
    exact R_ireturn hC dX11_count_133 rfl (⟨_, rfl, by decide, hq64.1.mo (by simp) (by simp), ⟨hG66, hFP.fr hq64.1 (by decide +kernel)⟩, by
        refine ⟨?_, ?_, ?_, ?_, ?_, ?_, ?_, ?_, ?_, ?_, ?_, ?_, ?_, ?_, ?_, ?_, ?_, ?_, ?_, ?_, ?_, ?_, ?_, ?_, ?_, ?_, ?_, ?_⟩ <;> intro h <;> first | exact absurd h (by decide) | (exfalso; omega) | exact hq64.2.1 rfl | exact hq64.2.2.1 rfl | exact hq64.2.2.2.1 rfl | exact hq64.2.2.2.2.1 rfl | exact hq64.2.2.2.2.2.1 rfl | exact hq64.2.2.2.2.2.2.1 rfl | exact hq64.2.2.2.2.2.2.2.1 rfl | exact hq64.2.2.2.2.2.2.2.2.1 rfl | exact hq64.2.2.2.2.2.2.2.2.2 rfl⟩)
  · skip
    subst hsw2
    refine R_tableIn hC dX11_count_1 (off := 204) (by omega) (by omega) rfl (tgt := 205) (by decide) ?_
    refine R_aload_0 hC dX11_count_205 ?_
    refine R_iload_1 hC dX11_count_206 ?_
    refine R_callVp (as := [vI _]) hC dX11_count_207 mo_11_countOfDesk ml_11_164 (by decide) rfl rfl (c11_countOfDesk  hG hD hSP (by omega)) rfl rfl hRm (by decide) (by decide) (Nat.le_of_ble_eq_true rfl) (fun v69 Mc67 hq68 => ?_)
    have hG70 : GR Mc67 := (GR.fr hG hq68.1 (by decide +kernel))
    exact R_ireturn hC dX11_count_210 rfl (⟨_, rfl, by decide, hq68.1.mo (by simp) (by simp), ⟨hG70, hFP.fr hq68.1 (by decide +kernel)⟩, by
        refine ⟨?_, ?_, ?_, ?_, ?_, ?_, ?_, ?_, ?_, ?_, ?_, ?_, ?_, ?_, ?_, ?_, ?_, ?_, ?_, ?_, ?_, ?_, ?_, ?_, ?_, ?_, ?_, ?_⟩ <;> intro h <;> first | exact absurd h (by decide) | (exfalso; omega) | exact hq68.2.1 rfl | exact hq68.2.2.1 rfl | exact hq68.2.2.2.1 rfl | exact hq68.2.2.2.2.1 rfl | exact hq68.2.2.2.2.2.1 rfl | exact hq68.2.2.2.2.2.2 rfl⟩)
  · skip
    subst hsw2
    refine R_tableIn hC dX11_count_1 (off := 204) (by omega) (by omega) rfl (tgt := 205) (by decide) ?_
    refine R_aload_0 hC dX11_count_205 ?_
    refine R_iload_1 hC dX11_count_206 ?_
    refine R_callVp (as := [vI _]) hC dX11_count_207 mo_11_countOfDesk ml_11_164 (by decide) rfl rfl (c11_countOfDesk  hG hD hSP (by omega)) rfl rfl hRm (by decide) (by decide) (Nat.le_of_ble_eq_true rfl) (fun v73 Mc71 hq72 => ?_)
    have hG74 : GR Mc71 := (GR.fr hG hq72.1 (by decide +kernel))
    exact R_ireturn hC dX11_count_210 rfl (⟨_, rfl, by decide, hq72.1.mo (by simp) (by simp), ⟨hG74, hFP.fr hq72.1 (by decide +kernel)⟩, by
        refine ⟨?_, ?_, ?_, ?_, ?_, ?_, ?_, ?_, ?_, ?_, ?_, ?_, ?_, ?_, ?_, ?_, ?_, ?_, ?_, ?_, ?_, ?_, ?_, ?_, ?_, ?_, ?_, ?_⟩ <;> intro h <;> first | exact absurd h (by decide) | (exfalso; omega) | exact hq72.2.1 rfl | exact hq72.2.2.1 rfl | exact hq72.2.2.2.1 rfl | exact hq72.2.2.2.2.1 rfl | exact hq72.2.2.2.2.2.1 rfl | exact hq72.2.2.2.2.2.2 rfl⟩)
  · skip
    subst hsw2
    refine R_tableIn hC dX11_count_1 (off := 204) (by omega) (by omega) rfl (tgt := 205) (by decide) ?_
    refine R_aload_0 hC dX11_count_205 ?_
    refine R_iload_1 hC dX11_count_206 ?_
    refine R_callVp (as := [vI _]) hC dX11_count_207 mo_11_countOfDesk ml_11_164 (by decide) rfl rfl (c11_countOfDesk  hG hD hSP (by omega)) rfl rfl hRm (by decide) (by decide) (Nat.le_of_ble_eq_true rfl) (fun v77 Mc75 hq76 => ?_)
    have hG78 : GR Mc75 := (GR.fr hG hq76.1 (by decide +kernel))
    exact R_ireturn hC dX11_count_210 rfl (⟨_, rfl, by decide, hq76.1.mo (by simp) (by simp), ⟨hG78, hFP.fr hq76.1 (by decide +kernel)⟩, by
        refine ⟨?_, ?_, ?_, ?_, ?_, ?_, ?_, ?_, ?_, ?_, ?_, ?_, ?_, ?_, ?_, ?_, ?_, ?_, ?_, ?_, ?_, ?_, ?_, ?_, ?_, ?_, ?_, ?_⟩ <;> intro h <;> first | exact absurd h (by decide) | (exfalso; omega) | exact hq76.2.1 rfl | exact hq76.2.2.1 rfl | exact hq76.2.2.2.1 rfl | exact hq76.2.2.2.2.1 rfl | exact hq76.2.2.2.2.2.1 rfl | exact hq76.2.2.2.2.2.2 rfl⟩)
  · skip
    subst hsw2
    refine R_tableIn hC dX11_count_1 (off := 204) (by omega) (by omega) rfl (tgt := 205) (by decide) ?_
    refine R_aload_0 hC dX11_count_205 ?_
    refine R_iload_1 hC dX11_count_206 ?_
    refine R_callVp (as := [vI _]) hC dX11_count_207 mo_11_countOfDesk ml_11_164 (by decide) rfl rfl (c11_countOfDesk  hG hD hSP (by omega)) rfl rfl hRm (by decide) (by decide) (Nat.le_of_ble_eq_true rfl) (fun v81 Mc79 hq80 => ?_)
    have hG82 : GR Mc79 := (GR.fr hG hq80.1 (by decide +kernel))
    exact R_ireturn hC dX11_count_210 rfl (⟨_, rfl, by decide, hq80.1.mo (by simp) (by simp), ⟨hG82, hFP.fr hq80.1 (by decide +kernel)⟩, by
        refine ⟨?_, ?_, ?_, ?_, ?_, ?_, ?_, ?_, ?_, ?_, ?_, ?_, ?_, ?_, ?_, ?_, ?_, ?_, ?_, ?_, ?_, ?_, ?_, ?_, ?_, ?_, ?_, ?_⟩ <;> intro h <;> first | exact absurd h (by decide) | (exfalso; omega) | exact hq80.2.1 rfl | exact hq80.2.2.1 rfl | exact hq80.2.2.2.1 rfl | exact hq80.2.2.2.2.1 rfl | exact hq80.2.2.2.2.2.1 rfl | exact hq80.2.2.2.2.2.2 rfl⟩)
  · skip
    subst hsw2
    refine R_tableIn hC dX11_count_1 (off := 204) (by omega) (by omega) rfl (tgt := 205) (by decide) ?_
    refine R_aload_0 hC dX11_count_205 ?_
    refine R_iload_1 hC dX11_count_206 ?_
    refine R_callVp (as := [vI _]) hC dX11_count_207 mo_11_countOfDesk ml_11_164 (by decide) rfl rfl (c11_countOfDesk  hG hD hSP (by omega)) rfl rfl hRm (by decide) (by decide) (Nat.le_of_ble_eq_true rfl) (fun v85 Mc83 hq84 => ?_)
    have hG86 : GR Mc83 := (GR.fr hG hq84.1 (by decide +kernel))
    exact R_ireturn hC dX11_count_210 rfl (⟨_, rfl, by decide, hq84.1.mo (by simp) (by simp), ⟨hG86, hFP.fr hq84.1 (by decide +kernel)⟩, by
        refine ⟨?_, ?_, ?_, ?_, ?_, ?_, ?_, ?_, ?_, ?_, ?_, ?_, ?_, ?_, ?_, ?_, ?_, ?_, ?_, ?_, ?_, ?_, ?_, ?_, ?_, ?_, ?_, ?_⟩ <;> intro h <;> first | exact absurd h (by decide) | (exfalso; omega) | exact hq84.2.1 rfl | exact hq84.2.2.1 rfl | exact hq84.2.2.2.1 rfl | exact hq84.2.2.2.2.1 rfl | exact hq84.2.2.2.2.2.1 rfl | exact hq84.2.2.2.2.2.2 rfl⟩)
  · skip
    subst hsw2
    refine R_tableIn hC dX11_count_1 (off := 204) (by omega) (by omega) rfl (tgt := 205) (by decide) ?_
    refine R_aload_0 hC dX11_count_205 ?_
    refine R_iload_1 hC dX11_count_206 ?_
    refine R_callVp (as := [vI _]) hC dX11_count_207 mo_11_countOfDesk ml_11_164 (by decide) rfl rfl (c11_countOfDesk  hG hD hSP (by omega)) rfl rfl hRm (by decide) (by decide) (Nat.le_of_ble_eq_true rfl) (fun v89 Mc87 hq88 => ?_)
    have hG90 : GR Mc87 := (GR.fr hG hq88.1 (by decide +kernel))
    exact R_ireturn hC dX11_count_210 rfl (⟨_, rfl, by decide, hq88.1.mo (by simp) (by simp), ⟨hG90, hFP.fr hq88.1 (by decide +kernel)⟩, by
        refine ⟨?_, ?_, ?_, ?_, ?_, ?_, ?_, ?_, ?_, ?_, ?_, ?_, ?_, ?_, ?_, ?_, ?_, ?_, ?_, ?_, ?_, ?_, ?_, ?_, ?_, ?_, ?_, ?_⟩ <;> intro h <;> first | exact absurd h (by decide) | (exfalso; omega) | exact hq88.2.1 rfl | exact hq88.2.2.1 rfl | exact hq88.2.2.2.1 rfl | exact hq88.2.2.2.2.1 rfl | exact hq88.2.2.2.2.2.1 rfl | exact hq88.2.2.2.2.2.2 rfl⟩)
  · skip
    subst hsw2
    refine R_tableIn hC dX11_count_1 (off := 210) (by omega) (by omega) rfl (tgt := 211) (by decide) ?_
    refine R_aload_0 hC dX11_count_211 ?_
    refine R_getR hC dX11_count_212 fl_11_84 (by decide) rfl (by decide) (by decide) (fi := 13) rfl (r := 45) (gr_0_13 hG) ?_
    refine R_aload_0 hC dX11_count_215 ?_
    refine R_getR hC dX11_count_216 fl_11_23 (by decide) rfl (by decide) (by decide) (fi := 3) rfl (r := 2) (gr_0_3 hG) ?_
    refine R_getR hC dX11_count_219 fl_11_122 (by decide) rfl (by decide) (by decide) (fi := 0) rfl (r := 3) (gr_2_0 hG) ?_
    refine R_callVv (as := [vR _]) hC dX11_count_222 mo_3_find ml_11_167 (by decide) rfl rfl (c3_find  hG hD hSP) rfl rfl hRm (by decide) (by decide) (Nat.le_of_ble_eq_true rfl) (fun Mc91 hq92 => ?_)
    have hG93 := hq92.2.1
    refine R_aload_0 hC dX11_count_225 ?_
    refine R_getR hC dX11_count_226 fl_11_84 (by decide) rfl (by decide) (by decide) (fi := 13) rfl (r := 45) (gr_0_13 hG93) ?_
    refine R_getI hC dX11_count_229 fl_11_170 (by decide) rfl (by decide) (by decide) (fi := 3) rfl ?_
    exact R_ireturn hC dX11_count_232 rfl (⟨_, rfl, by decide, hq92.1.mo (by simp) (by simp), ⟨hG93, hFP.fr hq92.1 (by decide +kernel)⟩, by
        refine ⟨?_, ?_, ?_, ?_, ?_, ?_, ?_, ?_, ?_, ?_, ?_, ?_, ?_, ?_, ?_, ?_, ?_, ?_, ?_, ?_, ?_, ?_, ?_, ?_, ?_, ?_, ?_, ?_⟩ <;> intro h <;> first | exact absurd h (by decide) | (exfalso; omega) | exact ⟨_, hq92.2.2⟩⟩)
  · skip
    subst hsw2
    refine R_tableIn hC dX11_count_1 (off := 232) (by omega) (by omega) rfl (tgt := 233) (by decide) ?_
    refine R_aload_0 hC dX11_count_233 ?_
    refine R_getR hC dX11_count_234 fl_11_84 (by decide) rfl (by decide) (by decide) (fi := 13) rfl (r := 45) (gr_0_13 hG) ?_
    refine R_aload_0 hC dX11_count_237 ?_
    refine R_getR hC dX11_count_238 fl_11_23 (by decide) rfl (by decide) (by decide) (fi := 3) rfl (r := 2) (gr_0_3 hG) ?_
    refine R_getR hC dX11_count_241 fl_11_122 (by decide) rfl (by decide) (by decide) (fi := 0) rfl (r := 3) (gr_2_0 hG) ?_
    refine R_callVv (as := [vR _]) hC dX11_count_244 mo_3_find ml_11_167 (by decide) rfl rfl (c3_find  hG hD hSP) rfl rfl hRm (by decide) (by decide) (Nat.le_of_ble_eq_true rfl) (fun Mc94 hq95 => ?_)
    have hG96 := hq95.2.1
    refine R_aload_0 hC dX11_count_247 ?_
    refine R_getR hC dX11_count_248 fl_11_84 (by decide) rfl (by decide) (by decide) (fi := 13) rfl (r := 45) (gr_0_13 hG96) ?_
    refine R_getI hC dX11_count_251 fl_11_173 (by decide) rfl (by decide) (by decide) (fi := 4) rfl ?_
    exact R_ireturn hC dX11_count_254 rfl (⟨_, rfl, by decide, hq95.1.mo (by simp) (by simp), ⟨hG96, hFP.fr hq95.1 (by decide +kernel)⟩, by
        refine ⟨?_, ?_, ?_, ?_, ?_, ?_, ?_, ?_, ?_, ?_, ?_, ?_, ?_, ?_, ?_, ?_, ?_, ?_, ?_, ?_, ?_, ?_, ?_, ?_, ?_, ?_, ?_, ?_⟩ <;> intro h <;> first | exact absurd h (by decide) | (exfalso; omega) | exact ⟨_, hq95.2.2⟩⟩)
  · skip
    subst hsw2
    refine R_tableIn hC dX11_count_1 (off := 127) (by omega) (by omega) rfl (tgt := 128) (by decide) ?_
    refine R_aload_0 hC dX11_count_128 ?_
    refine R_iload_1 hC dX11_count_129 ?_
    refine R_callVp (as := [vI _]) hC dX11_count_130 mo_11_countInStock ml_11_141 (by decide) rfl rfl (c11_countInStock  hG hD hSP (by decide)) rfl rfl hRm (by decide) (by decide) (Nat.le_of_ble_eq_true rfl) (fun v99 Mc97 hq98 => ?_)
    have hG100 : GR Mc97 := (GR.fr hG hq98.1 (by decide +kernel))
    exact R_ireturn hC dX11_count_133 rfl (⟨_, rfl, by decide, hq98.1.mo (by simp) (by simp), ⟨hG100, hFP.fr hq98.1 (by decide +kernel)⟩, by
        refine ⟨?_, ?_, ?_, ?_, ?_, ?_, ?_, ?_, ?_, ?_, ?_, ?_, ?_, ?_, ?_, ?_, ?_, ?_, ?_, ?_, ?_, ?_, ?_, ?_, ?_, ?_, ?_, ?_⟩ <;> intro h <;> first | exact absurd h (by decide) | (exfalso; omega) | exact hq98.2.1 rfl | exact hq98.2.2.1 rfl | exact hq98.2.2.2.1 rfl | exact hq98.2.2.2.2.1 rfl | exact hq98.2.2.2.2.2.1 rfl | exact hq98.2.2.2.2.2.2.1 rfl | exact hq98.2.2.2.2.2.2.2.1 rfl | exact hq98.2.2.2.2.2.2.2.2.1 rfl | exact hq98.2.2.2.2.2.2.2.2.2 rfl⟩)
  · skip
    subst hsw2
    refine R_tableIn hC dX11_count_1 (off := 127) (by omega) (by omega) rfl (tgt := 128) (by decide) ?_
    refine R_aload_0 hC dX11_count_128 ?_
    refine R_iload_1 hC dX11_count_129 ?_
    refine R_callVp (as := [vI _]) hC dX11_count_130 mo_11_countInStock ml_11_141 (by decide) rfl rfl (c11_countInStock  hG hD hSP (by decide)) rfl rfl hRm (by decide) (by decide) (Nat.le_of_ble_eq_true rfl) (fun v103 Mc101 hq102 => ?_)
    have hG104 : GR Mc101 := (GR.fr hG hq102.1 (by decide +kernel))
    exact R_ireturn hC dX11_count_133 rfl (⟨_, rfl, by decide, hq102.1.mo (by simp) (by simp), ⟨hG104, hFP.fr hq102.1 (by decide +kernel)⟩, by
        refine ⟨?_, ?_, ?_, ?_, ?_, ?_, ?_, ?_, ?_, ?_, ?_, ?_, ?_, ?_, ?_, ?_, ?_, ?_, ?_, ?_, ?_, ?_, ?_, ?_, ?_, ?_, ?_, ?_⟩ <;> intro h <;> first | exact absurd h (by decide) | (exfalso; omega) | exact hq102.2.1 rfl | exact hq102.2.2.1 rfl | exact hq102.2.2.2.1 rfl | exact hq102.2.2.2.2.1 rfl | exact hq102.2.2.2.2.2.1 rfl | exact hq102.2.2.2.2.2.2.1 rfl | exact hq102.2.2.2.2.2.2.2.1 rfl | exact hq102.2.2.2.2.2.2.2.2.1 rfl | exact hq102.2.2.2.2.2.2.2.2.2 rfl⟩)
  · skip
    subst hsw2
    refine R_tableIn hC dX11_count_1 (off := 254) (by omega) (by omega) rfl (tgt := 255) (by decide) ?_
    refine R_aload_0 hC dX11_count_255 ?_
    refine R_getR hC dX11_count_256 fl_11_77 (by decide) rfl (by decide) (by decide) (fi := 12) rfl (r := 41) (gr_0_12 hG) ?_
    refine R_aload_0 hC dX11_count_259 ?_
    refine R_getR hC dX11_count_260 fl_11_23 (by decide) rfl (by decide) (by decide) (fi := 3) rfl (r := 2) (gr_0_3 hG) ?_
    refine R_getR hC dX11_count_263 fl_11_122 (by decide) rfl (by decide) (by decide) (fi := 0) rfl (r := 3) (gr_2_0 hG) ?_
    refine R_callVv (as := [vR _]) hC dX11_count_266 mo_10_findOrders ml_11_176 (by decide) rfl rfl (c10_findOrders  hG hD hSP) rfl rfl hRm (by decide) (by decide) (Nat.le_of_ble_eq_true rfl) (fun Mc105 hq106 => ?_)
    refine R_aload_0 hC dX11_count_269 ?_
    have hG107 : GR Mc105 := (GR.fr hG hq106.1 (by decide +kernel))
    refine R_getR hC dX11_count_270 fl_11_77 (by decide) rfl (by decide) (by decide) (fi := 12) rfl (r := 41) (gr_0_12 hG107) ?_
    refine R_getI hC dX11_count_273 fl_11_179 (by decide) rfl (by decide) (by decide) (fi := 8) rfl ?_
    exact R_ireturn hC dX11_count_276 rfl (⟨_, rfl, by decide, hq106.1.mo (by simp) (by simp), ⟨hG107, hFP.fr hq106.1 (by decide +kernel)⟩, by
        refine ⟨?_, ?_, ?_, ?_, ?_, ?_, ?_, ?_, ?_, ?_, ?_, ?_, ?_, ?_, ?_, ?_, ?_, ?_, ?_, ?_, ?_, ?_, ?_, ?_, ?_, ?_, ?_, ?_⟩ <;> intro h <;> first | exact absurd h (by decide) | (exfalso; omega) | exact (by obtain ⟨b, o, e, h1, h2, h3, h4⟩ := hq106.2; exact ⟨b, o, e, h1, h3⟩)⟩)
theorem dX11_library_0 : decode cX11_library 0 = .ok (.aload_n 0, 1) := by decide +kernel
theorem dX11_library_1 : decode cX11_library 1 = .ok (.getfield 23, 3) := by decide +kernel
theorem dX11_library_4 : decode cX11_library 4 = .ok (.getfield 122, 3) := by decide +kernel
theorem dX11_library_7 : decode cX11_library 7 = .ok (.astore_n 3, 1) := by decide +kernel
theorem dX11_library_8 : decode cX11_library 8 = .ok (.aload_n 3, 1) := by decide +kernel
theorem dX11_library_9 : decode cX11_library 9 = .ok (.iload_n 1, 1) := by decide +kernel
theorem dX11_library_10 : decode cX11_library 10 = .ok (.invokevirtual 234, 3) := by decide +kernel
theorem dX11_library_13 : decode cX11_library 13 = .ok (.ifCond .ne 11, 3) := by decide +kernel
theorem dX11_library_16 : decode cX11_library 16 = .ok (.new 182, 3) := by decide +kernel
theorem dX11_library_19 : decode cX11_library 19 = .ok (.dup, 1) := by decide +kernel
theorem dX11_library_20 : decode cX11_library 20 = .ok (.invokespecial 184, 3) := by decide +kernel
theorem dX11_library_23 : decode cX11_library 23 = .ok (.athrow, 1) := by decide +kernel
theorem dX11_library_24 : decode cX11_library 24 = .ok (.iload_n 2, 1) := by decide +kernel
theorem dX11_library_25 : decode cX11_library 25 = .ok (.tableswitch 222 0 12 #[67, 73, 79, 85, 91, 118, 146, 156, 162, 168, 185, 202, 212], 67) := by decide +kernel
theorem dX11_library_92 : decode cX11_library 92 = .ok (.aload_n 3, 1) := by decide +kernel
theorem dX11_library_93 : decode cX11_library 93 = .ok (.iload_n 1, 1) := by decide +kernel
theorem dX11_library_94 : decode cX11_library 94 = .ok (.invokevirtual 238, 3) := by decide +kernel
theorem dX11_library_97 : decode cX11_library 97 = .ok (.ireturn, 1) := by decide +kernel
theorem dX11_library_98 : decode cX11_library 98 = .ok (.aload_n 3, 1) := by decide +kernel
theorem dX11_library_99 : decode cX11_library 99 = .ok (.iload_n 1, 1) := by decide +kernel
theorem dX11_library_100 : decode cX11_library 100 = .ok (.invokevirtual 241, 3) := by decide +kernel
theorem dX11_library_103 : decode cX11_library 103 = .ok (.ireturn, 1) := by decide +kernel
theorem dX11_library_104 : decode cX11_library 104 = .ok (.aload_n 3, 1) := by decide +kernel
theorem dX11_library_105 : decode cX11_library 105 = .ok (.iload_n 1, 1) := by decide +kernel
theorem dX11_library_106 : decode cX11_library 106 = .ok (.invokevirtual 244, 3) := by decide +kernel
theorem dX11_library_109 : decode cX11_library 109 = .ok (.ireturn, 1) := by decide +kernel
theorem dX11_library_110 : decode cX11_library 110 = .ok (.aload_n 3, 1) := by decide +kernel
theorem dX11_library_111 : decode cX11_library 111 = .ok (.iload_n 1, 1) := by decide +kernel
theorem dX11_library_112 : decode cX11_library 112 = .ok (.invokevirtual 247, 3) := by decide +kernel
theorem dX11_library_115 : decode cX11_library 115 = .ok (.ireturn, 1) := by decide +kernel
theorem dX11_library_116 : decode cX11_library 116 = .ok (.aload_n 0, 1) := by decide +kernel
theorem dX11_library_117 : decode cX11_library 117 = .ok (.invokevirtual 207, 3) := by decide +kernel
theorem dX11_library_120 : decode cX11_library 120 = .ok (.aload_n 0, 1) := by decide +kernel
theorem dX11_library_121 : decode cX11_library 121 = .ok (.getfield 60, 3) := by decide +kernel
theorem dX11_library_124 : decode cX11_library 124 = .ok (.getfield 250, 3) := by decide +kernel
theorem dX11_library_127 : decode cX11_library 127 = .ok (.ifCond .eq 14, 3) := by decide +kernel
theorem dX11_library_130 : decode cX11_library 130 = .ok (.aload_n 0, 1) := by decide +kernel
theorem dX11_library_131 : decode cX11_library 131 = .ok (.getfield 60, 3) := by decide +kernel
theorem dX11_library_134 : decode cX11_library 134 = .ok (.iload_n 1, 1) := by decide +kernel
theorem dX11_library_135 : decode cX11_library 135 = .ok (.invokevirtual 253, 3) := by decide +kernel
theorem dX11_library_138 : decode cX11_library 138 = .ok (.goto 4, 3) := by decide +kernel
theorem dX11_library_141 : decode cX11_library 141 = .ok (.iconst (-1), 1) := by decide +kernel
theorem dX11_library_142 : decode cX11_library 142 = .ok (.ireturn, 1) := by decide +kernel
theorem dX11_library_143 : decode cX11_library 143 = .ok (.aload_n 0, 1) := by decide +kernel
theorem dX11_library_144 : decode cX11_library 144 = .ok (.invokevirtual 207, 3) := by decide +kernel
theorem dX11_library_147 : decode cX11_library 147 = .ok (.aload_n 0, 1) := by decide +kernel
theorem dX11_library_148 : decode cX11_library 148 = .ok (.getfield 60, 3) := by decide +kernel
theorem dX11_library_151 : decode cX11_library 151 = .ok (.getfield 250, 3) := by decide +kernel
theorem dX11_library_154 : decode cX11_library 154 = .ok (.ifCond .eq 15, 3) := by decide +kernel
theorem dX11_library_157 : decode cX11_library 157 = .ok (.aload_n 0, 1) := by decide +kernel
theorem dX11_library_158 : decode cX11_library 158 = .ok (.getfield 60, 3) := by decide +kernel
theorem dX11_library_161 : decode cX11_library 161 = .ok (.iload_n 1, 1) := by decide +kernel
theorem dX11_library_162 : decode cX11_library 162 = .ok (.aload_n 3, 1) := by decide +kernel
theorem dX11_library_163 : decode cX11_library 163 = .ok (.invokevirtual 256, 3) := by decide +kernel
theorem dX11_library_166 : decode cX11_library 166 = .ok (.goto 4, 3) := by decide +kernel
theorem dX11_library_169 : decode cX11_library 169 = .ok (.iconst (-1), 1) := by decide +kernel
theorem dX11_library_170 : decode cX11_library 170 = .ok (.ireturn, 1) := by decide +kernel
theorem dX11_library_171 : decode cX11_library 171 = .ok (.aload_n 0, 1) := by decide +kernel
theorem dX11_library_172 : decode cX11_library 172 = .ok (.getfield 70, 3) := by decide +kernel
theorem dX11_library_175 : decode cX11_library 175 = .ok (.aload_n 3, 1) := by decide +kernel
theorem dX11_library_176 : decode cX11_library 176 = .ok (.iload_n 1, 1) := by decide +kernel
theorem dX11_library_177 : decode cX11_library 177 = .ok (.invokevirtual 260, 3) := by decide +kernel
theorem dX11_library_180 : decode cX11_library 180 = .ok (.ireturn, 1) := by decide +kernel
theorem dX11_library_181 : decode cX11_library 181 = .ok (.aload_n 3, 1) := by decide +kernel
theorem dX11_library_182 : decode cX11_library 182 = .ok (.iload_n 1, 1) := by decide +kernel
theorem dX11_library_183 : decode cX11_library 183 = .ok (.invokevirtual 264, 3) := by decide +kernel
theorem dX11_library_186 : decode cX11_library 186 = .ok (.ireturn, 1) := by decide +kernel
theorem dX11_library_187 : decode cX11_library 187 = .ok (.aload_n 3, 1) := by decide +kernel
theorem dX11_library_188 : decode cX11_library 188 = .ok (.iload_n 1, 1) := by decide +kernel
theorem dX11_library_189 : decode cX11_library 189 = .ok (.invokevirtual 267, 3) := by decide +kernel
theorem dX11_library_192 : decode cX11_library 192 = .ok (.ireturn, 1) := by decide +kernel
theorem dX11_library_193 : decode cX11_library 193 = .ok (.aload_n 0, 1) := by decide +kernel
theorem dX11_library_194 : decode cX11_library 194 = .ok (.getfield 77, 3) := by decide +kernel
theorem dX11_library_197 : decode cX11_library 197 = .ok (.aload_n 3, 1) := by decide +kernel
theorem dX11_library_198 : decode cX11_library 198 = .ok (.iload_n 1, 1) := by decide +kernel
theorem dX11_library_199 : decode cX11_library 199 = .ok (.invokevirtual 270, 3) := by decide +kernel
theorem dX11_library_202 : decode cX11_library 202 = .ok (.aload_n 0, 1) := by decide +kernel
theorem dX11_library_203 : decode cX11_library 203 = .ok (.getfield 77, 3) := by decide +kernel
theorem dX11_library_206 : decode cX11_library 206 = .ok (.getfield 274, 3) := by decide +kernel
theorem dX11_library_209 : decode cX11_library 209 = .ok (.ireturn, 1) := by decide +kernel
theorem dX11_library_210 : decode cX11_library 210 = .ok (.aload_n 0, 1) := by decide +kernel
theorem dX11_library_211 : decode cX11_library 211 = .ok (.getfield 77, 3) := by decide +kernel
theorem dX11_library_214 : decode cX11_library 214 = .ok (.aload_n 3, 1) := by decide +kernel
theorem dX11_library_215 : decode cX11_library 215 = .ok (.iload_n 1, 1) := by decide +kernel
theorem dX11_library_216 : decode cX11_library 216 = .ok (.invokevirtual 270, 3) := by decide +kernel
theorem dX11_library_219 : decode cX11_library 219 = .ok (.aload_n 0, 1) := by decide +kernel
theorem dX11_library_220 : decode cX11_library 220 = .ok (.getfield 77, 3) := by decide +kernel
theorem dX11_library_223 : decode cX11_library 223 = .ok (.getfield 276, 3) := by decide +kernel
theorem dX11_library_226 : decode cX11_library 226 = .ok (.ireturn, 1) := by decide +kernel
theorem dX11_library_227 : decode cX11_library 227 = .ok (.aload_n 0, 1) := by decide +kernel
theorem dX11_library_228 : decode cX11_library 228 = .ok (.getfield 70, 3) := by decide +kernel
theorem dX11_library_231 : decode cX11_library 231 = .ok (.aload_n 3, 1) := by decide +kernel
theorem dX11_library_232 : decode cX11_library 232 = .ok (.iload_n 1, 1) := by decide +kernel
theorem dX11_library_233 : decode cX11_library 233 = .ok (.invokevirtual 279, 3) := by decide +kernel
theorem dX11_library_236 : decode cX11_library 236 = .ok (.ireturn, 1) := by decide +kernel
theorem dX11_library_237 : decode cX11_library 237 = .ok (.aload_n 0, 1) := by decide +kernel
theorem dX11_library_238 : decode cX11_library 238 = .ok (.getfield 70, 3) := by decide +kernel
theorem dX11_library_241 : decode cX11_library 241 = .ok (.aload_n 3, 1) := by decide +kernel
theorem dX11_library_242 : decode cX11_library 242 = .ok (.iload_n 1, 1) := by decide +kernel
theorem dX11_library_243 : decode cX11_library 243 = .ok (.invokevirtual 282, 3) := by decide +kernel
theorem dX11_library_246 : decode cX11_library 246 = .ok (.ireturn, 1) := by decide +kernel
theorem dX11_library_247 : decode cX11_library 247 = .ok (.new 182, 3) := by decide +kernel
theorem dX11_library_250 : decode cX11_library 250 = .ok (.dup, 1) := by decide +kernel
theorem dX11_library_251 : decode cX11_library 251 = .ok (.invokespecial 184, 3) := by decide +kernel
theorem dX11_library_254 : decode cX11_library 254 = .ok (.athrow, 1) := by decide +kernel
set_option maxHeartbeats 2000000 in
theorem c11_library {G : Gl} {l : Launch} {M : Mem} {d : Int → Int} {x w : Int} (hT : ((0 ≤ x ∧ x < d 121) ∧ 0 ≤ w ∧ w ≤ 12)) (hG : GR M) (hD : M 4 = d) (hSP : SP d) (hFP : FP M d) : Ct G LY 57 l 6 m11_library [vR 0, vI x, vI w] M (fun o M' => ∃ v, o = some (vI v) ∧ ((0 ≤ x ∧ x < d 121) ∧ 0 ≤ w ∧ w ≤ 12) ∧ Fr [25, 26, 27, 28, 29, 30, 31, 32, 33, 34, 35, 37, 40, 42, 43, 44, 47, 48, 50, 51, 54, 56] [(24, 11), (24, 12), (24, 13), (36, 2), (36, 3), (0, 10), (38, 2), (38, 3), (41, 3), (41, 5), (41, 6), (41, 7), (41, 8), (45, 3), (45, 4), (49, 3), (49, 4), (49, 5), (49, 6), (52, 1), (52, 3), (53, 2), (53, 3)] M M' ∧ (GR M' ∧ FP M' d) ∧ (w = 0 → v = d x) ∧ (w = 1 → v = d (5 + x)) ∧ (w = 2 → v = inAll d x) ∧ (w = 3 → v = nee d x) ∧ (w = 4 → v = itc (planI (insOf d)) (sm 6 (fun w => (plT (insOf d)) (x * 6 + w))) (-1)) ∧ (w = 5 → v = itc (planI (insOf d)) (sm 6 (fun w => d (10 + w) * (plT (insOf d)) (x * 6 + w))) (-1)) ∧ (w = 6 → ((v = -1 ∧ ¬ planI (insOf d)) ∨ (planI (insOf d) ∧ FF (fun m => planI (setNM (insOf d) x (max 0 (inAll d x - (d x - m))) (max (max 0 (inAll d x - (d x - m))) (d (5 + x))))) (d x) v))) ∧ (w = 7 → v = bits (d 122).toNat (fun k => allOf d k - d (28 + x * 6 + k) < d (16 + k))) ∧ (w = 8 → v = bits (d 122).toNat (fun k => 0 < allOf d k ∧ allOf d k = d (28 + x * 6 + k))) ∧ (w = 9 → ∃ b, RK (d 122) (fun w => d (10 + w)) b ∧ v = sm (d 121).toNat (fun k => wnn (insOf d) b (lib (d 121) x k) (gS (insOf d) b x k.toNat))) ∧ (w = 10 → ∃ b, RK (d 122) (fun w => d (10 + w)) b ∧ v = bits (d 121).toNat (lackT (insOf d) b x (d 121))) ∧ (w = 11 → v = SPC (setNM (insOf d) x 0 0)) ∧ (w = 12 → v = if SPC (insOf d) = -1 then -1 else SPC (setNM (insOf d) x (nee d x) (max (nee d x) (min 20 (d (5 + x) + 1)))) - SPC (insOf d))) := by
  refine R_start (by decide +kernel) (Nat.le_of_ble_eq_true rfl) (fun C hC hRm hlau => ?_)
  show RZ G LY C (Zn G LY 57 C (fun o M' => ∃ v, o = some (vI v) ∧ ((0 ≤ x ∧ x < d 121) ∧ 0 ≤ w ∧ w ≤ 12) ∧ Fr [25, 26, 27, 28, 29, 30, 31, 32, 33, 34, 35, 37, 40, 42, 43, 44, 47, 48, 50, 51, 54, 56] [(24, 11), (24, 12), (24, 13), (36, 2), (36, 3), (0, 10), (38, 2), (38, 3), (41, 3), (41, 5), (41, 6), (41, 7), (41, 8), (45, 3), (45, 4), (49, 3), (49, 4), (49, 5), (49, 6), (52, 1), (52, 3), (53, 2), (53, 3)] M M' ∧ (GR M' ∧ FP M' d) ∧ (w = 0 → v = d x) ∧ (w = 1 → v = d (5 + x)) ∧ (w = 2 → v = inAll d x) ∧ (w = 3 → v = nee d x) ∧ (w = 4 → v = itc (planI (insOf d)) (sm 6 (fun w => (plT (insOf d)) (x * 6 + w))) (-1)) ∧ (w = 5 → v = itc (planI (insOf d)) (sm 6 (fun w => d (10 + w) * (plT (insOf d)) (x * 6 + w))) (-1)) ∧ (w = 6 → ((v = -1 ∧ ¬ planI (insOf d)) ∨ (planI (insOf d) ∧ FF (fun m => planI (setNM (insOf d) x (max 0 (inAll d x - (d x - m))) (max (max 0 (inAll d x - (d x - m))) (d (5 + x))))) (d x) v))) ∧ (w = 7 → v = bits (d 122).toNat (fun k => allOf d k - d (28 + x * 6 + k) < d (16 + k))) ∧ (w = 8 → v = bits (d 122).toNat (fun k => 0 < allOf d k ∧ allOf d k = d (28 + x * 6 + k))) ∧ (w = 9 → ∃ b, RK (d 122) (fun w => d (10 + w)) b ∧ v = sm (d 121).toNat (fun k => wnn (insOf d) b (lib (d 121) x k) (gS (insOf d) b x k.toNat))) ∧ (w = 10 → ∃ b, RK (d 122) (fun w => d (10 + w)) b ∧ v = bits (d 121).toNat (lackT (insOf d) b x (d 121))) ∧ (w = 11 → v = SPC (setNM (insOf d) x 0 0)) ∧ (w = 12 → v = if SPC (insOf d) = -1 then -1 else SPC (setNM (insOf d) x (nee d x) (max (nee d x) (min 20 (d (5 + x) + 1)))) - SPC (insOf d)))) 0 0 57 0 [some (vR 0), some (vI x), some (vI w), none] [] M
  have hB9 := hSP.B
  have hL0 := hSP.1.1.1
  have hL1 := hSP.1.1.2
  have hW0 := hSP.1.2.1
  have hW1 := hSP.1.2.2
  refine R_aload_0 hC dX11_library_0 ?_
  refine R_getR hC dX11_library_1 fl_11_23 (by decide) rfl (by decide) (by decide) (fi := 3) rfl (r := 2) (gr_0_3 hG) ?_
  refine R_getR hC dX11_library_4 fl_11_122 (by decide) rfl (by decide) (by decide) (fi := 0) rfl (r := 3) (gr_2_0 hG) ?_
  refine R_astore_3 hC dX11_library_7 rfl ?_
  refine R_aload_3 hC dX11_library_8 ?_
  refine R_iload_1 hC dX11_library_9 ?_
  refine R_callVq (as := [vI _]) hC dX11_library_10 mo_8_isLibrary ml_11_234 (by decide) rfl rfl (c8_isLibrary_d  hD hG sh_3) rfl rfl hRm (by decide) (by decide) (Nat.le_of_ble_eq_true rfl) ?_
  refine R_if_ne hC dX11_library_13 (tgt := 24) (by decide) (fun hb13 => ?_) (fun hb13 => ?_)
  · skip
    replace hb13 := bP_nz hb13
    have hok := hb13
    refine R_iload_2 hC dX11_library_24 ?_
    by_cases hsw : w < 0 ∨ 12 < w
    · skip
      refine R_tableOut hC dX11_library_25 hsw (tgt := 247) (by decide) ?_
      exact absurd hT ((fun z => by first | exact hb13 z.1 | omega))
    have hsw2 : w = 0 ∨ w = 1 ∨ w = 2 ∨ w = 3 ∨ w = 4 ∨ w = 5 ∨ w = 6 ∨ w = 7 ∨ w = 8 ∨ w = 9 ∨ w = 10 ∨ w = 11 ∨ w = 12 := by omega
    rcases hsw2 with hsw2 | hsw2 | hsw2 | hsw2 | hsw2 | hsw2 | hsw2 | hsw2 | hsw2 | hsw2 | hsw2 | hsw2 | hsw2
    · skip
      subst hsw2
      refine R_tableIn hC dX11_library_25 (off := 67) (by omega) (by omega) rfl (tgt := 92) (by decide) ?_
      refine R_aload_3 hC dX11_library_92 ?_
      refine R_iload_1 hC dX11_library_93 ?_
      refine R_callVq (as := [vI _]) hC dX11_library_94 mo_8_roomOf ml_11_238 (by decide) rfl rfl (c8_roomOf_d  hD hG sh_3 (by omega) (by omega)) rfl rfl hRm (by decide) (by decide) (Nat.le_of_ble_eq_true rfl) ?_
      exact R_ireturn hC dX11_library_97 rfl (⟨_, rfl, ⟨hok, by decide⟩, Fr.rf, ⟨hG, hFP⟩, by
          refine ⟨?_, ?_, ?_, ?_, ?_, ?_, ?_, ?_, ?_, ?_, ?_, ?_, ?_⟩ <;> intro h <;> first | exact absurd h (by decide) | (exfalso; omega) | exact rfl⟩)
    · skip
      subst hsw2
      refine R_tableIn hC dX11_library_25 (off := 73) (by omega) (by omega) rfl (tgt := 98) (by decide) ?_
      refine R_aload_3 hC dX11_library_98 ?_
      refine R_iload_1 hC dX11_library_99 ?_
      refine R_callVq (as := [vI _]) hC dX11_library_100 mo_8_wishOf ml_11_241 (by decide) rfl rfl (c8_wishOf_d  hD hG sh_3 (by omega) (by omega)) rfl rfl hRm (by decide) (by decide) (Nat.le_of_ble_eq_true rfl) ?_
      exact R_ireturn hC dX11_library_103 rfl (⟨_, rfl, ⟨hok, by decide⟩, Fr.rf, ⟨hG, hFP⟩, by
          refine ⟨?_, ?_, ?_, ?_, ?_, ?_, ?_, ?_, ?_, ?_, ?_, ?_, ?_⟩ <;> intro h <;> first | exact absurd h (by decide) | (exfalso; omega) | exact rfl⟩)
    · skip
      subst hsw2
      refine R_tableIn hC dX11_library_25 (off := 79) (by omega) (by omega) rfl (tgt := 104) (by decide) ?_
      refine R_aload_3 hC dX11_library_104 ?_
      refine R_iload_1 hC dX11_library_105 ?_
      refine R_callVq (as := [vI _]) hC dX11_library_106 mo_8_copiesIn ml_11_244 (by decide) rfl rfl (c8_copiesIn_d  hD hG sh_3 hSP.B (by omega) (by omega)) rfl rfl hRm (by decide) (by decide) (Nat.le_of_ble_eq_true rfl) ?_
      have e106_1 := inAll_bd (x := x) hSP.B (by omega) (by omega)
      exact R_ireturn hC dX11_library_109 rfl (⟨_, rfl, ⟨hok, by decide⟩, Fr.rf, ⟨hG, hFP⟩, by
          refine ⟨?_, ?_, ?_, ?_, ?_, ?_, ?_, ?_, ?_, ?_, ?_, ?_, ?_⟩ <;> intro h <;> first | exact absurd h (by decide) | (exfalso; omega) | exact rfl⟩)
    · skip
      subst hsw2
      refine R_tableIn hC dX11_library_25 (off := 85) (by omega) (by omega) rfl (tgt := 110) (by decide) ?_
      refine R_aload_3 hC dX11_library_110 ?_
      refine R_iload_1 hC dX11_library_111 ?_
      refine R_callVq (as := [vI _]) hC dX11_library_112 mo_8_needOf ml_11_247 (by decide) rfl rfl (c8_needOf_d  hD hG sh_3 hSP.B (by omega) (by omega)) rfl rfl hRm (by decide) (by decide) (Nat.le_of_ble_eq_true rfl) ?_
      have e112_2 := nee_bd (x := x) hSP.B (by omega) (by omega)
      exact R_ireturn hC dX11_library_115 rfl (⟨_, rfl, ⟨hok, by decide⟩, Fr.rf, ⟨hG, hFP⟩, by
          refine ⟨?_, ?_, ?_, ?_, ?_, ?_, ?_, ?_, ?_, ?_, ?_, ?_, ?_⟩ <;> intro h <;> first | exact absurd h (by decide) | (exfalso; omega) | exact rfl⟩)
    · skip
      subst hsw2
      refine R_tableIn hC dX11_library_25 (off := 91) (by omega) (by omega) rfl (tgt := 116) (by decide) ?_
      refine R_aload_0 hC dX11_library_116 ?_
      refine R_callVv (as := []) hC dX11_library_117 mo_11_refreshPlan ml_11_207 (by decide) rfl rfl (c11_refreshPlan  hG hD hSP hFP) rfl rfl hRm (by decide) (by decide) (Nat.le_of_ble_eq_true rfl) (fun Mc3 hq4 => ?_)
      have hpt := hq4.2.1.t hSP
      have hpp := hq4.2.1.p
      have hp7 := hq4.2.1.2.1
      refine R_aload_0 hC dX11_library_120 ?_
      have hG5 : GR Mc3 := (GR.fr hG hq4.1 (by decide +kernel))
      refine R_getR hC dX11_library_121 fl_11_60 (by decide) rfl (by decide) (by decide) (fi := 9) rfl (r := 36) (gr_0_9 hG5) ?_
      refine R_getI hC dX11_library_124 fl_11_250 (by decide) rfl (by decide) (by decide) (fi := 2) rfl ?_
      refine R_if_eq hC dX11_library_127 (tgt := 141) (by decide) (fun hb127 => ?_) (fun hb127 => ?_)
      · skip
        refine R_iconst hC dX11_library_141 ⟨by decide, by decide⟩ ?_
        exact R_ireturn hC dX11_library_142 rfl (⟨_, rfl, ⟨hok, by decide⟩, hq4.1.mo (by simp) (by simp), ⟨hG5, hq4.2.2⟩, by
            refine ⟨?_, ?_, ?_, ?_, ?_, ?_, ?_, ?_, ?_, ?_, ?_, ?_, ?_⟩ <;> intro h <;> first | exact absurd h (by decide) | (exfalso; omega) | exact (by rw [itc_t (hpp.2 hb127)]; exact sm_congr 6 (fun k a b => hp7 _ (by omega) (by omega))) | exact (itc_f (hpp.1 hb127)).symm⟩)
      · skip
        refine R_aload_0 hC dX11_library_130 ?_
        refine R_getR hC dX11_library_131 fl_11_60 (by decide) rfl (by decide) (by decide) (fi := 9) rfl (r := 36) (gr_0_9 hG5) ?_
        refine R_iload_1 hC dX11_library_134 ?_
        refine R_callVq (as := [vI _]) hC dX11_library_135 mo_5_copiesFrom ml_11_253 (by decide) rfl rfl (c5_copiesFrom  hG5 ph_36 hpt (by omega) (by omega)) rfl rfl hRm (by decide) (by decide) (Nat.le_of_ble_eq_true rfl) ?_
        refine R_goto hC dX11_library_138 (tgt := 142) (by decide) ?_
        exact R_ireturn hC dX11_library_142 rfl (⟨_, rfl, ⟨hok, by decide⟩, hq4.1.mo (by simp) (by simp), ⟨hG5, hq4.2.2⟩, by
            refine ⟨?_, ?_, ?_, ?_, ?_, ?_, ?_, ?_, ?_, ?_, ?_, ?_, ?_⟩ <;> intro h <;> first | exact absurd h (by decide) | (exfalso; omega) | exact (by rw [itc_t (hpp.2 hb127)]; exact sm_congr 6 (fun k a b => hp7 _ (by omega) (by omega))) | exact (itc_f (hpp.1 hb127)).symm⟩)
    · skip
      subst hsw2
      refine R_tableIn hC dX11_library_25 (off := 118) (by omega) (by omega) rfl (tgt := 143) (by decide) ?_
      refine R_aload_0 hC dX11_library_143 ?_
      refine R_callVv (as := []) hC dX11_library_144 mo_11_refreshPlan ml_11_207 (by decide) rfl rfl (c11_refreshPlan  hG hD hSP hFP) rfl rfl hRm (by decide) (by decide) (Nat.le_of_ble_eq_true rfl) (fun Mc6 hq7 => ?_)
      have hpt := hq7.2.1.t hSP
      have hpp := hq7.2.1.p
      have hp7 := hq7.2.1.2.1
      refine R_aload_0 hC dX11_library_147 ?_
      have hG8 : GR Mc6 := (GR.fr hG hq7.1 (by decide +kernel))
      refine R_getR hC dX11_library_148 fl_11_60 (by decide) rfl (by decide) (by decide) (fi := 9) rfl (r := 36) (gr_0_9 hG8) ?_
      refine R_getI hC dX11_library_151 fl_11_250 (by decide) rfl (by decide) (by decide) (fi := 2) rfl ?_
      refine R_if_eq hC dX11_library_154 (tgt := 169) (by decide) (fun hb154 => ?_) (fun hb154 => ?_)
      · skip
        refine R_iconst hC dX11_library_169 ⟨by decide, by decide⟩ ?_
        exact R_ireturn hC dX11_library_170 rfl (⟨_, rfl, ⟨hok, by decide⟩, hq7.1.mo (by simp) (by simp), ⟨hG8, hq7.2.2⟩, by
            refine ⟨?_, ?_, ?_, ?_, ?_, ?_, ?_, ?_, ?_, ?_, ?_, ?_, ?_⟩ <;> intro h <;> first | exact absurd h (by decide) | (exfalso; omega) | exact (by rw [itc_t (hpp.2 hb154)]; exact sm_congr 6 (fun k a b => congrArg (d (10 + k) * ·) (hp7 _ (by omega) (by omega)))) | exact (itc_f (hpp.1 hb154)).symm⟩)
      · skip
        refine R_aload_0 hC dX11_library_157 ?_
        refine R_getR hC dX11_library_158 fl_11_60 (by decide) rfl (by decide) (by decide) (fi := 9) rfl (r := 36) (gr_0_9 hG8) ?_
        refine R_iload_1 hC dX11_library_161 ?_
        refine R_aload_3 hC dX11_library_162 ?_
        have hr9 : Mc6 4 = d := ((hq7.1.row (by decide) (by decide)).trans hD)
        refine R_callVq (as := [vI _, vR _]) hC dX11_library_163 mo_5_wonBy ml_11_256 (by decide) rfl rfl (c5_wonBy  hG8 ph_36 hpt sh_3 hr9 hSP.z9 (by omega) (by omega)) rfl rfl hRm (by decide) (by decide) (Nat.le_of_ble_eq_true rfl) ?_
        refine R_goto hC dX11_library_166 (tgt := 170) (by decide) ?_
        exact R_ireturn hC dX11_library_170 rfl (⟨_, rfl, ⟨hok, by decide⟩, hq7.1.mo (by simp) (by simp), ⟨hG8, hq7.2.2⟩, by
            refine ⟨?_, ?_, ?_, ?_, ?_, ?_, ?_, ?_, ?_, ?_, ?_, ?_, ?_⟩ <;> intro h <;> first | exact absurd h (by decide) | (exfalso; omega) | exact (by rw [itc_t (hpp.2 hb154)]; exact sm_congr 6 (fun k a b => congrArg (d (10 + k) * ·) (hp7 _ (by omega) (by omega)))) | exact (itc_f (hpp.1 hb154)).symm⟩)
    · skip
      subst hsw2
      refine R_tableIn hC dX11_library_25 (off := 146) (by omega) (by omega) rfl (tgt := 171) (by decide) ?_
      refine R_aload_0 hC dX11_library_171 ?_
      refine R_getR hC dX11_library_172 fl_11_70 (by decide) rfl (by decide) (by decide) (fi := 11) rfl (r := 38) (gr_0_11 hG) ?_
      refine R_aload_3 hC dX11_library_175 ?_
      refine R_iload_1 hC dX11_library_176 ?_
      refine R_callVp (as := [vR _, vI _]) hC dX11_library_177 mo_4_tighter ml_11_260 (by decide) rfl rfl (c4_tighter  hG hD hSP (by omega) (by omega)) rfl rfl hRm (by decide) (by decide) (Nat.le_of_ble_eq_true rfl) (fun v12 Mc10 hq11 => ?_)
      have hG13 : GR Mc10 := (GR.fr hG hq11.1 (by decide +kernel))
      exact R_ireturn hC dX11_library_180 rfl (⟨_, rfl, ⟨hok, by decide⟩, hq11.1.mo (by simp) (by simp), ⟨hG13, hFP.fr hq11.1 (by decide +kernel)⟩, by
          refine ⟨?_, ?_, ?_, ?_, ?_, ?_, ?_, ?_, ?_, ?_, ?_, ?_, ?_⟩ <;> intro h <;> first | exact absurd h (by decide) | (exfalso; omega) | exact hq11.2⟩)
    · skip
      subst hsw2
      refine R_tableIn hC dX11_library_25 (off := 156) (by omega) (by omega) rfl (tgt := 181) (by decide) ?_
      refine R_aload_3 hC dX11_library_181 ?_
      refine R_iload_1 hC dX11_library_182 ?_
      refine R_callVq (as := [vI _]) hC dX11_library_183 mo_8_scarceWithout ml_11_264 (by decide) rfl rfl (c8_scarceWithout_d  hD hG sh_3 hSP.B (by omega) (by omega)) rfl rfl hRm (by decide) (by decide) (Nat.le_of_ble_eq_true rfl) ?_
      exact R_ireturn hC dX11_library_186 rfl (⟨_, rfl, ⟨hok, by decide⟩, Fr.rf, ⟨hG, hFP⟩, by
          refine ⟨?_, ?_, ?_, ?_, ?_, ?_, ?_, ?_, ?_, ?_, ?_, ?_, ?_⟩ <;> intro h <;> first | exact absurd h (by decide) | (exfalso; omega) | exact rfl⟩)
    · skip
      subst hsw2
      refine R_tableIn hC dX11_library_25 (off := 162) (by omega) (by omega) rfl (tgt := 187) (by decide) ?_
      refine R_aload_3 hC dX11_library_187 ?_
      refine R_iload_1 hC dX11_library_188 ?_
      refine R_callVq (as := [vI _]) hC dX11_library_189 mo_8_lostWithout ml_11_267 (by decide) rfl rfl (c8_lostWithout_d  hD hG sh_3 hSP.B (by omega) (by omega)) rfl rfl hRm (by decide) (by decide) (Nat.le_of_ble_eq_true rfl) ?_
      exact R_ireturn hC dX11_library_192 rfl (⟨_, rfl, ⟨hok, by decide⟩, Fr.rf, ⟨hG, hFP⟩, by
          refine ⟨?_, ?_, ?_, ?_, ?_, ?_, ?_, ?_, ?_, ?_, ?_, ?_, ?_⟩ <;> intro h <;> first | exact absurd h (by decide) | (exfalso; omega) | exact rfl⟩)
    · skip
      subst hsw2
      refine R_tableIn hC dX11_library_25 (off := 168) (by omega) (by omega) rfl (tgt := 193) (by decide) ?_
      refine R_aload_0 hC dX11_library_193 ?_
      refine R_getR hC dX11_library_194 fl_11_77 (by decide) rfl (by decide) (by decide) (fi := 12) rfl (r := 41) (gr_0_12 hG) ?_
      refine R_aload_3 hC dX11_library_197 ?_
      refine R_iload_1 hC dX11_library_198 ?_
      refine R_callVv (as := [vR _, vI _]) hC dX11_library_199 mo_10_goRound ml_11_270 (by decide) rfl rfl (c10_goRound  hG hD hSP (by omega) (by omega)) rfl rfl hRm (by decide) (by decide) (Nat.le_of_ble_eq_true rfl) (fun Mc14 hq15 => ?_)
      refine R_aload_0 hC dX11_library_202 ?_
      have hG16 : GR Mc14 := (GR.fr hG hq15.1 (by decide +kernel))
      refine R_getR hC dX11_library_203 fl_11_77 (by decide) rfl (by decide) (by decide) (fi := 12) rfl (r := 41) (gr_0_12 hG16) ?_
      refine R_getI hC dX11_library_206 fl_11_274 (by decide) rfl (by decide) (by decide) (fi := 5) rfl ?_
      exact R_ireturn hC dX11_library_209 rfl (⟨_, rfl, ⟨hok, by decide⟩, hq15.1.mo (by simp) (by simp), ⟨hG16, hFP.fr hq15.1 (by decide +kernel)⟩, by
          refine ⟨?_, ?_, ?_, ?_, ?_, ?_, ?_, ?_, ?_, ?_, ?_, ?_, ?_⟩ <;> intro h <;> first | exact absurd h (by decide) | (exfalso; omega) | exact (by obtain ⟨b, h1, h2, h3⟩ := hq15.2; exact ⟨b, h1, h2⟩)⟩)
    · skip
      subst hsw2
      refine R_tableIn hC dX11_library_25 (off := 185) (by omega) (by omega) rfl (tgt := 210) (by decide) ?_
      refine R_aload_0 hC dX11_library_210 ?_
      refine R_getR hC dX11_library_211 fl_11_77 (by decide) rfl (by decide) (by decide) (fi := 12) rfl (r := 41) (gr_0_12 hG) ?_
      refine R_aload_3 hC dX11_library_214 ?_
      refine R_iload_1 hC dX11_library_215 ?_
      refine R_callVv (as := [vR _, vI _]) hC dX11_library_216 mo_10_goRound ml_11_270 (by decide) rfl rfl (c10_goRound  hG hD hSP (by omega) (by omega)) rfl rfl hRm (by decide) (by decide) (Nat.le_of_ble_eq_true rfl) (fun Mc17 hq18 => ?_)
      refine R_aload_0 hC dX11_library_219 ?_
      have hG19 : GR Mc17 := (GR.fr hG hq18.1 (by decide +kernel))
      refine R_getR hC dX11_library_220 fl_11_77 (by decide) rfl (by decide) (by decide) (fi := 12) rfl (r := 41) (gr_0_12 hG19) ?_
      refine R_getI hC dX11_library_223 fl_11_276 (by decide) rfl (by decide) (by decide) (fi := 6) rfl ?_
      exact R_ireturn hC dX11_library_226 rfl (⟨_, rfl, ⟨hok, by decide⟩, hq18.1.mo (by simp) (by simp), ⟨hG19, hFP.fr hq18.1 (by decide +kernel)⟩, by
          refine ⟨?_, ?_, ?_, ?_, ?_, ?_, ?_, ?_, ?_, ?_, ?_, ?_, ?_⟩ <;> intro h <;> first | exact absurd h (by decide) | (exfalso; omega) | exact (by obtain ⟨b, h1, h2, h3⟩ := hq18.2; exact ⟨b, h1, h3⟩)⟩)
    · skip
      subst hsw2
      refine R_tableIn hC dX11_library_25 (off := 202) (by omega) (by omega) rfl (tgt := 227) (by decide) ?_
      refine R_aload_0 hC dX11_library_227 ?_
      refine R_getR hC dX11_library_228 fl_11_70 (by decide) rfl (by decide) (by decide) (fi := 11) rfl (r := 38) (gr_0_11 hG) ?_
      refine R_aload_3 hC dX11_library_231 ?_
      refine R_iload_1 hC dX11_library_232 ?_
      refine R_callVp (as := [vR _, vI _]) hC dX11_library_233 mo_4_apart ml_11_279 (by decide) rfl rfl (c4_apart  hG hD hSP (by omega) (by omega)) rfl rfl hRm (by decide) (by decide) (Nat.le_of_ble_eq_true rfl) (fun v22 Mc20 hq21 => ?_)
      have hG23 : GR Mc20 := (GR.fr hG hq21.1 (by decide +kernel))
      exact R_ireturn hC dX11_library_236 rfl (⟨_, rfl, ⟨hok, by decide⟩, hq21.1.mo (by simp) (by simp), ⟨hG23, hFP.fr hq21.1 (by decide +kernel)⟩, by
          refine ⟨?_, ?_, ?_, ?_, ?_, ?_, ?_, ?_, ?_, ?_, ?_, ?_, ?_⟩ <;> intro h <;> first | exact absurd h (by decide) | (exfalso; omega) | exact hq21.2⟩)
    · skip
      subst hsw2
      refine R_tableIn hC dX11_library_25 (off := 212) (by omega) (by omega) rfl (tgt := 237) (by decide) ?_
      refine R_aload_0 hC dX11_library_237 ?_
      refine R_getR hC dX11_library_238 fl_11_70 (by decide) rfl (by decide) (by decide) (fi := 11) rfl (r := 38) (gr_0_11 hG) ?_
      refine R_aload_3 hC dX11_library_241 ?_
      refine R_iload_1 hC dX11_library_242 ?_
      refine R_callVp (as := [vR _, vI _]) hC dX11_library_243 mo_4_priceOfLibrary ml_11_282 (by decide) rfl rfl (c4_priceOfLibrary  hG hD hSP (by omega) (by omega)) rfl rfl hRm (by decide) (by decide) (Nat.le_of_ble_eq_true rfl) (fun v26 Mc24 hq25 => ?_)
      have hG27 : GR Mc24 := (GR.fr hG hq25.1 (by decide +kernel))
      exact R_ireturn hC dX11_library_246 rfl (⟨_, rfl, ⟨hok, by decide⟩, hq25.1.mo (by simp) (by simp), ⟨hG27, hFP.fr hq25.1 (by decide +kernel)⟩, by
          refine ⟨?_, ?_, ?_, ?_, ?_, ?_, ?_, ?_, ?_, ?_, ?_, ?_, ?_⟩ <;> intro h <;> first | exact absurd h (by decide) | (exfalso; omega) | exact hq25.2⟩)
  · skip
    replace hb13 := bP_z hb13
    exact absurd hT ((fun z => by first | exact hb13 z.1 | omega))
theorem dX11_work_0 : decode cX11_work 0 = .ok (.aload_n 0, 1) := by decide +kernel
theorem dX11_work_1 : decode cX11_work 1 = .ok (.getfield 23, 3) := by decide +kernel
theorem dX11_work_4 : decode cX11_work 4 = .ok (.getfield 122, 3) := by decide +kernel
theorem dX11_work_7 : decode cX11_work 7 = .ok (.astore_n 3, 1) := by decide +kernel
theorem dX11_work_8 : decode cX11_work 8 = .ok (.aload_n 3, 1) := by decide +kernel
theorem dX11_work_9 : decode cX11_work 9 = .ok (.iload_n 1, 1) := by decide +kernel
theorem dX11_work_10 : decode cX11_work 10 = .ok (.invokevirtual 285, 3) := by decide +kernel
theorem dX11_work_13 : decode cX11_work 13 = .ok (.ifCond .ne 11, 3) := by decide +kernel
theorem dX11_work_16 : decode cX11_work 16 = .ok (.new 182, 3) := by decide +kernel
theorem dX11_work_19 : decode cX11_work 19 = .ok (.dup, 1) := by decide +kernel
theorem dX11_work_20 : decode cX11_work 20 = .ok (.invokespecial 184, 3) := by decide +kernel
theorem dX11_work_23 : decode cX11_work 23 = .ok (.athrow, 1) := by decide +kernel
theorem dX11_work_24 : decode cX11_work 24 = .ok (.iload_n 2, 1) := by decide +kernel
theorem dX11_work_25 : decode cX11_work 25 = .ok (.tableswitch 154 0 10 #[59, 65, 71, 77, 83, 89, 116, 126, 132, 138, 144], 59) := by decide +kernel
theorem dX11_work_84 : decode cX11_work 84 = .ok (.aload_n 3, 1) := by decide +kernel
theorem dX11_work_85 : decode cX11_work 85 = .ok (.iload_n 1, 1) := by decide +kernel
theorem dX11_work_86 : decode cX11_work 86 = .ok (.invokevirtual 288, 3) := by decide +kernel
theorem dX11_work_89 : decode cX11_work 89 = .ok (.ireturn, 1) := by decide +kernel
theorem dX11_work_90 : decode cX11_work 90 = .ok (.aload_n 3, 1) := by decide +kernel
theorem dX11_work_91 : decode cX11_work 91 = .ok (.iload_n 1, 1) := by decide +kernel
theorem dX11_work_92 : decode cX11_work 92 = .ok (.invokevirtual 291, 3) := by decide +kernel
theorem dX11_work_95 : decode cX11_work 95 = .ok (.ireturn, 1) := by decide +kernel
theorem dX11_work_96 : decode cX11_work 96 = .ok (.aload_n 3, 1) := by decide +kernel
theorem dX11_work_97 : decode cX11_work 97 = .ok (.iload_n 1, 1) := by decide +kernel
theorem dX11_work_98 : decode cX11_work 98 = .ok (.invokevirtual 294, 3) := by decide +kernel
theorem dX11_work_101 : decode cX11_work 101 = .ok (.ireturn, 1) := by decide +kernel
theorem dX11_work_102 : decode cX11_work 102 = .ok (.aload_n 3, 1) := by decide +kernel
theorem dX11_work_103 : decode cX11_work 103 = .ok (.iload_n 1, 1) := by decide +kernel
theorem dX11_work_104 : decode cX11_work 104 = .ok (.invokevirtual 297, 3) := by decide +kernel
theorem dX11_work_107 : decode cX11_work 107 = .ok (.ireturn, 1) := by decide +kernel
theorem dX11_work_108 : decode cX11_work 108 = .ok (.aload_n 3, 1) := by decide +kernel
theorem dX11_work_109 : decode cX11_work 109 = .ok (.iload_n 1, 1) := by decide +kernel
theorem dX11_work_110 : decode cX11_work 110 = .ok (.invokevirtual 300, 3) := by decide +kernel
theorem dX11_work_113 : decode cX11_work 113 = .ok (.ireturn, 1) := by decide +kernel
theorem dX11_work_114 : decode cX11_work 114 = .ok (.aload_n 0, 1) := by decide +kernel
theorem dX11_work_115 : decode cX11_work 115 = .ok (.invokevirtual 207, 3) := by decide +kernel
theorem dX11_work_118 : decode cX11_work 118 = .ok (.aload_n 0, 1) := by decide +kernel
theorem dX11_work_119 : decode cX11_work 119 = .ok (.getfield 60, 3) := by decide +kernel
theorem dX11_work_122 : decode cX11_work 122 = .ok (.getfield 250, 3) := by decide +kernel
theorem dX11_work_125 : decode cX11_work 125 = .ok (.ifCond .eq 14, 3) := by decide +kernel
theorem dX11_work_128 : decode cX11_work 128 = .ok (.aload_n 0, 1) := by decide +kernel
theorem dX11_work_129 : decode cX11_work 129 = .ok (.getfield 60, 3) := by decide +kernel
theorem dX11_work_132 : decode cX11_work 132 = .ok (.iload_n 1, 1) := by decide +kernel
theorem dX11_work_133 : decode cX11_work 133 = .ok (.invokevirtual 303, 3) := by decide +kernel
theorem dX11_work_136 : decode cX11_work 136 = .ok (.goto 4, 3) := by decide +kernel
theorem dX11_work_139 : decode cX11_work 139 = .ok (.iconst (-1), 1) := by decide +kernel
theorem dX11_work_140 : decode cX11_work 140 = .ok (.ireturn, 1) := by decide +kernel
theorem dX11_work_141 : decode cX11_work 141 = .ok (.aload_n 0, 1) := by decide +kernel
theorem dX11_work_142 : decode cX11_work 142 = .ok (.getfield 70, 3) := by decide +kernel
theorem dX11_work_145 : decode cX11_work 145 = .ok (.aload_n 3, 1) := by decide +kernel
theorem dX11_work_146 : decode cX11_work 146 = .ok (.iload_n 1, 1) := by decide +kernel
theorem dX11_work_147 : decode cX11_work 147 = .ok (.invokevirtual 304, 3) := by decide +kernel
theorem dX11_work_150 : decode cX11_work 150 = .ok (.ireturn, 1) := by decide +kernel
theorem dX11_work_151 : decode cX11_work 151 = .ok (.aload_n 3, 1) := by decide +kernel
theorem dX11_work_152 : decode cX11_work 152 = .ok (.iload_n 1, 1) := by decide +kernel
theorem dX11_work_153 : decode cX11_work 153 = .ok (.invokevirtual 307, 3) := by decide +kernel
theorem dX11_work_156 : decode cX11_work 156 = .ok (.ireturn, 1) := by decide +kernel
theorem dX11_work_157 : decode cX11_work 157 = .ok (.aload_n 3, 1) := by decide +kernel
theorem dX11_work_158 : decode cX11_work 158 = .ok (.iload_n 1, 1) := by decide +kernel
theorem dX11_work_159 : decode cX11_work 159 = .ok (.invokevirtual 310, 3) := by decide +kernel
theorem dX11_work_162 : decode cX11_work 162 = .ok (.ireturn, 1) := by decide +kernel
theorem dX11_work_163 : decode cX11_work 163 = .ok (.aload_n 3, 1) := by decide +kernel
theorem dX11_work_164 : decode cX11_work 164 = .ok (.iload_n 1, 1) := by decide +kernel
theorem dX11_work_165 : decode cX11_work 165 = .ok (.invokevirtual 313, 3) := by decide +kernel
theorem dX11_work_168 : decode cX11_work 168 = .ok (.ireturn, 1) := by decide +kernel
theorem dX11_work_169 : decode cX11_work 169 = .ok (.aload_n 0, 1) := by decide +kernel
theorem dX11_work_170 : decode cX11_work 170 = .ok (.getfield 70, 3) := by decide +kernel
theorem dX11_work_173 : decode cX11_work 173 = .ok (.aload_n 3, 1) := by decide +kernel
theorem dX11_work_174 : decode cX11_work 174 = .ok (.iload_n 1, 1) := by decide +kernel
theorem dX11_work_175 : decode cX11_work 175 = .ok (.invokevirtual 316, 3) := by decide +kernel
theorem dX11_work_178 : decode cX11_work 178 = .ok (.ireturn, 1) := by decide +kernel
theorem dX11_work_179 : decode cX11_work 179 = .ok (.new 182, 3) := by decide +kernel
theorem dX11_work_182 : decode cX11_work 182 = .ok (.dup, 1) := by decide +kernel
theorem dX11_work_183 : decode cX11_work 183 = .ok (.invokespecial 184, 3) := by decide +kernel
theorem dX11_work_186 : decode cX11_work 186 = .ok (.athrow, 1) := by decide +kernel
set_option maxHeartbeats 2000000 in
theorem c11_work {G : Gl} {l : Launch} {M : Mem} {d : Int → Int} {w z : Int} (hT : ((0 ≤ w ∧ w < d 122) ∧ 0 ≤ z ∧ z ≤ 10)) (hG : GR M) (hD : M 4 = d) (hSP : SP d) (hFP : FP M d) : Ct G LY 57 l 6 m11_work [vR 0, vI w, vI z] M (fun o M' => ∃ v, o = some (vI v) ∧ ((0 ≤ w ∧ w < d 122) ∧ 0 ≤ z ∧ z ≤ 10) ∧ Fr [25, 26, 27, 28, 29, 30, 31, 32, 33, 34, 35, 37, 40, 42, 43, 44, 47, 48, 50, 51, 54, 56] [(24, 11), (24, 12), (24, 13), (36, 2), (36, 3), (0, 10), (38, 2), (38, 3), (41, 3), (41, 5), (41, 6), (41, 7), (41, 8), (45, 3), (45, 4), (49, 3), (49, 4), (49, 5), (49, 6), (52, 1), (52, 3), (53, 2), (53, 3)] M M' ∧ (GR M' ∧ FP M' d) ∧ (z = 0 → v = d (10 + w)) ∧ (z = 1 → v = d (16 + w)) ∧ (z = 2 → v = allOf d w) ∧ (z = 3 → v = spr d w) ∧ (z = 4 → v = shrt d w) ∧ (z = 5 → v = itc (planI (insOf d)) (sm 5 (fun x => (plT (insOf d)) (x * 6 + w))) (-1)) ∧ (z = 6 → ((v = -1 ∧ ¬ planI (insOf d)) ∨ (planI (insOf d) ∧ FF (fun m => planI (setS (insOf d) w (max 0 (allOf d w - d (16 + w) - m)))) 15 v))) ∧ (z = 7 → v = bits (d 121).toNat (fun k => 0 < d (28 + k * 6 + w))) ∧ (z = 8 → v = d (22 + w)) ∧ (z = 9 → v = safV d w) ∧ (z = 10 → v = if SPC (insOf d) = -1 ∨ d (16 + w) = 0 then -1 else SPC (setS (insOf d) w (max 0 (allOf d w - d (16 + w) + 1))) - SPC (insOf d))) := by
  refine R_start (by decide +kernel) (Nat.le_of_ble_eq_true rfl) (fun C hC hRm hlau => ?_)
  show RZ G LY C (Zn G LY 57 C (fun o M' => ∃ v, o = some (vI v) ∧ ((0 ≤ w ∧ w < d 122) ∧ 0 ≤ z ∧ z ≤ 10) ∧ Fr [25, 26, 27, 28, 29, 30, 31, 32, 33, 34, 35, 37, 40, 42, 43, 44, 47, 48, 50, 51, 54, 56] [(24, 11), (24, 12), (24, 13), (36, 2), (36, 3), (0, 10), (38, 2), (38, 3), (41, 3), (41, 5), (41, 6), (41, 7), (41, 8), (45, 3), (45, 4), (49, 3), (49, 4), (49, 5), (49, 6), (52, 1), (52, 3), (53, 2), (53, 3)] M M' ∧ (GR M' ∧ FP M' d) ∧ (z = 0 → v = d (10 + w)) ∧ (z = 1 → v = d (16 + w)) ∧ (z = 2 → v = allOf d w) ∧ (z = 3 → v = spr d w) ∧ (z = 4 → v = shrt d w) ∧ (z = 5 → v = itc (planI (insOf d)) (sm 5 (fun x => (plT (insOf d)) (x * 6 + w))) (-1)) ∧ (z = 6 → ((v = -1 ∧ ¬ planI (insOf d)) ∨ (planI (insOf d) ∧ FF (fun m => planI (setS (insOf d) w (max 0 (allOf d w - d (16 + w) - m)))) 15 v))) ∧ (z = 7 → v = bits (d 121).toNat (fun k => 0 < d (28 + k * 6 + w))) ∧ (z = 8 → v = d (22 + w)) ∧ (z = 9 → v = safV d w) ∧ (z = 10 → v = if SPC (insOf d) = -1 ∨ d (16 + w) = 0 then -1 else SPC (setS (insOf d) w (max 0 (allOf d w - d (16 + w) + 1))) - SPC (insOf d)))) 0 0 57 0 [some (vR 0), some (vI w), some (vI z), none] [] M
  have hB9 := hSP.B
  have hL0 := hSP.1.1.1
  have hL1 := hSP.1.1.2
  have hW0 := hSP.1.2.1
  have hW1 := hSP.1.2.2
  refine R_aload_0 hC dX11_work_0 ?_
  refine R_getR hC dX11_work_1 fl_11_23 (by decide) rfl (by decide) (by decide) (fi := 3) rfl (r := 2) (gr_0_3 hG) ?_
  refine R_getR hC dX11_work_4 fl_11_122 (by decide) rfl (by decide) (by decide) (fi := 0) rfl (r := 3) (gr_2_0 hG) ?_
  refine R_astore_3 hC dX11_work_7 rfl ?_
  refine R_aload_3 hC dX11_work_8 ?_
  refine R_iload_1 hC dX11_work_9 ?_
  refine R_callVq (as := [vI _]) hC dX11_work_10 mo_8_isWork ml_11_285 (by decide) rfl rfl (c8_isWork_d  hD hG sh_3) rfl rfl hRm (by decide) (by decide) (Nat.le_of_ble_eq_true rfl) ?_
  refine R_if_ne hC dX11_work_13 (tgt := 24) (by decide) (fun hb13 => ?_) (fun hb13 => ?_)
  · skip
    replace hb13 := bP_nz hb13
    have hok := hb13
    refine R_iload_2 hC dX11_work_24 ?_
    by_cases hsw : z < 0 ∨ 10 < z
    · skip
      refine R_tableOut hC dX11_work_25 hsw (tgt := 179) (by decide) ?_
      exact absurd hT ((fun z => by first | exact hb13 z.1 | omega))
    have hsw2 : z = 0 ∨ z = 1 ∨ z = 2 ∨ z = 3 ∨ z = 4 ∨ z = 5 ∨ z = 6 ∨ z = 7 ∨ z = 8 ∨ z = 9 ∨ z = 10 := by omega
    rcases hsw2 with hsw2 | hsw2 | hsw2 | hsw2 | hsw2 | hsw2 | hsw2 | hsw2 | hsw2 | hsw2 | hsw2
    · skip
      subst hsw2
      refine R_tableIn hC dX11_work_25 (off := 59) (by omega) (by omega) rfl (tgt := 84) (by decide) ?_
      refine R_aload_3 hC dX11_work_84 ?_
      refine R_iload_1 hC dX11_work_85 ?_
      refine R_callVq (as := [vI _]) hC dX11_work_86 mo_8_sizeOf ml_11_288 (by decide) rfl rfl (c8_sizeOf_d  hD hG sh_3 (by omega) (by omega)) rfl rfl hRm (by decide) (by decide) (Nat.le_of_ble_eq_true rfl) ?_
      exact R_ireturn hC dX11_work_89 rfl (⟨_, rfl, ⟨hok, by decide⟩, Fr.rf, ⟨hG, hFP⟩, by
          refine ⟨?_, ?_, ?_, ?_, ?_, ?_, ?_, ?_, ?_, ?_, ?_⟩ <;> intro h <;> first | exact absurd h (by decide) | (exfalso; omega) | exact rfl⟩)
    · skip
      subst hsw2
      refine R_tableIn hC dX11_work_25 (off := 65) (by omega) (by omega) rfl (tgt := 90) (by decide) ?_
      refine R_aload_3 hC dX11_work_90 ?_
      refine R_iload_1 hC dX11_work_91 ?_
      refine R_callVq (as := [vI _]) hC dX11_work_92 mo_8_keepOf ml_11_291 (by decide) rfl rfl (c8_keepOf_d  hD hG sh_3 (by omega) (by omega)) rfl rfl hRm (by decide) (by decide) (Nat.le_of_ble_eq_true rfl) ?_
      exact R_ireturn hC dX11_work_95 rfl (⟨_, rfl, ⟨hok, by decide⟩, Fr.rf, ⟨hG, hFP⟩, by
          refine ⟨?_, ?_, ?_, ?_, ?_, ?_, ?_, ?_, ?_, ?_, ?_⟩ <;> intro h <;> first | exact absurd h (by decide) | (exfalso; omega) | exact rfl⟩)
    · skip
      subst hsw2
      refine R_tableIn hC dX11_work_25 (off := 71) (by omega) (by omega) rfl (tgt := 96) (by decide) ?_
      refine R_aload_3 hC dX11_work_96 ?_
      refine R_iload_1 hC dX11_work_97 ?_
      refine R_callVq (as := [vI _]) hC dX11_work_98 mo_8_copiesOf ml_11_294 (by decide) rfl rfl (c8_copiesOf_d  hD hG sh_3 hSP.B (by omega) (by omega)) rfl rfl hRm (by decide) (by decide) (Nat.le_of_ble_eq_true rfl) ?_
      have e98_1 := allOf_bd (w := w) hSP.B (by omega) (by omega)
      exact R_ireturn hC dX11_work_101 rfl (⟨_, rfl, ⟨hok, by decide⟩, Fr.rf, ⟨hG, hFP⟩, by
          refine ⟨?_, ?_, ?_, ?_, ?_, ?_, ?_, ?_, ?_, ?_, ?_⟩ <;> intro h <;> first | exact absurd h (by decide) | (exfalso; omega) | exact rfl⟩)
    · skip
      subst hsw2
      refine R_tableIn hC dX11_work_25 (off := 77) (by omega) (by omega) rfl (tgt := 102) (by decide) ?_
      refine R_aload_3 hC dX11_work_102 ?_
      refine R_iload_1 hC dX11_work_103 ?_
      refine R_callVq (as := [vI _]) hC dX11_work_104 mo_8_spareOf ml_11_297 (by decide) rfl rfl (c8_spareOf_d  hD hG sh_3 hSP.B (by omega) (by omega)) rfl rfl hRm (by decide) (by decide) (Nat.le_of_ble_eq_true rfl) ?_
      have e104_2 := spr_bd (w := w) hSP.B (by omega) (by omega)
      exact R_ireturn hC dX11_work_107 rfl (⟨_, rfl, ⟨hok, by decide⟩, Fr.rf, ⟨hG, hFP⟩, by
          refine ⟨?_, ?_, ?_, ?_, ?_, ?_, ?_, ?_, ?_, ?_, ?_⟩ <;> intro h <;> first | exact absurd h (by decide) | (exfalso; omega) | exact rfl⟩)
    · skip
      subst hsw2
      refine R_tableIn hC dX11_work_25 (off := 83) (by omega) (by omega) rfl (tgt := 108) (by decide) ?_
      refine R_aload_3 hC dX11_work_108 ?_
      refine R_iload_1 hC dX11_work_109 ?_
      refine R_callVq (as := [vI _]) hC dX11_work_110 mo_8_shortOf ml_11_300 (by decide) rfl rfl (c8_shortOf_d  hD hG sh_3 hSP.B (by omega) (by omega)) rfl rfl hRm (by decide) (by decide) (Nat.le_of_ble_eq_true rfl) ?_
      have e110_3 := shrt_bd (w := w) hSP.B (by omega) (by omega)
      exact R_ireturn hC dX11_work_113 rfl (⟨_, rfl, ⟨hok, by decide⟩, Fr.rf, ⟨hG, hFP⟩, by
          refine ⟨?_, ?_, ?_, ?_, ?_, ?_, ?_, ?_, ?_, ?_, ?_⟩ <;> intro h <;> first | exact absurd h (by decide) | (exfalso; omega) | exact rfl⟩)
    · skip
      subst hsw2
      refine R_tableIn hC dX11_work_25 (off := 89) (by omega) (by omega) rfl (tgt := 114) (by decide) ?_
      refine R_aload_0 hC dX11_work_114 ?_
      refine R_callVv (as := []) hC dX11_work_115 mo_11_refreshPlan ml_11_207 (by decide) rfl rfl (c11_refreshPlan  hG hD hSP hFP) rfl rfl hRm (by decide) (by decide) (Nat.le_of_ble_eq_true rfl) (fun Mc4 hq5 => ?_)
      have hpt := hq5.2.1.t hSP
      have hpp := hq5.2.1.p
      have hp7 := hq5.2.1.2.1
      refine R_aload_0 hC dX11_work_118 ?_
      have hG6 : GR Mc4 := (GR.fr hG hq5.1 (by decide +kernel))
      refine R_getR hC dX11_work_119 fl_11_60 (by decide) rfl (by decide) (by decide) (fi := 9) rfl (r := 36) (gr_0_9 hG6) ?_
      refine R_getI hC dX11_work_122 fl_11_250 (by decide) rfl (by decide) (by decide) (fi := 2) rfl ?_
      refine R_if_eq hC dX11_work_125 (tgt := 139) (by decide) (fun hb125 => ?_) (fun hb125 => ?_)
      · skip
        refine R_iconst hC dX11_work_139 ⟨by decide, by decide⟩ ?_
        exact R_ireturn hC dX11_work_140 rfl (⟨_, rfl, ⟨hok, by decide⟩, hq5.1.mo (by simp) (by simp), ⟨hG6, hq5.2.2⟩, by
            refine ⟨?_, ?_, ?_, ?_, ?_, ?_, ?_, ?_, ?_, ?_, ?_⟩ <;> intro h <;> first | exact absurd h (by decide) | (exfalso; omega) | exact (by rw [itc_t (hpp.2 hb125)]; exact sm_congr 5 (fun k a b => hp7 _ (by omega) (by omega))) | exact (itc_f (hpp.1 hb125)).symm⟩)
      · skip
        refine R_aload_0 hC dX11_work_128 ?_
        refine R_getR hC dX11_work_129 fl_11_60 (by decide) rfl (by decide) (by decide) (fi := 9) rfl (r := 36) (gr_0_9 hG6) ?_
        refine R_iload_1 hC dX11_work_132 ?_
        refine R_callVq (as := [vI _]) hC dX11_work_133 mo_5_copiesOf ml_11_303 (by decide) rfl rfl (c5_copiesOf  hG6 ph_36 hpt (by omega) (by omega)) rfl rfl hRm (by decide) (by decide) (Nat.le_of_ble_eq_true rfl) ?_
        refine R_goto hC dX11_work_136 (tgt := 140) (by decide) ?_
        exact R_ireturn hC dX11_work_140 rfl (⟨_, rfl, ⟨hok, by decide⟩, hq5.1.mo (by simp) (by simp), ⟨hG6, hq5.2.2⟩, by
            refine ⟨?_, ?_, ?_, ?_, ?_, ?_, ?_, ?_, ?_, ?_, ?_⟩ <;> intro h <;> first | exact absurd h (by decide) | (exfalso; omega) | exact (by rw [itc_t (hpp.2 hb125)]; exact sm_congr 5 (fun k a b => hp7 _ (by omega) (by omega))) | exact (itc_f (hpp.1 hb125)).symm⟩)
    · skip
      subst hsw2
      refine R_tableIn hC dX11_work_25 (off := 116) (by omega) (by omega) rfl (tgt := 141) (by decide) ?_
      refine R_aload_0 hC dX11_work_141 ?_
      refine R_getR hC dX11_work_142 fl_11_70 (by decide) rfl (by decide) (by decide) (fi := 11) rfl (r := 38) (gr_0_11 hG) ?_
      refine R_aload_3 hC dX11_work_145 ?_
      refine R_iload_1 hC dX11_work_146 ?_
      refine R_callVp (as := [vR _, vI _]) hC dX11_work_147 mo_4_stricter ml_11_304 (by decide) rfl rfl (c4_stricter  hG hD hSP (by omega) (by omega)) rfl rfl hRm (by decide) (by decide) (Nat.le_of_ble_eq_true rfl) (fun v9 Mc7 hq8 => ?_)
      have hG10 : GR Mc7 := (GR.fr hG hq8.1 (by decide +kernel))
      exact R_ireturn hC dX11_work_150 rfl (⟨_, rfl, ⟨hok, by decide⟩, hq8.1.mo (by simp) (by simp), ⟨hG10, hFP.fr hq8.1 (by decide +kernel)⟩, by
          refine ⟨?_, ?_, ?_, ?_, ?_, ?_, ?_, ?_, ?_, ?_, ?_⟩ <;> intro h <;> first | exact absurd h (by decide) | (exfalso; omega) | exact hq8.2⟩)
    · skip
      subst hsw2
      refine R_tableIn hC dX11_work_25 (off := 126) (by omega) (by omega) rfl (tgt := 151) (by decide) ?_
      refine R_aload_3 hC dX11_work_151 ?_
      refine R_iload_1 hC dX11_work_152 ?_
      refine R_callVq (as := [vI _]) hC dX11_work_153 mo_8_holdersOf ml_11_307 (by decide) rfl rfl (c8_holdersOf_d  hD hG sh_3 hSP.B (by omega) (by omega)) rfl rfl hRm (by decide) (by decide) (Nat.le_of_ble_eq_true rfl) ?_
      exact R_ireturn hC dX11_work_156 rfl (⟨_, rfl, ⟨hok, by decide⟩, Fr.rf, ⟨hG, hFP⟩, by
          refine ⟨?_, ?_, ?_, ?_, ?_, ?_, ?_, ?_, ?_, ?_, ?_⟩ <;> intro h <;> first | exact absurd h (by decide) | (exfalso; omega) | exact rfl⟩)
    · skip
      subst hsw2
      refine R_tableIn hC dX11_work_25 (off := 132) (by omega) (by omega) rfl (tgt := 157) (by decide) ?_
      refine R_aload_3 hC dX11_work_157 ?_
      refine R_iload_1 hC dX11_work_158 ?_
      refine R_callVq (as := [vI _]) hC dX11_work_159 mo_8_storedOf ml_11_310 (by decide) rfl rfl (c8_storedOf_d  hD hG sh_3 (by omega) (by omega)) rfl rfl hRm (by decide) (by decide) (Nat.le_of_ble_eq_true rfl) ?_
      exact R_ireturn hC dX11_work_162 rfl (⟨_, rfl, ⟨hok, by decide⟩, Fr.rf, ⟨hG, hFP⟩, by
          refine ⟨?_, ?_, ?_, ?_, ?_, ?_, ?_, ?_, ?_, ?_, ?_⟩ <;> intro h <;> first | exact absurd h (by decide) | (exfalso; omega) | exact rfl⟩)
    · skip
      subst hsw2
      refine R_tableIn hC dX11_work_25 (off := 138) (by omega) (by omega) rfl (tgt := 163) (by decide) ?_
      refine R_aload_3 hC dX11_work_163 ?_
      refine R_iload_1 hC dX11_work_164 ?_
      refine R_callVq (as := [vI _]) hC dX11_work_165 mo_8_safe ml_11_313 (by decide) rfl rfl (c8_safe  hG sh_3 hD hSP.B (by omega) (by omega)) rfl rfl hRm (by decide) (by decide) (Nat.le_of_ble_eq_true rfl) ?_
      exact R_ireturn hC dX11_work_168 rfl (⟨_, rfl, ⟨hok, by decide⟩, Fr.rf, ⟨hG, hFP⟩, by
          refine ⟨?_, ?_, ?_, ?_, ?_, ?_, ?_, ?_, ?_, ?_, ?_⟩ <;> intro h <;> first | exact absurd h (by decide) | (exfalso; omega) | exact rfl⟩)
    · skip
      subst hsw2
      refine R_tableIn hC dX11_work_25 (off := 144) (by omega) (by omega) rfl (tgt := 169) (by decide) ?_
      refine R_aload_0 hC dX11_work_169 ?_
      refine R_getR hC dX11_work_170 fl_11_70 (by decide) rfl (by decide) (by decide) (fi := 11) rfl (r := 38) (gr_0_11 hG) ?_
      refine R_aload_3 hC dX11_work_173 ?_
      refine R_iload_1 hC dX11_work_174 ?_
      refine R_callVp (as := [vR _, vI _]) hC dX11_work_175 mo_4_priceOfWork ml_11_316 (by decide) rfl rfl (c4_priceOfWork  hG hD hSP (by omega) (by omega)) rfl rfl hRm (by decide) (by decide) (Nat.le_of_ble_eq_true rfl) (fun v13 Mc11 hq12 => ?_)
      have hG14 : GR Mc11 := (GR.fr hG hq12.1 (by decide +kernel))
      exact R_ireturn hC dX11_work_178 rfl (⟨_, rfl, ⟨hok, by decide⟩, hq12.1.mo (by simp) (by simp), ⟨hG14, hFP.fr hq12.1 (by decide +kernel)⟩, by
          refine ⟨?_, ?_, ?_, ?_, ?_, ?_, ?_, ?_, ?_, ?_, ?_⟩ <;> intro h <;> first | exact absurd h (by decide) | (exfalso; omega) | exact hq12.2⟩)
  · skip
    replace hb13 := bP_z hb13
    exact absurd hT ((fun z => by first | exact hb13 z.1 | omega))
theorem dX11_held_0 : decode cX11_held 0 = .ok (.aload_n 0, 1) := by decide +kernel
theorem dX11_held_1 : decode cX11_held 1 = .ok (.getfield 23, 3) := by decide +kernel
theorem dX11_held_4 : decode cX11_held 4 = .ok (.getfield 122, 3) := by decide +kernel
theorem dX11_held_7 : decode cX11_held 7 = .ok (.astore 4, 2) := by decide +kernel
theorem dX11_held_9 : decode cX11_held 9 = .ok (.aload 4, 2) := by decide +kernel
theorem dX11_held_11 : decode cX11_held 11 = .ok (.iload_n 1, 1) := by decide +kernel
theorem dX11_held_12 : decode cX11_held 12 = .ok (.iload_n 2, 1) := by decide +kernel
theorem dX11_held_13 : decode cX11_held 13 = .ok (.invokevirtual 319, 3) := by decide +kernel
theorem dX11_held_16 : decode cX11_held 16 = .ok (.ifCond .ne 11, 3) := by decide +kernel
theorem dX11_held_19 : decode cX11_held 19 = .ok (.new 182, 3) := by decide +kernel
theorem dX11_held_22 : decode cX11_held 22 = .ok (.dup, 1) := by decide +kernel
theorem dX11_held_23 : decode cX11_held 23 = .ok (.invokespecial 184, 3) := by decide +kernel
theorem dX11_held_26 : decode cX11_held 26 = .ok (.athrow, 1) := by decide +kernel
theorem dX11_held_27 : decode cX11_held 27 = .ok (.iload_n 3, 1) := by decide +kernel
theorem dX11_held_28 : decode cX11_held 28 = .ok (.tableswitch 146 0 6 #[44, 52, 60, 82, 98, 106, 138], 44) := by decide +kernel
theorem dX11_held_72 : decode cX11_held 72 = .ok (.aload 4, 2) := by decide +kernel
theorem dX11_held_74 : decode cX11_held 74 = .ok (.iload_n 1, 1) := by decide +kernel
theorem dX11_held_75 : decode cX11_held 75 = .ok (.iload_n 2, 1) := by decide +kernel
theorem dX11_held_76 : decode cX11_held 76 = .ok (.invokevirtual 323, 3) := by decide +kernel
theorem dX11_held_79 : decode cX11_held 79 = .ok (.ireturn, 1) := by decide +kernel
theorem dX11_held_80 : decode cX11_held 80 = .ok (.aload 4, 2) := by decide +kernel
theorem dX11_held_82 : decode cX11_held 82 = .ok (.iload_n 1, 1) := by decide +kernel
theorem dX11_held_83 : decode cX11_held 83 = .ok (.iload_n 2, 1) := by decide +kernel
theorem dX11_held_84 : decode cX11_held 84 = .ok (.invokevirtual 327, 3) := by decide +kernel
theorem dX11_held_87 : decode cX11_held 87 = .ok (.ireturn, 1) := by decide +kernel
theorem dX11_held_88 : decode cX11_held 88 = .ok (.aload 4, 2) := by decide +kernel
theorem dX11_held_90 : decode cX11_held 90 = .ok (.iload_n 1, 1) := by decide +kernel
theorem dX11_held_91 : decode cX11_held 91 = .ok (.iload_n 2, 1) := by decide +kernel
theorem dX11_held_92 : decode cX11_held 92 = .ok (.invokevirtual 327, 3) := by decide +kernel
theorem dX11_held_95 : decode cX11_held 95 = .ok (.ifCond .ne 7, 3) := by decide +kernel
theorem dX11_held_98 : decode cX11_held 98 = .ok (.iconst (-1), 1) := by decide +kernel
theorem dX11_held_99 : decode cX11_held 99 = .ok (.goto 10, 3) := by decide +kernel
theorem dX11_held_102 : decode cX11_held 102 = .ok (.aload 4, 2) := by decide +kernel
theorem dX11_held_104 : decode cX11_held 104 = .ok (.iload_n 1, 1) := by decide +kernel
theorem dX11_held_105 : decode cX11_held 105 = .ok (.iload_n 2, 1) := by decide +kernel
theorem dX11_held_106 : decode cX11_held 106 = .ok (.invokevirtual 330, 3) := by decide +kernel
theorem dX11_held_109 : decode cX11_held 109 = .ok (.ireturn, 1) := by decide +kernel
theorem dX11_held_110 : decode cX11_held 110 = .ok (.aload 4, 2) := by decide +kernel
theorem dX11_held_112 : decode cX11_held 112 = .ok (.iload_n 1, 1) := by decide +kernel
theorem dX11_held_113 : decode cX11_held 113 = .ok (.iload_n 2, 1) := by decide +kernel
theorem dX11_held_114 : decode cX11_held 114 = .ok (.invokevirtual 333, 3) := by decide +kernel
theorem dX11_held_117 : decode cX11_held 117 = .ok (.ifCond .eq 7, 3) := by decide +kernel
theorem dX11_held_120 : decode cX11_held 120 = .ok (.iconst 1, 1) := by decide +kernel
theorem dX11_held_121 : decode cX11_held 121 = .ok (.goto 4, 3) := by decide +kernel
theorem dX11_held_124 : decode cX11_held 124 = .ok (.iconst 0, 1) := by decide +kernel
theorem dX11_held_125 : decode cX11_held 125 = .ok (.ireturn, 1) := by decide +kernel
theorem dX11_held_126 : decode cX11_held 126 = .ok (.aload 4, 2) := by decide +kernel
theorem dX11_held_128 : decode cX11_held 128 = .ok (.iload_n 1, 1) := by decide +kernel
theorem dX11_held_129 : decode cX11_held 129 = .ok (.iload_n 2, 1) := by decide +kernel
theorem dX11_held_130 : decode cX11_held 130 = .ok (.invokevirtual 336, 3) := by decide +kernel
theorem dX11_held_133 : decode cX11_held 133 = .ok (.ireturn, 1) := by decide +kernel
theorem dX11_held_134 : decode cX11_held 134 = .ok (.aload_n 0, 1) := by decide +kernel
theorem dX11_held_135 : decode cX11_held 135 = .ok (.invokevirtual 207, 3) := by decide +kernel
theorem dX11_held_138 : decode cX11_held 138 = .ok (.aload_n 0, 1) := by decide +kernel
theorem dX11_held_139 : decode cX11_held 139 = .ok (.getfield 60, 3) := by decide +kernel
theorem dX11_held_142 : decode cX11_held 142 = .ok (.getfield 250, 3) := by decide +kernel
theorem dX11_held_145 : decode cX11_held 145 = .ok (.ifCond .eq 19, 3) := by decide +kernel
theorem dX11_held_148 : decode cX11_held 148 = .ok (.aload_n 0, 1) := by decide +kernel
theorem dX11_held_149 : decode cX11_held 149 = .ok (.getfield 60, 3) := by decide +kernel
theorem dX11_held_152 : decode cX11_held 152 = .ok (.getfield 339, 3) := by decide +kernel
theorem dX11_held_155 : decode cX11_held 155 = .ok (.iload_n 1, 1) := by decide +kernel
theorem dX11_held_156 : decode cX11_held 156 = .ok (.iload_n 2, 1) := by decide +kernel
theorem dX11_held_157 : decode cX11_held 157 = .ok (.invokestatic 342, 3) := by decide +kernel
theorem dX11_held_160 : decode cX11_held 160 = .ok (.iaload, 1) := by decide +kernel
theorem dX11_held_161 : decode cX11_held 161 = .ok (.goto 4, 3) := by decide +kernel
theorem dX11_held_164 : decode cX11_held 164 = .ok (.iconst (-1), 1) := by decide +kernel
theorem dX11_held_165 : decode cX11_held 165 = .ok (.ireturn, 1) := by decide +kernel
theorem dX11_held_166 : decode cX11_held 166 = .ok (.aload 4, 2) := by decide +kernel
theorem dX11_held_168 : decode cX11_held 168 = .ok (.iload_n 1, 1) := by decide +kernel
theorem dX11_held_169 : decode cX11_held 169 = .ok (.iload_n 2, 1) := by decide +kernel
theorem dX11_held_170 : decode cX11_held 170 = .ok (.invokevirtual 345, 3) := by decide +kernel
theorem dX11_held_173 : decode cX11_held 173 = .ok (.ireturn, 1) := by decide +kernel
theorem dX11_held_174 : decode cX11_held 174 = .ok (.new 182, 3) := by decide +kernel
theorem dX11_held_177 : decode cX11_held 177 = .ok (.dup, 1) := by decide +kernel
theorem dX11_held_178 : decode cX11_held 178 = .ok (.invokespecial 184, 3) := by decide +kernel
theorem dX11_held_181 : decode cX11_held 181 = .ok (.athrow, 1) := by decide +kernel
set_option maxHeartbeats 2000000 in
theorem c11_held {G : Gl} {l : Launch} {M : Mem} {d : Int → Int} {x w z : Int} (hT : (((0 ≤ x ∧ x < d 121) ∧ 0 ≤ w ∧ w < d 122) ∧ 0 ≤ z ∧ z ≤ 6)) (hG : GR M) (hD : M 4 = d) (hSP : SP d) (hFP : FP M d) : Ct G LY 57 l 6 m11_held [vR 0, vI x, vI w, vI z] M (fun o M' => ∃ v, o = some (vI v) ∧ (((0 ≤ x ∧ x < d 121) ∧ 0 ≤ w ∧ w < d 122) ∧ 0 ≤ z ∧ z ≤ 6) ∧ Fr [25, 26, 27, 28, 29, 30, 31, 32, 33, 34, 35, 37, 40, 42, 43, 44, 47, 48, 50, 51, 54, 56] [(24, 11), (24, 12), (24, 13), (36, 2), (36, 3), (0, 10), (38, 2), (38, 3), (41, 3), (41, 5), (41, 6), (41, 7), (41, 8), (45, 3), (45, 4), (49, 3), (49, 4), (49, 5), (49, 6), (52, 1), (52, 3), (53, 2), (53, 3)] M M' ∧ (GR M' ∧ FP M' d) ∧ (z = 0 → v = d (28 + x * 6 + w)) ∧ (z = 1 → v = d (58 + x * 6 + w)) ∧ (z = 2 → v = if d (58 + x * 6 + w) = 0 then -1 else d (88 + x * 6 + w)) ∧ (z = 3 → v = bP (0 < d (58 + x * 6 + w) ∧ d 118 ≤ d (88 + x * 6 + w))) ∧ (z = 4 → v = offr d x w) ∧ (z = 5 → v = itc (planI (insOf d)) ((plT (insOf d)) (x * 6 + w)) (-1)) ∧ (z = 6 → v = whyN d x w)) := by
  refine R_start (by decide +kernel) (Nat.le_of_ble_eq_true rfl) (fun C hC hRm hlau => ?_)
  show RZ G LY C (Zn G LY 57 C (fun o M' => ∃ v, o = some (vI v) ∧ (((0 ≤ x ∧ x < d 121) ∧ 0 ≤ w ∧ w < d 122) ∧ 0 ≤ z ∧ z ≤ 6) ∧ Fr [25, 26, 27, 28, 29, 30, 31, 32, 33, 34, 35, 37, 40, 42, 43, 44, 47, 48, 50, 51, 54, 56] [(24, 11), (24, 12), (24, 13), (36, 2), (36, 3), (0, 10), (38, 2), (38, 3), (41, 3), (41, 5), (41, 6), (41, 7), (41, 8), (45, 3), (45, 4), (49, 3), (49, 4), (49, 5), (49, 6), (52, 1), (52, 3), (53, 2), (53, 3)] M M' ∧ (GR M' ∧ FP M' d) ∧ (z = 0 → v = d (28 + x * 6 + w)) ∧ (z = 1 → v = d (58 + x * 6 + w)) ∧ (z = 2 → v = if d (58 + x * 6 + w) = 0 then -1 else d (88 + x * 6 + w)) ∧ (z = 3 → v = bP (0 < d (58 + x * 6 + w) ∧ d 118 ≤ d (88 + x * 6 + w))) ∧ (z = 4 → v = offr d x w) ∧ (z = 5 → v = itc (planI (insOf d)) ((plT (insOf d)) (x * 6 + w)) (-1)) ∧ (z = 6 → v = whyN d x w))) 0 0 57 0 [some (vR 0), some (vI x), some (vI w), some (vI z), none] [] M
  have hB9 := hSP.B
  have hL0 := hSP.1.1.1
  have hL1 := hSP.1.1.2
  have hW0 := hSP.1.2.1
  have hW1 := hSP.1.2.2
  refine R_aload_0 hC dX11_held_0 ?_
  refine R_getR hC dX11_held_1 fl_11_23 (by decide) rfl (by decide) (by decide) (fi := 3) rfl (r := 2) (gr_0_3 hG) ?_
  refine R_getR hC dX11_held_4 fl_11_122 (by decide) rfl (by decide) (by decide) (fi := 0) rfl (r := 3) (gr_2_0 hG) ?_
  refine R_astore_4 hC dX11_held_7 rfl ?_
  refine R_aload_4 hC dX11_held_9 ?_
  refine R_iload_1 hC dX11_held_11 ?_
  refine R_iload_2 hC dX11_held_12 ?_
  refine R_callVq (as := [vI _, vI _]) hC dX11_held_13 mo_8_isPair ml_11_319 (by decide) rfl rfl (c8_isPair_d  hD hG sh_3) rfl rfl hRm (by decide) (by decide) (Nat.le_of_ble_eq_true rfl) ?_
  refine R_if_ne hC dX11_held_16 (tgt := 27) (by decide) (fun hb16 => ?_) (fun hb16 => ?_)
  · skip
    replace hb16 := bP_nz hb16
    have hok := hb16
    refine R_iload_3 hC dX11_held_27 ?_
    by_cases hsw : z < 0 ∨ 6 < z
    · skip
      refine R_tableOut hC dX11_held_28 hsw (tgt := 174) (by decide) ?_
      exact absurd hT ((fun z => by first | exact hb16 z.1 | omega))
    have hsw2 : z = 0 ∨ z = 1 ∨ z = 2 ∨ z = 3 ∨ z = 4 ∨ z = 5 ∨ z = 6 := by omega
    rcases hsw2 with hsw2 | hsw2 | hsw2 | hsw2 | hsw2 | hsw2 | hsw2
    · skip
      subst hsw2
      refine R_tableIn hC dX11_held_28 (off := 44) (by omega) (by omega) rfl (tgt := 72) (by decide) ?_
      refine R_aload_4 hC dX11_held_72 ?_
      refine R_iload_1 hC dX11_held_74 ?_
      refine R_iload_2 hC dX11_held_75 ?_
      refine R_callVq (as := [vI _, vI _]) hC dX11_held_76 mo_8_heldIn ml_11_323 (by decide) rfl rfl (c8_heldIn_d  hD hG sh_3 (by omega) (by omega) (by omega) (by omega)) rfl rfl hRm (by decide) (by decide) (Nat.le_of_ble_eq_true rfl) ?_
      exact R_ireturn hC dX11_held_79 rfl (⟨_, rfl, ⟨hok, by decide⟩, Fr.rf, ⟨hG, hFP⟩, by
          refine ⟨?_, ?_, ?_, ?_, ?_, ?_, ?_⟩ <;> intro h <;> first | exact absurd h (by decide) | (exfalso; omega) | exact rfl⟩)
    · skip
      subst hsw2
      refine R_tableIn hC dX11_held_28 (off := 52) (by omega) (by omega) rfl (tgt := 80) (by decide) ?_
      refine R_aload_4 hC dX11_held_80 ?_
      refine R_iload_1 hC dX11_held_82 ?_
      refine R_iload_2 hC dX11_held_83 ?_
      refine R_callVq (as := [vI _, vI _]) hC dX11_held_84 mo_8_muchOf ml_11_327 (by decide) rfl rfl (c8_muchOf_d  hD hG sh_3 (by omega) (by omega) (by omega) (by omega)) rfl rfl hRm (by decide) (by decide) (Nat.le_of_ble_eq_true rfl) ?_
      exact R_ireturn hC dX11_held_87 rfl (⟨_, rfl, ⟨hok, by decide⟩, Fr.rf, ⟨hG, hFP⟩, by
          refine ⟨?_, ?_, ?_, ?_, ?_, ?_, ?_⟩ <;> intro h <;> first | exact absurd h (by decide) | (exfalso; omega) | exact rfl⟩)
    · skip
      subst hsw2
      refine R_tableIn hC dX11_held_28 (off := 60) (by omega) (by omega) rfl (tgt := 88) (by decide) ?_
      refine R_aload_4 hC dX11_held_88 ?_
      refine R_iload_1 hC dX11_held_90 ?_
      refine R_iload_2 hC dX11_held_91 ?_
      refine R_callVq (as := [vI _, vI _]) hC dX11_held_92 mo_8_muchOf ml_11_327 (by decide) rfl rfl (c8_muchOf_d  hD hG sh_3 (by omega) (by omega) (by omega) (by omega)) rfl rfl hRm (by decide) (by decide) (Nat.le_of_ble_eq_true rfl) ?_
      refine R_if_ne hC dX11_held_95 (tgt := 102) (by decide) (fun hb95 => ?_) (fun hb95 => ?_)
      · skip
        refine R_aload_4 hC dX11_held_102 ?_
        refine R_iload_1 hC dX11_held_104 ?_
        refine R_iload_2 hC dX11_held_105 ?_
        refine R_callVq (as := [vI _, vI _]) hC dX11_held_106 mo_8_untilOf ml_11_330 (by decide) rfl rfl (c8_untilOf_d  hD hG sh_3 (by omega) (by omega) (by omega) (by omega)) rfl rfl hRm (by decide) (by decide) (Nat.le_of_ble_eq_true rfl) ?_
        exact R_ireturn hC dX11_held_109 rfl (⟨_, rfl, ⟨hok, by decide⟩, Fr.rf, ⟨hG, hFP⟩, by
            refine ⟨?_, ?_, ?_, ?_, ?_, ?_, ?_⟩ <;> intro h <;> first | exact absurd h (by decide) | (exfalso; omega) | exact (if_pos hb95).symm | exact (if_neg hb95).symm⟩)
      · skip
        refine R_iconst hC dX11_held_98 ⟨by decide, by decide⟩ ?_
        refine R_goto hC dX11_held_99 (tgt := 109) (by decide) ?_
        exact R_ireturn hC dX11_held_109 rfl (⟨_, rfl, ⟨hok, by decide⟩, Fr.rf, ⟨hG, hFP⟩, by
            refine ⟨?_, ?_, ?_, ?_, ?_, ?_, ?_⟩ <;> intro h <;> first | exact absurd h (by decide) | (exfalso; omega) | exact (if_pos hb95).symm | exact (if_neg hb95).symm⟩)
    · skip
      subst hsw2
      refine R_tableIn hC dX11_held_28 (off := 82) (by omega) (by omega) rfl (tgt := 110) (by decide) ?_
      refine R_aload_4 hC dX11_held_110 ?_
      refine R_iload_1 hC dX11_held_112 ?_
      refine R_iload_2 hC dX11_held_113 ?_
      refine R_callVq (as := [vI _, vI _]) hC dX11_held_114 mo_8_promiseCounts ml_11_333 (by decide) rfl rfl (c8_promiseCounts_d  hD hG sh_3 (by omega) (by omega) (by omega) (by omega)) rfl rfl hRm (by decide) (by decide) (Nat.le_of_ble_eq_true rfl) ?_
      refine R_if_eq hC dX11_held_117 (tgt := 124) (by decide) (fun hb117 => ?_) (fun hb117 => ?_)
      · skip
        replace hb117 := bP_z hb117
        refine R_iconst hC dX11_held_124 ⟨by decide, by decide⟩ ?_
        exact R_ireturn hC dX11_held_125 rfl (⟨_, rfl, ⟨hok, by decide⟩, Fr.rf, ⟨hG, hFP⟩, by
            refine ⟨?_, ?_, ?_, ?_, ?_, ?_, ?_⟩ <;> intro h <;> first | exact absurd h (by decide) | (exfalso; omega) | exact (bP_pos hb117).symm | exact (bP_neg hb117).symm⟩)
      · skip
        replace hb117 := bP_nz hb117
        refine R_iconst hC dX11_held_120 ⟨by decide, by decide⟩ ?_
        refine R_goto hC dX11_held_121 (tgt := 125) (by decide) ?_
        exact R_ireturn hC dX11_held_125 rfl (⟨_, rfl, ⟨hok, by decide⟩, Fr.rf, ⟨hG, hFP⟩, by
            refine ⟨?_, ?_, ?_, ?_, ?_, ?_, ?_⟩ <;> intro h <;> first | exact absurd h (by decide) | (exfalso; omega) | exact (bP_pos hb117).symm | exact (bP_neg hb117).symm⟩)
    · skip
      subst hsw2
      refine R_tableIn hC dX11_held_28 (off := 98) (by omega) (by omega) rfl (tgt := 126) (by decide) ?_
      refine R_aload_4 hC dX11_held_126 ?_
      refine R_iload_1 hC dX11_held_128 ?_
      refine R_iload_2 hC dX11_held_129 ?_
      refine R_callVq (as := [vI _, vI _]) hC dX11_held_130 mo_8_offerOf ml_11_336 (by decide) rfl rfl (c8_offerOf_d  hD hG sh_3 hSP.B (by omega) (by omega) (by omega) (by omega)) rfl rfl hRm (by decide) (by decide) (Nat.le_of_ble_eq_true rfl) ?_
      have e130_1 := offr_bd (x := x) (w := w) hSP.B (by omega) (by omega) (by omega) (by omega)
      exact R_ireturn hC dX11_held_133 rfl (⟨_, rfl, ⟨hok, by decide⟩, Fr.rf, ⟨hG, hFP⟩, by
          refine ⟨?_, ?_, ?_, ?_, ?_, ?_, ?_⟩ <;> intro h <;> first | exact absurd h (by decide) | (exfalso; omega) | exact rfl⟩)
    · skip
      subst hsw2
      refine R_tableIn hC dX11_held_28 (off := 106) (by omega) (by omega) rfl (tgt := 134) (by decide) ?_
      refine R_aload_0 hC dX11_held_134 ?_
      refine R_callVv (as := []) hC dX11_held_135 mo_11_refreshPlan ml_11_207 (by decide) rfl rfl (c11_refreshPlan  hG hD hSP hFP) rfl rfl hRm (by decide) (by decide) (Nat.le_of_ble_eq_true rfl) (fun Mc2 hq3 => ?_)
      have hpt := hq3.2.1.t hSP
      have hpp := hq3.2.1.p
      have hp7 := hq3.2.1.2.1
      refine R_aload_0 hC dX11_held_138 ?_
      have hG4 : GR Mc2 := (GR.fr hG hq3.1 (by decide +kernel))
      refine R_getR hC dX11_held_139 fl_11_60 (by decide) rfl (by decide) (by decide) (fi := 9) rfl (r := 36) (gr_0_9 hG4) ?_
      refine R_getI hC dX11_held_142 fl_11_250 (by decide) rfl (by decide) (by decide) (fi := 2) rfl ?_
      refine R_if_eq hC dX11_held_145 (tgt := 164) (by decide) (fun hb145 => ?_) (fun hb145 => ?_)
      · skip
        refine R_iconst hC dX11_held_164 ⟨by decide, by decide⟩ ?_
        exact R_ireturn hC dX11_held_165 rfl (⟨_, rfl, ⟨hok, by decide⟩, hq3.1.mo (by simp) (by simp), ⟨hG4, hq3.2.2⟩, by
            refine ⟨?_, ?_, ?_, ?_, ?_, ?_, ?_⟩ <;> intro h <;> first | exact absurd h (by decide) | (exfalso; omega) | exact (by rw [itc_t (hpp.2 hb145)]; exact hp7 _ (by omega) (by omega)) | exact (itc_f (hpp.1 hb145)).symm⟩)
      · skip
        refine R_aload_0 hC dX11_held_148 ?_
        refine R_getR hC dX11_held_149 fl_11_60 (by decide) rfl (by decide) (by decide) (fi := 9) rfl (r := 36) (gr_0_9 hG4) ?_
        refine R_getR hC dX11_held_152 fl_11_339 (by decide) rfl (by decide) (by decide) (fi := 1) rfl (r := 37) (gr_36_1 hG4) ?_
        refine R_iload_1 hC dX11_held_155 ?_
        refine R_iload_2 hC dX11_held_156 ?_
        refine R_callSq (as := [vI _, vI _]) hC dX11_held_157 mo_11_pairOf ml_11_342 (c11_pairOf  (by omega) (by omega) (by omega) (by omega)) rfl rfl hRm (by decide) (by decide) (Nat.le_of_ble_eq_true rfl) ?_
        refine R_iaload hC dX11_held_160 (by decide) rfl (by omega) (by omega) ?_
        refine R_goto hC dX11_held_161 (tgt := 165) (by decide) ?_
        exact R_ireturn hC dX11_held_165 rfl (⟨_, rfl, ⟨hok, by decide⟩, hq3.1.mo (by simp) (by simp), ⟨hG4, hq3.2.2⟩, by
            refine ⟨?_, ?_, ?_, ?_, ?_, ?_, ?_⟩ <;> intro h <;> first | exact absurd h (by decide) | (exfalso; omega) | exact (by rw [itc_t (hpp.2 hb145)]; exact hp7 _ (by omega) (by omega)) | exact (itc_f (hpp.1 hb145)).symm⟩)
    · skip
      subst hsw2
      refine R_tableIn hC dX11_held_28 (off := 138) (by omega) (by omega) rfl (tgt := 166) (by decide) ?_
      refine R_aload_4 hC dX11_held_166 ?_
      refine R_iload_1 hC dX11_held_168 ?_
      refine R_iload_2 hC dX11_held_169 ?_
      refine R_callVq (as := [vI _, vI _]) hC dX11_held_170 mo_8_whyNot ml_11_345 (by decide) rfl rfl (c8_whyNot_d  hD hG sh_3 hSP.B (by omega) (by omega) (by omega) (by omega)) rfl rfl hRm (by decide) (by decide) (Nat.le_of_ble_eq_true rfl) ?_
      exact R_ireturn hC dX11_held_173 rfl (⟨_, rfl, ⟨hok, by decide⟩, Fr.rf, ⟨hG, hFP⟩, by
          refine ⟨?_, ?_, ?_, ?_, ?_, ?_, ?_⟩ <;> intro h <;> first | exact absurd h (by decide) | (exfalso; omega) | exact rfl⟩)
  · skip
    replace hb16 := bP_z hb16
    exact absurd hT ((fun z => by first | exact hb16 z.1 | omega))
theorem dX11_lack_0 : decode cX11_lack 0 = .ok (.aload_n 0, 1) := by decide +kernel
theorem dX11_lack_1 : decode cX11_lack 1 = .ok (.getfield 51, 3) := by decide +kernel
theorem dX11_lack_4 : decode cX11_lack 4 = .ok (.aload_n 0, 1) := by decide +kernel
theorem dX11_lack_5 : decode cX11_lack 5 = .ok (.getfield 23, 3) := by decide +kernel
theorem dX11_lack_8 : decode cX11_lack 8 = .ok (.getfield 122, 3) := by decide +kernel
theorem dX11_lack_11 : decode cX11_lack 11 = .ok (.invokevirtual 213, 3) := by decide +kernel
theorem dX11_lack_14 : decode cX11_lack 14 = .ok (.iload_n 1, 1) := by decide +kernel
theorem dX11_lack_15 : decode cX11_lack 15 = .ok (.ifCond .lt 14, 3) := by decide +kernel
theorem dX11_lack_18 : decode cX11_lack 18 = .ok (.iload_n 1, 1) := by decide +kernel
theorem dX11_lack_19 : decode cX11_lack 19 = .ok (.aload_n 0, 1) := by decide +kernel
theorem dX11_lack_20 : decode cX11_lack 20 = .ok (.getfield 51, 3) := by decide +kernel
theorem dX11_lack_23 : decode cX11_lack 23 = .ok (.getfield 348, 3) := by decide +kernel
theorem dX11_lack_26 : decode cX11_lack 26 = .ok (.if_icmp .lt 11, 3) := by decide +kernel
theorem dX11_lack_29 : decode cX11_lack 29 = .ok (.new 108, 3) := by decide +kernel
theorem dX11_lack_32 : decode cX11_lack 32 = .ok (.dup, 1) := by decide +kernel
theorem dX11_lack_33 : decode cX11_lack 33 = .ok (.invokespecial 110, 3) := by decide +kernel
theorem dX11_lack_36 : decode cX11_lack 36 = .ok (.athrow, 1) := by decide +kernel
theorem dX11_lack_37 : decode cX11_lack 37 = .ok (.aload_n 0, 1) := by decide +kernel
theorem dX11_lack_38 : decode cX11_lack 38 = .ok (.getfield 51, 3) := by decide +kernel
theorem dX11_lack_41 : decode cX11_lack 41 = .ok (.iload_n 1, 1) := by decide +kernel
theorem dX11_lack_42 : decode cX11_lack 42 = .ok (.invokevirtual 225, 3) := by decide +kernel
theorem dX11_lack_45 : decode cX11_lack 45 = .ok (.ireturn, 1) := by decide +kernel
set_option maxHeartbeats 2000000 in
theorem c11_lack {G : Gl} {l : Launch} {M : Mem} {d : Int → Int} {w : Int} (hT : (0 ≤ w ∧ w < 2 ^ (d 121).toNat)) (hG : GR M) (hD : M 4 = d) (hSP : SP d) (hFP : FP M d) : Ct G LY 57 l 6 m11_lack [vR 0, vI w] M (fun o M' => ∃ v, o = some (vI v) ∧ (0 ≤ w ∧ w < 2 ^ (d 121).toNat) ∧ Fr [25, 26, 27, 28, 29, 30, 31, 32, 33, 34, 35, 37, 40, 42, 43, 44, 47, 48, 50, 51, 54, 56] [(24, 11), (24, 12), (24, 13), (36, 2), (36, 3), (0, 10), (38, 2), (38, 3), (41, 3), (41, 5), (41, 6), (41, 7), (41, 8), (45, 3), (45, 4), (49, 3), (49, 4), (49, 5), (49, 6), (52, 1), (52, 3), (53, 2), (53, 3)] M M' ∧ (GR M' ∧ FP M' d) ∧ v = lackI (insOf d) w) := by
  refine R_start (by decide +kernel) (Nat.le_of_ble_eq_true rfl) (fun C hC hRm hlau => ?_)
  show RZ G LY C (Zn G LY 57 C (fun o M' => ∃ v, o = some (vI v) ∧ (0 ≤ w ∧ w < 2 ^ (d 121).toNat) ∧ Fr [25, 26, 27, 28, 29, 30, 31, 32, 33, 34, 35, 37, 40, 42, 43, 44, 47, 48, 50, 51, 54, 56] [(24, 11), (24, 12), (24, 13), (36, 2), (36, 3), (0, 10), (38, 2), (38, 3), (41, 3), (41, 5), (41, 6), (41, 7), (41, 8), (45, 3), (45, 4), (49, 3), (49, 4), (49, 5), (49, 6), (52, 1), (52, 3), (53, 2), (53, 3)] M M' ∧ (GR M' ∧ FP M' d) ∧ v = lackI (insOf d) w)) 0 0 57 0 [some (vR 0), some (vI w)] [] M
  have hB9 := hSP.B
  have hL0 := hSP.1.1.1
  have hL1 := hSP.1.1.2
  have hW0 := hSP.1.2.1
  have hW1 := hSP.1.2.2
  refine R_aload_0 hC dX11_lack_0 ?_
  refine R_getR hC dX11_lack_1 fl_11_51 (by decide) rfl (by decide) (by decide) (fi := 8) rfl (r := 24) (gr_0_8 hG) ?_
  refine R_aload_0 hC dX11_lack_4 ?_
  refine R_getR hC dX11_lack_5 fl_11_23 (by decide) rfl (by decide) (by decide) (fi := 3) rfl (r := 2) (gr_0_3 hG) ?_
  refine R_getR hC dX11_lack_8 fl_11_122 (by decide) rfl (by decide) (by decide) (fi := 0) rfl (r := 3) (gr_2_0 hG) ?_
  refine R_callVv (as := [vR _]) hC dX11_lack_11 mo_6_load ml_11_213 (by decide) rfl rfl (c6_load  hG sh_3 hD hSP.B) rfl rfl hRm (by decide) (by decide) (Nat.le_of_ble_eq_true rfl) (fun Mc1 hq2 => ?_)
  have hSC3 := hq2.2
  have h13 : Mc1 24 13 = 2 ^ (d 121).toNat := hq2.2.1.2.2
  have hFl : Fr [25, 26, 27, 28, 29, 30, 31, 32, 33, 34, 35, 37, 40, 42, 43, 44, 47, 48, 50, 51, 54, 56] [(24, 11), (24, 12), (24, 13), (36, 2), (36, 3), (0, 10), (38, 2), (38, 3), (41, 3), (41, 5), (41, 6), (41, 7), (41, 8), (45, 3), (45, 4), (49, 3), (49, 4), (49, 5), (49, 6), (52, 1), (52, 3), (53, 2), (53, 3)] M Mc1 := hq2.1.mo (by simp) (by simp)
  have hPl := hFP.fr hq2.1 (by decide +kernel)
  refine R_iload_1 hC dX11_lack_14 ?_
  refine R_if_lt hC dX11_lack_15 (tgt := 29) (by decide) (fun hb15 => ?_) (fun hb15 => ?_)
  · skip
    have hG4 : GR Mc1 := (GR.fr hG hq2.1 (by decide +kernel))
    exact absurd hT ((fun z => by first | omega | exact absurd z.2 hb26))
  · skip
    refine R_iload_1 hC dX11_lack_18 ?_
    refine R_aload_0 hC dX11_lack_19 ?_
    have hG5 : GR Mc1 := (GR.fr hG hq2.1 (by decide +kernel))
    refine R_getR hC dX11_lack_20 fl_11_51 (by decide) rfl (by decide) (by decide) (fi := 8) rfl (r := 24) (gr_0_8 hG5) ?_
    refine R_getIE hC dX11_lack_23 fl_11_348 (by decide) rfl (by decide) (by decide) (fi := 13) rfl h13 ?_
    refine R_icmp_lt hC dX11_lack_26 (tgt := 37) (by decide) (fun hb26 => ?_) (fun hb26 => ?_)
    · skip
      refine R_aload_0 hC dX11_lack_37 ?_
      refine R_getR hC dX11_lack_38 fl_11_51 (by decide) rfl (by decide) (by decide) (fi := 8) rfl (r := 24) (gr_0_8 hG5) ?_
      refine R_iload_1 hC dX11_lack_41 ?_
      refine R_callVq (as := [vI _]) hC dX11_lack_42 mo_6_lackOf ml_11_225 (by decide) rfl rfl (c6_lackOf  hG5 hSC3 (SP.I hSP) (by omega) hb26) rfl rfl hRm (by decide) (by decide) (Nat.le_of_ble_eq_true rfl) ?_
      have e42_6 := IB.lk (t := w) (SP.I hSP) (by omega) hb26
      exact R_ireturn hC dX11_lack_45 rfl (⟨_, rfl, ⟨by omega, hb26⟩, hFl, ⟨hG5, hPl⟩, rfl⟩)
    · skip
      exact absurd hT ((fun z => by first | omega | exact absurd z.2 hb26))