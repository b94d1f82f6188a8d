/-! the model's questions: count, library, work, held, lack, order -/
theorem rt_e {a b q : Int} {p : Prop} [Decidable p] (h : a = if b = 0 ∧ ¬ p then q else b) (hb : b = 0) : a = if p then 0 else q := by
  rw [h]
  by_cases y : p
  · rw [if_neg (fun z => z.2 y), if_pos y, hb]
  · rw [if_pos ⟨hb, y⟩, if_neg y]
theorem rt_y {a v : Int} {p : Prop} [Decidable p] (h : a = if p then 0 else 1) (hv : v = bP (a = 0)) (h2 : v ≠ 0) : p := Classical.byContradiction (fun z => by
  have y := bP_nz (fun y => h2 (hv.trans y))
  rw [h, if_neg z] at y
  cases y)
theorem rt_n {a v : Int} {p : Prop} [Decidable p] (h : a = if p then 0 else 1) (hv : v = bP (a = 0)) (h2 : v = 0) : ¬ p := fun z => bP_z (hv.symm.trans h2) (h.trans (if_pos z))

theorem dX12_count_0 : decode cX12_count 0 = .ok (.aload_n 0, 1) := by decide +kernel
theorem dX12_count_1 : decode cX12_count 1 = .ok (.iconst 0, 1) := by decide +kernel
theorem dX12_count_2 : decode cX12_count 2 = .ok (.putfield 84, 3) := by decide +kernel
theorem dX12_count_5 : decode cX12_count 5 = .ok (.aload_n 0, 1) := by decide +kernel
theorem dX12_count_6 : decode cX12_count 6 = .ok (.iload_n 1, 1) := by decide +kernel
theorem dX12_count_7 : decode cX12_count 7 = .ok (.iconst 0, 1) := by decide +kernel
theorem dX12_count_8 : decode cX12_count 8 = .ok (.bipush 27, 2) := by decide +kernel
theorem dX12_count_10 : decode cX12_count 10 = .ok (.invokestatic 235, 3) := by decide +kernel
theorem dX12_count_13 : decode cX12_count 13 = .ok (.iconst 1, 1) := by decide +kernel
theorem dX12_count_14 : decode cX12_count 14 = .ok (.invokevirtual 269, 3) := by decide +kernel
theorem dX12_count_17 : decode cX12_count 17 = .ok (.ifCond .ne 5, 3) := by decide +kernel
theorem dX12_count_20 : decode cX12_count 20 = .ok (.iconst 0, 1) := by decide +kernel
theorem dX12_count_21 : decode cX12_count 21 = .ok (.ireturn, 1) := by decide +kernel
theorem dX12_count_22 : decode cX12_count 22 = .ok (.iload_n 1, 1) := by decide +kernel
theorem dX12_count_23 : decode cX12_count 23 = .ok (.tableswitch 287 0 27 #[125, 130, 135, 143, 149, 157, 171, 177, 194, 199, 199, 199, 205, 210, 210, 226, 231, 236, 241, 246, 287, 287, 287, 251, 251, 267, 272, 278], 125) := by decide +kernel
theorem dX12_count_148 : decode cX12_count 148 = .ok (.aload_n 0, 1) := by decide +kernel
theorem dX12_count_149 : decode cX12_count 149 = .ok (.getfield 105, 3) := by decide +kernel
theorem dX12_count_152 : decode cX12_count 152 = .ok (.ireturn, 1) := by decide +kernel
theorem dX12_count_153 : decode cX12_count 153 = .ok (.aload_n 0, 1) := by decide +kernel
theorem dX12_count_154 : decode cX12_count 154 = .ok (.getfield 102, 3) := by decide +kernel
theorem dX12_count_157 : decode cX12_count 157 = .ok (.ireturn, 1) := by decide +kernel
theorem dX12_count_158 : decode cX12_count 158 = .ok (.aload_n 0, 1) := by decide +kernel
theorem dX12_count_159 : decode cX12_count 159 = .ok (.getfield 9, 3) := by decide +kernel
theorem dX12_count_162 : decode cX12_count 162 = .ok (.bipush 106, 2) := by decide +kernel
theorem dX12_count_164 : decode cX12_count 164 = .ok (.iaload, 1) := by decide +kernel
theorem dX12_count_165 : decode cX12_count 165 = .ok (.ireturn, 1) := by decide +kernel
theorem dX12_count_166 : decode cX12_count 166 = .ok (.aload_n 0, 1) := by decide +kernel
theorem dX12_count_167 : decode cX12_count 167 = .ok (.iconst 0, 1) := by decide +kernel
theorem dX12_count_168 : decode cX12_count 168 = .ok (.invokevirtual 338, 3) := by decide +kernel
theorem dX12_count_171 : decode cX12_count 171 = .ok (.ireturn, 1) := by decide +kernel
theorem dX12_count_172 : decode cX12_count 172 = .ok (.aload_n 0, 1) := by decide +kernel
theorem dX12_count_173 : decode cX12_count 173 = .ok (.getfield 9, 3) := by decide +kernel
theorem dX12_count_176 : decode cX12_count 176 = .ok (.bipush 107, 2) := by decide +kernel
theorem dX12_count_178 : decode cX12_count 178 = .ok (.iaload, 1) := by decide +kernel
theorem dX12_count_179 : decode cX12_count 179 = .ok (.ireturn, 1) := by decide +kernel
theorem dX12_count_180 : decode cX12_count 180 = .ok (.aload_n 0, 1) := by decide +kernel
theorem dX12_count_181 : decode cX12_count 181 = .ok (.iconst 0, 1) := by decide +kernel
theorem dX12_count_182 : decode cX12_count 182 = .ok (.invokevirtual 296, 3) := by decide +kernel
theorem dX12_count_185 : decode cX12_count 185 = .ok (.ifCond .eq 7, 3) := by decide +kernel
theorem dX12_count_188 : decode cX12_count 188 = .ok (.iconst 1, 1) := by decide +kernel
theorem dX12_count_189 : decode cX12_count 189 = .ok (.goto 4, 3) := by decide +kernel
theorem dX12_count_192 : decode cX12_count 192 = .ok (.iconst 0, 1) := by decide +kernel
theorem dX12_count_193 : decode cX12_count 193 = .ok (.ireturn, 1) := by decide +kernel
theorem dX12_count_194 : decode cX12_count 194 = .ok (.aload_n 0, 1) := by decide +kernel
theorem dX12_count_195 : decode cX12_count 195 = .ok (.iconst 0, 1) := by decide +kernel
theorem dX12_count_196 : decode cX12_count 196 = .ok (.invokevirtual 172, 3) := by decide +kernel
theorem dX12_count_199 : decode cX12_count 199 = .ok (.ireturn, 1) := by decide +kernel
theorem dX12_count_200 : decode cX12_count 200 = .ok (.aload_n 0, 1) := by decide +kernel
theorem dX12_count_201 : decode cX12_count 201 = .ok (.iconst 0, 1) := by decide +kernel
theorem dX12_count_202 : decode cX12_count 202 = .ok (.invokevirtual 190, 3) := by decide +kernel
theorem dX12_count_205 : decode cX12_count 205 = .ok (.ifCond .eq 10, 3) := by decide +kernel
theorem dX12_count_208 : decode cX12_count 208 = .ok (.aload_n 0, 1) := by decide +kernel
theorem dX12_count_209 : decode cX12_count 209 = .ok (.invokevirtual 341, 3) := by decide +kernel
theorem dX12_count_212 : decode cX12_count 212 = .ok (.goto 4, 3) := by decide +kernel
theorem dX12_count_215 : decode cX12_count 215 = .ok (.iconst (-1), 1) := by decide +kernel
theorem dX12_count_216 : decode cX12_count 216 = .ok (.ireturn, 1) := by decide +kernel
theorem dX12_count_217 : decode cX12_count 217 = .ok (.aload_n 0, 1) := by decide +kernel
theorem dX12_count_218 : decode cX12_count 218 = .ok (.invokevirtual 344, 3) := by decide +kernel
theorem dX12_count_221 : decode cX12_count 221 = .ok (.ireturn, 1) := by decide +kernel
theorem dX12_count_222 : decode cX12_count 222 = .ok (.aload_n 0, 1) := by decide +kernel
theorem dX12_count_223 : decode cX12_count 223 = .ok (.iload_n 1, 1) := by decide +kernel
theorem dX12_count_224 : decode cX12_count 224 = .ok (.invokevirtual 347, 3) := by decide +kernel
theorem dX12_count_227 : decode cX12_count 227 = .ok (.ireturn, 1) := by decide +kernel
theorem dX12_count_228 : decode cX12_count 228 = .ok (.aload_n 0, 1) := by decide +kernel
theorem dX12_count_229 : decode cX12_count 229 = .ok (.invokevirtual 350, 3) := by decide +kernel
theorem dX12_count_232 : decode cX12_count 232 = .ok (.ireturn, 1) := by decide +kernel
theorem dX12_count_233 : decode cX12_count 233 = .ok (.aload_n 0, 1) := by decide +kernel
theorem dX12_count_234 : decode cX12_count 234 = .ok (.iload_n 1, 1) := by decide +kernel
theorem dX12_count_235 : decode cX12_count 235 = .ok (.bipush 14, 2) := by decide +kernel
theorem dX12_count_237 : decode cX12_count 237 = .ok (.if_icmp .ne 7, 3) := by decide +kernel
theorem dX12_count_240 : decode cX12_count 240 = .ok (.iconst 1, 1) := by decide +kernel
theorem dX12_count_241 : decode cX12_count 241 = .ok (.goto 4, 3) := by decide +kernel
theorem dX12_count_244 : decode cX12_count 244 = .ok (.iconst 0, 1) := by decide +kernel
theorem dX12_count_245 : decode cX12_count 245 = .ok (.invokevirtual 353, 3) := by decide +kernel
theorem dX12_count_248 : decode cX12_count 248 = .ok (.ireturn, 1) := by decide +kernel
theorem dX12_count_249 : decode cX12_count 249 = .ok (.aload_n 0, 1) := by decide +kernel
theorem dX12_count_250 : decode cX12_count 250 = .ok (.invokevirtual 357, 3) := by decide +kernel
theorem dX12_count_253 : decode cX12_count 253 = .ok (.ireturn, 1) := by decide +kernel
theorem dX12_count_254 : decode cX12_count 254 = .ok (.aload_n 0, 1) := by decide +kernel
theorem dX12_count_255 : decode cX12_count 255 = .ok (.invokevirtual 360, 3) := by decide +kernel
theorem dX12_count_258 : decode cX12_count 258 = .ok (.ireturn, 1) := by decide +kernel
theorem dX12_count_259 : decode cX12_count 259 = .ok (.aload_n 0, 1) := by decide +kernel
theorem dX12_count_260 : decode cX12_count 260 = .ok (.getfield 287, 3) := by decide +kernel
theorem dX12_count_263 : decode cX12_count 263 = .ok (.ireturn, 1) := by decide +kernel
theorem dX12_count_264 : decode cX12_count 264 = .ok (.aload_n 0, 1) := by decide +kernel
theorem dX12_count_265 : decode cX12_count 265 = .ok (.getfield 281, 3) := by decide +kernel
theorem dX12_count_268 : decode cX12_count 268 = .ok (.ireturn, 1) := by decide +kernel
theorem dX12_count_269 : decode cX12_count 269 = .ok (.aload_n 0, 1) := by decide +kernel
theorem dX12_count_270 : decode cX12_count 270 = .ok (.getfield 266, 3) := by decide +kernel
theorem dX12_count_273 : decode cX12_count 273 = .ok (.ireturn, 1) := by decide +kernel
theorem dX12_count_274 : decode cX12_count 274 = .ok (.aload_n 0, 1) := by decide +kernel
theorem dX12_count_275 : decode cX12_count 275 = .ok (.iload_n 1, 1) := by decide +kernel
theorem dX12_count_276 : decode cX12_count 276 = .ok (.bipush 24, 2) := by decide +kernel
theorem dX12_count_278 : decode cX12_count 278 = .ok (.if_icmp .ne 7, 3) := by decide +kernel
theorem dX12_count_281 : decode cX12_count 281 = .ok (.iconst 1, 1) := by decide +kernel
theorem dX12_count_282 : decode cX12_count 282 = .ok (.goto 4, 3) := by decide +kernel
theorem dX12_count_285 : decode cX12_count 285 = .ok (.iconst 0, 1) := by decide +kernel
theorem dX12_count_286 : decode cX12_count 286 = .ok (.invokevirtual 363, 3) := by decide +kernel
theorem dX12_count_289 : decode cX12_count 289 = .ok (.ireturn, 1) := by decide +kernel
theorem dX12_count_290 : decode cX12_count 290 = .ok (.aload_n 0, 1) := by decide +kernel
theorem dX12_count_291 : decode cX12_count 291 = .ok (.getfield 275, 3) := by decide +kernel
theorem dX12_count_294 : decode cX12_count 294 = .ok (.ireturn, 1) := by decide +kernel
theorem dX12_count_295 : decode cX12_count 295 = .ok (.aload_n 0, 1) := by decide +kernel
theorem dX12_count_296 : decode cX12_count 296 = .ok (.iconst 0, 1) := by decide +kernel
theorem dX12_count_297 : decode cX12_count 297 = .ok (.invokevirtual 366, 3) := by decide +kernel
theorem dX12_count_300 : decode cX12_count 300 = .ok (.ireturn, 1) := by decide +kernel
theorem dX12_count_301 : decode cX12_count 301 = .ok (.aload_n 0, 1) := by decide +kernel
theorem dX12_count_302 : decode cX12_count 302 = .ok (.invokevirtual 369, 3) := by decide +kernel
theorem dX12_count_305 : decode cX12_count 305 = .ok (.aload_n 0, 1) := by decide +kernel
theorem dX12_count_306 : decode cX12_count 306 = .ok (.getfield 326, 3) := by decide +kernel
theorem dX12_count_309 : decode cX12_count 309 = .ok (.ireturn, 1) := by decide +kernel
theorem dX12_count_310 : decode cX12_count 310 = .ok (.aload_n 0, 1) := by decide +kernel
theorem dX12_count_311 : decode cX12_count 311 = .ok (.getfield 19, 3) := by decide +kernel
theorem dX12_count_314 : decode cX12_count 314 = .ok (.iload_n 1, 1) := by decide +kernel
theorem dX12_count_315 : decode cX12_count 315 = .ok (.bipush 20, 2) := by decide +kernel
theorem dX12_count_317 : decode cX12_count 317 = .ok (.isub, 1) := by decide +kernel
theorem dX12_count_318 : decode cX12_count 318 = .ok (.iaload, 1) := by decide +kernel
theorem dX12_count_319 : decode cX12_count 319 = .ok (.ireturn, 1) := by decide +kernel
set_option maxHeartbeats 2000000 in
theorem c12_count {G : Gl} {l : Launch}  {M : Mem} {c : Int → Int} {w : Int} {b : Int → Int} (hG : GR M) (hK : RW M 0 c) (hS : SP c) (hb : RK (c 122) (fun w => c (10 + w)) b) : Ct G LY 82 l 9 m12_count [vR 57, vI w] M (RP (fun v M' => Fr [58, 63, 64, 65, 66, 67, 68, 69, 70, 71, 72, 77, 78, 79, 80] [(57, 4), (57, 22), (57, 23), (57, 30), (57, 47), (57, 48), (57, 49), (57, 52), (57, 53), (57, 54)] M M' ∧ TRo M M' ∧ M' 57 4 = (if 0 ≤ w ∧ w ≤ 27 then (0 : Int) else 1) ∧ ((if 0 ≤ w ∧ w ≤ 27 then (0 : Int) else 1) = 0 → (w = 0 → v = c 121) ∧ (w = 1 → v = c 122) ∧ (w = 2 → v = c 118) ∧ (w = 3 → v = heldAll c) ∧ (w = 4 → v = c 119) ∧ (w = 5 → v = bP (planI (insOf c))) ∧ (w = 6 → v = SPC (insOf c)) ∧ (w = 7 → v = itc (planI (insOf c)) (sm (c 121).toNat (fun x => sm (c 122).toNat (fun w => plT (insOf c) (6 * x + w)))) (-1)) ∧ (w = 8 → v = itc (planI (insOf c)) (chgs (plT (insOf c)) c) (-1)) ∧ (w = 9 → v = lackI (insOf c) (worst (insOf c))) ∧ (w = 10 → v = worst (insOf c)) ∧ (w = 11 → v = bits (c 122).toNat (fun w => spr c w < ss (fun x => offr c x w) (worst (insOf c)))) ∧ (w = 12 → LateV c v) ∧ (w = 13 → v = (ca (itwM c) (c 122) (c 121).toNat).1) ∧ (w = 14 → v = (ca (itwM c) (c 122) (c 121).toNat).2) ∧ (w = 15 → v = bits (c 122).toNat (fun k => allOf c k = 1)) ∧ (w = 16 → v = bits (c 122).toNat (fun k => allOf c k < c (16 + k))) ∧ (w = 17 → v = M 57 7) ∧ (w = 18 → v = M 57 9) ∧ (w = 19 → v = M 57 16) ∧ (w = 20 → v = M 61 0) ∧ (w = 21 → v = M 61 1) ∧ (w = 22 → v = M 61 2) ∧ (w = 23 → HelpM c 0 v) ∧ (w = 24 → HelpM c 1 v) ∧ (w = 25 → v = c 120) ∧ (w = 26 → v = stor c) ∧ (w = 27 → v = (ordF (insOf c) b ((5 : Int) ^ (c 121).toNat).toNat).2.1)))) := by
  refine R_start (by decide +kernel) (Nat.le_of_ble_eq_true rfl) (fun C hC hRm hlau => ?_)
  show RZ G LY C (Zn G LY 82 C (RP (fun v M' => Fr [58, 63, 64, 65, 66, 67, 68, 69, 70, 71, 72, 77, 78, 79, 80] [(57, 4), (57, 22), (57, 23), (57, 30), (57, 47), (57, 48), (57, 49), (57, 52), (57, 53), (57, 54)] M M' ∧ TRo M M' ∧ M' 57 4 = (if 0 ≤ w ∧ w ≤ 27 then (0 : Int) else 1) ∧ ((if 0 ≤ w ∧ w ≤ 27 then (0 : Int) else 1) = 0 → (w = 0 → v = c 121) ∧ (w = 1 → v = c 122) ∧ (w = 2 → v = c 118) ∧ (w = 3 → v = heldAll c) ∧ (w = 4 → v = c 119) ∧ (w = 5 → v = bP (planI (insOf c))) ∧ (w = 6 → v = SPC (insOf c)) ∧ (w = 7 → v = itc (planI (insOf c)) (sm (c 121).toNat (fun x => sm (c 122).toNat (fun w => plT (insOf c) (6 * x + w)))) (-1)) ∧ (w = 8 → v = itc (planI (insOf c)) (chgs (plT (insOf c)) c) (-1)) ∧ (w = 9 → v = lackI (insOf c) (worst (insOf c))) ∧ (w = 10 → v = worst (insOf c)) ∧ (w = 11 → v = bits (c 122).toNat (fun w => spr c w < ss (fun x => offr c x w) (worst (insOf c)))) ∧ (w = 12 → LateV c v) ∧ (w = 13 → v = (ca (itwM c) (c 122) (c 121).toNat).1) ∧ (w = 14 → v = (ca (itwM c) (c 122) (c 121).toNat).2) ∧ (w = 15 → v = bits (c 122).toNat (fun k => allOf c k = 1)) ∧ (w = 16 → v = bits (c 122).toNat (fun k => allOf c k < c (16 + k))) ∧ (w = 17 → v = M 57 7) ∧ (w = 18 → v = M 57 9) ∧ (w = 19 → v = M 57 16) ∧ (w = 20 → v = M 61 0) ∧ (w = 21 → v = M 61 1) ∧ (w = 22 → v = M 61 2) ∧ (w = 23 → HelpM c 0 v) ∧ (w = 24 → HelpM c 1 v) ∧ (w = 25 → v = c 120) ∧ (w = 26 → v = stor c) ∧ (w = 27 → v = (ordF (insOf c) b ((5 : Int) ^ (c 121).toNat).toNat).2.1))))) 0 0 82 0 [some (vR 57), some (vI w)] [] M
  have hM := hS.m
  have hI := hM.I
  have hL := hM.1.1
  have hW := hM.1.2
  refine R_aload_0 hC dX12_count_0 ?_
  refine R_iconst hC dX12_count_1 ⟨by decide, by decide⟩ ?_
  refine R_putI hC dX12_count_2 fl_12_84 (by decide) rfl (by decide) (by decide) (fi := 4) rfl ?_
  refine R_aload_0 hC dX12_count_5 ?_
  refine R_iload_1 hC dX12_count_6 ?_
  refine R_iconst hC dX12_count_7 ⟨by decide, by decide⟩ ?_
  refine R_bipush hC dX12_count_8 (by decide +kernel) ⟨by decide, by decide⟩ ?_
  refine R_callSq (as := [vI _, vI _, vI _]) hC dX12_count_10 mo_12_within ml_12_235 (c12_within  ) rfl rfl hRm (by decide) (by decide) (Nat.le_of_ble_eq_true rfl) ?_
  refine R_iconst hC dX12_count_13 ⟨by decide, by decide⟩ ?_
  have hFz : Fr [58, 63, 64, 65, 66, 67, 68, 69, 70, 71, 72, 77, 78, 79, 80] [(57, 4), (57, 22), (57, 23), (57, 30), (57, 47), (57, 48), (57, 49), (57, 52), (57, 53), (57, 54)] M (uM M 57 4 0) := Fr.uB Fr.rf (by decide)
  have hTz : TRo M (uM M 57 4 0) := TRo.rf.h (by decide)
  refine R_callVp (as := [vI _, vI _]) hC dX12_count_14 mo_12_right ml_12_269 (by decide) rfl rfl (c12_right  ) rfl rfl hRm (by decide) (by decide) (Nat.le_of_ble_eq_true rfl) (fun v3 Mc1 hq2 => ?_)
  have hFa : Fr [58, 63, 64, 65, 66, 67, 68, 69, 70, 71, 72, 77, 78, 79, 80] [(57, 4), (57, 22), (57, 23), (57, 30), (57, 47), (57, 48), (57, 49), (57, 52), (57, 53), (57, 54)] M Mc1 := Fr.tt hFz (hq2.1.mo (by simp) (by simp))
  have hTa : TRo M Mc1 := TRo.tr hTz (TRo.of hq2.1 (by decide) (by decide))
  have h4a := rt_d hq2.2.1 uM_same
  have hva := hq2.2.2
  refine R_if_ne hC dX12_count_17 (tgt := 22) (by decide) (fun hb17 => ?_) (fun hb17 => ?_)
  · skip
    have hok := rt_y h4a hva hb17
    have h4q := h4a.trans (if_pos hok)
    refine R_iload_1 hC dX12_count_22 ?_
    by_cases hsw : w < 0 ∨ 27 < w
    · skip
      refine R_tableOut hC dX12_count_23 hsw (tgt := 310) (by decide) ?_
      refine R_aload_0 hC dX12_count_310 ?_
      have hG4 : GR Mc1 := (GR.fr (GR.uF hG (by decide +kernel) (by decide)) hq2.1 (by decide +kernel))
      refine R_getR hC dX12_count_311 fl_12_19 (by decide) rfl (by decide) (by decide) (fi := 3) rfl (r := 61) (gr_57_3 hG4) ?_
      refine R_iload_1 hC dX12_count_314 ?_
      refine R_bipush hC dX12_count_315 (by decide +kernel) ⟨by decide, by decide⟩ ?_
      refine R_isub hC dX12_count_317 ⟨by omega, by omega⟩ ?_
      refine R_iaload hC dX12_count_318 (by decide) rfl (by omega) (by omega) ?_
      exact R_ireturn hC dX12_count_319 rfl (ret_P ⟨hFa, hTa, by (rw [if_pos hok]; exact h4q), fun _ => by
          first | exact absurd hok (by omega) | refine ⟨?_, ?_, ?_, ?_, ?_, ?_, ?_, ?_, ?_, ?_, ?_, ?_, ?_, ?_, ?_, ?_, ?_, ?_, ?_, ?_, ?_, ?_, ?_, ?_, ?_, ?_, ?_, ?_⟩ <;> intro h <;> first | exact absurd h (by decide) | exact hFa 61 _ (by decide) (by simp)⟩)
    have hsw2 : w = 0 ∨ w = 1 ∨ w = 2 ∨ w = 3 ∨ w = 4 ∨ w = 5 ∨ w = 6 ∨ w = 7 ∨ w = 8 ∨ w = 9 ∨ w = 10 ∨ w = 11 ∨ w = 12 ∨ w = 13 ∨ w = 14 ∨ w = 15 ∨ w = 16 ∨ w = 17 ∨ w = 18 ∨ w = 19 ∨ w = 20 ∨ w = 21 ∨ w = 22 ∨ w = 23 ∨ w = 24 ∨ w = 25 ∨ w = 26 ∨ w = 27 := by omega
    rcases hsw2 with hsw2 | hsw2 | hsw2 | hsw2 | hsw2 | hsw2 | hsw2 | hsw2 | hsw2 | hsw2 | hsw2 | hsw2 | hsw2 | hsw2 | hsw2 | hsw2 | hsw2 | hsw2 | hsw2 | hsw2 | hsw2 | hsw2 | hsw2 | hsw2 | hsw2 | hsw2 | hsw2 | hsw2
    · skip
      subst hsw2
      refine R_tableIn hC dX12_count_23 (off := 125) (by omega) (by omega) rfl (tgt := 148) (by decide) ?_
      refine R_aload_0 hC dX12_count_148 ?_
      have hk5 : RW Mc1 0 c := (RW.fr (RW.uf hK (by decide)) hq2.1 (by decide +kernel))
      refine R_getIE hC dX12_count_149 fl_12_105 (by decide) rfl (by decide) (by decide) (fi := 5) rfl hk5.l ?_
      exact R_ireturn hC dX12_count_152 rfl (ret_P ⟨hFa, hTa, by (rw [if_pos hok]; exact h4q), fun _ => by
          refine ⟨?_, ?_, ?_, ?_, ?_, ?_, ?_, ?_, ?_, ?_, ?_, ?_, ?_, ?_, ?_, ?_, ?_, ?_, ?_, ?_, ?_, ?_, ?_, ?_, ?_, ?_, ?_, ?_⟩ <;> intro h <;> first | exact absurd h (by decide) | exact rfl⟩)
    · skip
      subst hsw2
      refine R_tableIn hC dX12_count_23 (off := 130) (by omega) (by omega) rfl (tgt := 153) (by decide) ?_
      refine R_aload_0 hC dX12_count_153 ?_
      have hk6 : RW Mc1 0 c := (RW.fr (RW.uf hK (by decide)) hq2.1 (by decide +kernel))
      refine R_getIE hC dX12_count_154 fl_12_102 (by decide) rfl (by decide) (by decide) (fi := 6) rfl hk6.w ?_
      exact R_ireturn hC dX12_count_157 rfl (ret_P ⟨hFa, hTa, by (rw [if_pos hok]; exact h4q), fun _ => by
          refine ⟨?_, ?_, ?_, ?_, ?_, ?_, ?_, ?_, ?_, ?_, ?_, ?_, ?_, ?_, ?_, ?_, ?_, ?_, ?_, ?_, ?_, ?_, ?_, ?_, ?_, ?_, ?_, ?_⟩ <;> intro h <;> first | exact absurd h (by decide) | exact rfl⟩)
    · skip
      subst hsw2
      refine R_tableIn hC dX12_count_23 (off := 135) (by omega) (by omega) rfl (tgt := 158) (by decide) ?_
      refine R_aload_0 hC dX12_count_158 ?_
      have hG7 : GR Mc1 := (GR.fr (GR.uF hG (by decide +kernel) (by decide)) hq2.1 (by decide +kernel))
      refine R_getR hC dX12_count_159 fl_12_9 (by decide) rfl (by decide) (by decide) (fi := 0) rfl (r := 58) (gr_57_0 hG7) ?_
      refine R_bipush hC dX12_count_162 (by decide +kernel) ⟨by decide, by decide⟩ ?_
      have hk8 : RW Mc1 0 c := (RW.fr (RW.uf hK (by decide)) hq2.1 (by decide +kernel))
      refine R_ialoadE hC dX12_count_164 (by decide) rfl (by omega) (by omega) (hk8.r5 (k := 118) (by omega) (by omega) (by omega)) ?_
      exact R_ireturn hC dX12_count_165 rfl (ret_P ⟨hFa, hTa, by (rw [if_pos hok]; exact h4q), fun _ => by
          refine ⟨?_, ?_, ?_, ?_, ?_, ?_, ?_, ?_, ?_, ?_, ?_, ?_, ?_, ?_, ?_, ?_, ?_, ?_, ?_, ?_, ?_, ?_, ?_, ?_, ?_, ?_, ?_, ?_⟩ <;> intro h <;> first | exact absurd h (by decide) | exact rfl⟩)
    · skip
      subst hsw2
      refine R_tableIn hC dX12_count_23 (off := 143) (by omega) (by omega) rfl (tgt := 166) (by decide) ?_
      refine R_aload_0 hC dX12_count_166 ?_
      refine R_iconst hC dX12_count_167 ⟨by decide, by decide⟩ ?_
      have hG9 : GR Mc1 := (GR.fr (GR.uF hG (by decide +kernel) (by decide)) hq2.1 (by decide +kernel))
      have hk10 : RW Mc1 0 c := (RW.fr (RW.uf hK (by decide)) hq2.1 (by decide +kernel))
      refine R_callVq (as := [vI _]) hC dX12_count_168 mo_12_everything ml_12_338 (by decide) rfl rfl (c12_everything  hG9 hk10 (by omega) (by omega) hM) rfl rfl hRm (by decide) (by decide) (Nat.le_of_ble_eq_true rfl) ?_
      exact R_ireturn hC dX12_count_171 rfl (ret_P ⟨hFa, hTa, by (rw [if_pos hok]; exact h4q), fun _ => by
          refine ⟨?_, ?_, ?_, ?_, ?_, ?_, ?_, ?_, ?_, ?_, ?_, ?_, ?_, ?_, ?_, ?_, ?_, ?_, ?_, ?_, ?_, ?_, ?_, ?_, ?_, ?_, ?_, ?_⟩ <;> intro h <;> first | exact absurd h (by decide) | exact rfl⟩)
    · skip
      subst hsw2
      refine R_tableIn hC dX12_count_23 (off := 149) (by omega) (by omega) rfl (tgt := 172) (by decide) ?_
      refine R_aload_0 hC dX12_count_172 ?_
      have hG11 : GR Mc1 := (GR.fr (GR.uF hG (by decide +kernel) (by decide)) hq2.1 (by decide +kernel))
      refine R_getR hC dX12_count_173 fl_12_9 (by decide) rfl (by decide) (by decide) (fi := 0) rfl (r := 58) (gr_57_0 hG11) ?_
      refine R_bipush hC dX12_count_176 (by decide +kernel) ⟨by decide, by decide⟩ ?_
      have hk12 : RW Mc1 0 c := (RW.fr (RW.uf hK (by decide)) hq2.1 (by decide +kernel))
      refine R_ialoadE hC dX12_count_178 (by decide) rfl (by omega) (by omega) (hk12.r5 (k := 119) (by omega) (by omega) (by omega)) ?_
      exact R_ireturn hC dX12_count_179 rfl (ret_P ⟨hFa, hTa, by (rw [if_pos hok]; exact h4q), fun _ => by
          refine ⟨?_, ?_, ?_, ?_, ?_, ?_, ?_, ?_, ?_, ?_, ?_, ?_, ?_, ?_, ?_, ?_, ?_, ?_, ?_, ?_, ?_, ?_, ?_, ?_, ?_, ?_, ?_, ?_⟩ <;> intro h <;> first | exact absurd h (by decide) | exact rfl⟩)
    · skip
      subst hsw2
      refine R_tableIn hC dX12_count_23 (off := 157) (by omega) (by omega) rfl (tgt := 180) (by decide) ?_
      refine R_aload_0 hC dX12_count_180 ?_
      refine R_iconst hC dX12_count_181 ⟨by decide, by decide⟩ ?_
      have hG13 : GR Mc1 := (GR.fr (GR.uF hG (by decide +kernel) (by decide)) hq2.1 (by decide +kernel))
      have hk14 : RW Mc1 0 c := (RW.fr (RW.uf hK (by decide)) hq2.1 (by decide +kernel))
      refine R_callVp (as := [vI _]) hC dX12_count_182 mo_12_isPlanOf ml_12_296 (by decide) rfl rfl (c12_isPlanOf  hG13 hk14 (by omega) (by omega) hM) rfl rfl hRm (by decide) (by decide) (Nat.le_of_ble_eq_true rfl) (fun v17 Mc15 hq16 => ?_)
      have hFp : Fr [58, 63, 64, 65, 66, 67, 68, 69, 70, 71, 72, 77, 78, 79, 80] [(57, 4), (57, 22), (57, 23), (57, 30), (57, 47), (57, 48), (57, 49), (57, 52), (57, 53), (57, 54)] M Mc15 := Fr.tt hFa (hq16.1.mo (by simp) (by simp))
      have hTp : TRo M Mc15 := TRo.tr hTa (TRo.of hq16.1 (by decide) (by decide))
      have h4p : Mc15 57 4 = 0 := (hq16.1 57 4 (by decide) (by simp)).trans h4q
      refine R_if_eq hC dX12_count_185 (tgt := 192) (by decide) (fun hb185 => ?_) (fun hb185 => ?_)
      · skip
        refine R_iconst hC dX12_count_192 ⟨by decide, by decide⟩ ?_
        exact R_ireturn hC dX12_count_193 rfl (ret_P ⟨hFp, hTp, by (rw [if_pos hok]; exact h4p), fun _ => by
            refine ⟨?_, ?_, ?_, ?_, ?_, ?_, ?_, ?_, ?_, ?_, ?_, ?_, ?_, ?_, ?_, ?_, ?_, ?_, ?_, ?_, ?_, ?_, ?_, ?_, ?_, ?_, ?_, ?_⟩ <;> intro h <;> first | exact absurd h (by decide) | exact (bP_pos (bP_nz (fun z => hb185 (hq16.2.2.trans z)))).symm | exact (bP_neg (bP_z (hq16.2.2.symm.trans hb185))).symm⟩)
      · skip
        refine R_iconst hC dX12_count_188 ⟨by decide, by decide⟩ ?_
        refine R_goto hC dX12_count_189 (tgt := 193) (by decide) ?_
        exact R_ireturn hC dX12_count_193 rfl (ret_P ⟨hFp, hTp, by (rw [if_pos hok]; exact h4p), fun _ => by
            refine ⟨?_, ?_, ?_, ?_, ?_, ?_, ?_, ?_, ?_, ?_, ?_, ?_, ?_, ?_, ?_, ?_, ?_, ?_, ?_, ?_, ?_, ?_, ?_, ?_, ?_, ?_, ?_, ?_⟩ <;> intro h <;> first | exact absurd h (by decide) | exact (bP_pos (bP_nz (fun z => hb185 (hq16.2.2.trans z)))).symm | exact (bP_neg (bP_z (hq16.2.2.symm.trans hb185))).symm⟩)
    · skip
      subst hsw2
      refine R_tableIn hC dX12_count_23 (off := 171) (by omega) (by omega) rfl (tgt := 194) (by decide) ?_
      refine R_aload_0 hC dX12_count_194 ?_
      refine R_iconst hC dX12_count_195 ⟨by decide, by decide⟩ ?_
      have hG18 : GR Mc1 := (GR.fr (GR.uF hG (by decide +kernel) (by decide)) hq2.1 (by decide +kernel))
      have hk19 : RW Mc1 0 c := (RW.fr (RW.uf hK (by decide)) hq2.1 (by decide +kernel))
      refine R_callVp (as := [vI _]) hC dX12_count_196 mo_12_spaceOf ml_12_172 (by decide) rfl rfl (c12_spaceOf  hG18 hk19 (by omega) (by omega) hM) rfl rfl hRm (by decide) (by decide) (Nat.le_of_ble_eq_true rfl) (fun v22 Mc20 hq21 => ?_)
      have hFs : Fr [58, 63, 64, 65, 66, 67, 68, 69, 70, 71, 72, 77, 78, 79, 80] [(57, 4), (57, 22), (57, 23), (57, 30), (57, 47), (57, 48), (57, 49), (57, 52), (57, 53), (57, 54)] M Mc20 := Fr.tt hFa (hq21.1.mo (by simp) (by simp))
      have hTs : TRo M Mc20 := TRo.tr hTa (TRo.of hq21.1 (by decide) (by decide))
      have h4s : Mc20 57 4 = 0 := (hq21.1 57 4 (by decide) (by simp)).trans h4q
      exact R_ireturn hC dX12_count_199 rfl (ret_P ⟨hFs, hTs, by (rw [if_pos hok]; exact h4s), fun _ => by
          refine ⟨?_, ?_, ?_, ?_, ?_, ?_, ?_, ?_, ?_, ?_, ?_, ?_, ?_, ?_, ?_, ?_, ?_, ?_, ?_, ?_, ?_, ?_, ?_, ?_, ?_, ?_, ?_, ?_⟩ <;> intro h <;> first | exact absurd h (by decide) | exact hq21.2⟩)
    · skip
      subst hsw2
      refine R_tableIn hC dX12_count_23 (off := 177) (by omega) (by omega) rfl (tgt := 200) (by decide) ?_
      refine R_aload_0 hC dX12_count_200 ?_
      refine R_iconst hC dX12_count_201 ⟨by decide, by decide⟩ ?_
      have hG23 : GR Mc1 := (GR.fr (GR.uF hG (by decide +kernel) (by decide)) hq2.1 (by decide +kernel))
      have hk24 : RW Mc1 0 c := (RW.fr (RW.uf hK (by decide)) hq2.1 (by decide +kernel))
      refine R_callVp (as := [vI _]) hC dX12_count_202 mo_12_plans ml_12_190 (by decide) rfl rfl (c12_plans  hG23 hk24 (by omega) (by omega) hM) rfl rfl hRm (by decide) (by decide) (Nat.le_of_ble_eq_true rfl) (fun v27 Mc25 hq26 => ?_)
      have hFl : Fr [58, 63, 64, 65, 66, 67, 68, 69, 70, 71, 72, 77, 78, 79, 80] [(57, 4), (57, 22), (57, 23), (57, 30), (57, 47), (57, 48), (57, 49), (57, 52), (57, 53), (57, 54)] M Mc25 := Fr.tt hFa (hq26.1.mo (by simp) (by simp))
      have hTl : TRo M Mc25 := TRo.tr hTa (TRo.of hq26.1 (by decide) (by decide))
      have h4l : Mc25 57 4 = 0 := (hq26.1 57 4 (by decide) (by simp)).trans h4q
      refine R_if_eq hC dX12_count_205 (tgt := 215) (by decide) (fun hb205 => ?_) (fun hb205 => ?_)
      · skip
        refine R_iconst hC dX12_count_215 ⟨by decide, by decide⟩ ?_
        exact R_ireturn hC dX12_count_216 rfl (ret_P ⟨hFl, hTl, by (rw [if_pos hok]; exact h4l), fun _ => by
            refine ⟨?_, ?_, ?_, ?_, ?_, ?_, ?_, ?_, ?_, ?_, ?_, ?_, ?_, ?_, ?_, ?_, ?_, ?_, ?_, ?_, ?_, ?_, ?_, ?_, ?_, ?_, ?_, ?_⟩ <;> intro h <;> first | exact absurd h (by decide) | exact (itc_t (bP_nz (fun z => hb205 (hq26.2.1.trans z)))).symm | exact (itc_f (bP_z (hq26.2.1.symm.trans hb205))).symm⟩)
      · skip
        refine R_aload_0 hC dX12_count_208 ?_
        have hG28 : GR Mc25 := (GR.fr hG23 hq26.1 (by decide +kernel))
        have hk29 : RW Mc25 0 c := (RW.fr hk24 hq26.1 (by decide +kernel))
        refine R_callVq (as := []) hC dX12_count_209 mo_12_planned ml_12_341 (by decide) rfl rfl (c12_planned (P := (plT (insOf c))) hG28 hk29 hM hq26.2.2 (fun q q0 => plT_3 hI q0)) rfl rfl hRm (by decide) (by decide) (Nat.le_of_ble_eq_true rfl) ?_
        refine R_goto hC dX12_count_212 (tgt := 216) (by decide) ?_
        exact R_ireturn hC dX12_count_216 rfl (ret_P ⟨hFl, hTl, by (rw [if_pos hok]; exact h4l), fun _ => by
            refine ⟨?_, ?_, ?_, ?_, ?_, ?_, ?_, ?_, ?_, ?_, ?_, ?_, ?_, ?_, ?_, ?_, ?_, ?_, ?_, ?_, ?_, ?_, ?_, ?_, ?_, ?_, ?_, ?_⟩ <;> intro h <;> first | exact absurd h (by decide) | exact (itc_t (bP_nz (fun z => hb205 (hq26.2.1.trans z)))).symm | exact (itc_f (bP_z (hq26.2.1.symm.trans hb205))).symm⟩)
    · skip
      subst hsw2
      refine R_tableIn hC dX12_count_23 (off := 194) (by omega) (by omega) rfl (tgt := 217) (by decide) ?_
      refine R_aload_0 hC dX12_count_217 ?_
      have hG30 : GR Mc1 := (GR.fr (GR.uF hG (by decide +kernel) (by decide)) hq2.1 (by decide +kernel))
      have hk31 : RW Mc1 0 c := (RW.fr (RW.uf hK (by decide)) hq2.1 (by decide +kernel))
      refine R_callVp (as := []) hC dX12_count_218 mo_12_changes ml_12_344 (by decide) rfl rfl (c12_changes  hG30 hk31 hM) rfl rfl hRm (by decide) (by decide) (Nat.le_of_ble_eq_true rfl) (fun v34 Mc32 hq33 => ?_)
      have hFg : Fr [58, 63, 64, 65, 66, 67, 68, 69, 70, 71, 72, 77, 78, 79, 80] [(57, 4), (57, 22), (57, 23), (57, 30), (57, 47), (57, 48), (57, 49), (57, 52), (57, 53), (57, 54)] M Mc32 := Fr.tt hFa (hq33.1.mo (by simp) (by simp))
      have hTg : TRo M Mc32 := TRo.tr hTa (TRo.of hq33.1 (by decide) (by decide))
      have h4g : Mc32 57 4 = 0 := (hq33.1 57 4 (by decide) (by simp)).trans h4q
      exact R_ireturn hC dX12_count_221 rfl (ret_P ⟨hFg, hTg, by (rw [if_pos hok]; exact h4g), fun _ => by
          refine ⟨?_, ?_, ?_, ?_, ?_, ?_, ?_, ?_, ?_, ?_, ?_, ?_, ?_, ?_, ?_, ?_, ?_, ?_, ?_, ?_, ?_, ?_, ?_, ?_, ?_, ?_, ?_, ?_⟩ <;> intro h <;> first | exact absurd h (by decide) | exact hq33.2⟩)
    · skip
      subst hsw2
      refine R_tableIn hC dX12_count_23 (off := 199) (by omega) (by omega) rfl (tgt := 222) (by decide) ?_
      refine R_aload_0 hC dX12_count_222 ?_
      refine R_iload_1 hC dX12_count_223 ?_
      have hG35 : GR Mc1 := (GR.fr (GR.uF hG (by decide +kernel) (by decide)) hq2.1 (by decide +kernel))
      have hk36 : RW Mc1 0 c := (RW.fr (RW.uf hK (by decide)) hq2.1 (by decide +kernel))
      refine R_callVp (as := [vI _]) hC dX12_count_224 mo_12_shortageTold ml_12_347 (by decide) rfl rfl (c12_shortageTold  hG35 hk36 hS) rfl rfl hRm (by decide) (by decide) (Nat.le_of_ble_eq_true rfl) (fun v39 Mc37 hq38 => ?_)
      have hFh : Fr [58, 63, 64, 65, 66, 67, 68, 69, 70, 71, 72, 77, 78, 79, 80] [(57, 4), (57, 22), (57, 23), (57, 30), (57, 47), (57, 48), (57, 49), (57, 52), (57, 53), (57, 54)] M Mc37 := Fr.tt hFa (hq38.1.mo (by simp) (by simp))
      have hTh : TRo M Mc37 := TRo.tr hTa (TRo.of hq38.1 (by decide) (by decide))
      have h4h : Mc37 57 4 = 0 := (hq38.1 57 4 (by decide) (by simp)).trans h4q
      exact R_ireturn hC dX12_count_227 rfl (ret_P ⟨hFh, hTh, by (rw [if_pos hok]; exact h4h), fun _ => by
          refine ⟨?_, ?_, ?_, ?_, ?_, ?_, ?_, ?_, ?_, ?_, ?_, ?_, ?_, ?_, ?_, ?_, ?_, ?_, ?_, ?_, ?_, ?_, ?_, ?_, ?_, ?_, ?_, ?_⟩ <;> intro h <;> first | exact absurd h (by decide) | exact hq38.2.trans (if_pos rfl) | exact hq38.2.trans ((if_neg (by decide)).trans (if_pos rfl)) | exact hq38.2.trans ((if_neg (by decide)).trans (if_neg (by decide)))⟩)
    · skip
      subst hsw2
      refine R_tableIn hC dX12_count_23 (off := 199) (by omega) (by omega) rfl (tgt := 222) (by decide) ?_
      refine R_aload_0 hC dX12_count_222 ?_
      refine R_iload_1 hC dX12_count_223 ?_
      have hG40 : GR Mc1 := (GR.fr (GR.uF hG (by decide +kernel) (by decide)) hq2.1 (by decide +kernel))
      have hk41 : RW Mc1 0 c := (RW.fr (RW.uf hK (by decide)) hq2.1 (by decide +kernel))
      refine R_callVp (as := [vI _]) hC dX12_count_224 mo_12_shortageTold ml_12_347 (by decide) rfl rfl (c12_shortageTold  hG40 hk41 hS) rfl rfl hRm (by decide) (by decide) (Nat.le_of_ble_eq_true rfl) (fun v44 Mc42 hq43 => ?_)
      have hFh : Fr [58, 63, 64, 65, 66, 67, 68, 69, 70, 71, 72, 77, 78, 79, 80] [(57, 4), (57, 22), (57, 23), (57, 30), (57, 47), (57, 48), (57, 49), (57, 52), (57, 53), (57, 54)] M Mc42 := Fr.tt hFa (hq43.1.mo (by simp) (by simp))
      have hTh : TRo M Mc42 := TRo.tr hTa (TRo.of hq43.1 (by decide) (by decide))
      have h4h : Mc42 57 4 = 0 := (hq43.1 57 4 (by decide) (by simp)).trans h4q
      exact R_ireturn hC dX12_count_227 rfl (ret_P ⟨hFh, hTh, by (rw [if_pos hok]; exact h4h), fun _ => by
          refine ⟨?_, ?_, ?_, ?_, ?_, ?_, ?_, ?_, ?_, ?_, ?_, ?_, ?_, ?_, ?_, ?_, ?_, ?_, ?_, ?_, ?_, ?_, ?_, ?_, ?_, ?_, ?_, ?_⟩ <;> intro h <;> first | exact absurd h (by decide) | exact hq43.2.trans (if_pos rfl) | exact hq43.2.trans ((if_neg (by decide)).trans (if_pos rfl)) | exact hq43.2.trans ((if_neg (by decide)).trans (if_neg (by decide)))⟩)
    · skip
      subst hsw2
      refine R_tableIn hC dX12_count_23 (off := 199) (by omega) (by omega) rfl (tgt := 222) (by decide) ?_
      refine R_aload_0 hC dX12_count_222 ?_
      refine R_iload_1 hC dX12_count_223 ?_
      have hG45 : GR Mc1 := (GR.fr (GR.uF hG (by decide +kernel) (by decide)) hq2.1 (by decide +kernel))
      have hk46 : RW Mc1 0 c := (RW.fr (RW.uf hK (by decide)) hq2.1 (by decide +kernel))
      refine R_callVp (as := [vI _]) hC dX12_count_224 mo_12_shortageTold ml_12_347 (by decide) rfl rfl (c12_shortageTold  hG45 hk46 hS) rfl rfl hRm (by decide) (by decide) (Nat.le_of_ble_eq_true rfl) (fun v49 Mc47 hq48 => ?_)
      have hFh : Fr [58, 63, 64, 65, 66, 67, 68, 69, 70, 71, 72, 77, 78, 79, 80] [(57, 4), (57, 22), (57, 23), (57, 30), (57, 47), (57, 48), (57, 49), (57, 52), (57, 53), (57, 54)] M Mc47 := Fr.tt hFa (hq48.1.mo (by simp) (by simp))
      have hTh : TRo M Mc47 := TRo.tr hTa (TRo.of hq48.1 (by decide) (by decide))
      have h4h : Mc47 57 4 = 0 := (hq48.1 57 4 (by decide) (by simp)).trans h4q
      exact R_ireturn hC dX12_count_227 rfl (ret_P ⟨hFh, hTh, by (rw [if_pos hok]; exact h4h), fun _ => by
          refine ⟨?_, ?_, ?_, ?_, ?_, ?_, ?_, ?_, ?_, ?_, ?_, ?_, ?_, ?_, ?_, ?_, ?_, ?_, ?_, ?_, ?_, ?_, ?_, ?_, ?_, ?_, ?_, ?_⟩ <;> intro h <;> first | exact absurd h (by decide) | exact hq48.2.trans (if_pos rfl) | exact hq48.2.trans ((if_neg (by decide)).trans (if_pos rfl)) | exact hq48.2.trans ((if_neg (by decide)).trans (if_neg (by decide)))⟩)
    · skip
      subst hsw2
      refine R_tableIn hC dX12_count_23 (off := 205) (by omega) (by omega) rfl (tgt := 228) (by decide) ?_
      refine R_aload_0 hC dX12_count_228 ?_
      have hG50 : GR Mc1 := (GR.fr (GR.uF hG (by decide +kernel) (by decide)) hq2.1 (by decide +kernel))
      have hk51 : RW Mc1 0 c := (RW.fr (RW.uf hK (by decide)) hq2.1 (by decide +kernel))
      refine R_callVp (as := []) hC dX12_count_229 mo_12_late ml_12_350 (by decide) rfl rfl (c12_late  hG50 hk51 hS) rfl rfl hRm (by decide) (by decide) (Nat.le_of_ble_eq_true rfl) (fun v54 Mc52 hq53 => ?_)
      have hFj : Fr [58, 63, 64, 65, 66, 67, 68, 69, 70, 71, 72, 77, 78, 79, 80] [(57, 4), (57, 22), (57, 23), (57, 30), (57, 47), (57, 48), (57, 49), (57, 52), (57, 53), (57, 54)] M Mc52 := Fr.tt hFa (hq53.1.mo (by simp) (by simp))
      have hTj : TRo M Mc52 := TRo.tr hTa (hq53.2.1)
      have h4j : Mc52 57 4 = 0 := (hq53.1 57 4 (by decide) (by simp)).trans h4q
      exact R_ireturn hC dX12_count_232 rfl (ret_P ⟨hFj, hTj, by (rw [if_pos hok]; exact h4j), fun _ => by
          refine ⟨?_, ?_, ?_, ?_, ?_, ?_, ?_, ?_, ?_, ?_, ?_, ?_, ?_, ?_, ?_, ?_, ?_, ?_, ?_, ?_, ?_, ?_, ?_, ?_, ?_, ?_, ?_, ?_⟩ <;> intro h <;> first | exact absurd h (by decide) | exact hq53.2.2⟩)
    · skip
      subst hsw2
      refine R_tableIn hC dX12_count_23 (off := 210) (by omega) (by omega) rfl (tgt := 233) (by decide) ?_
      refine R_aload_0 hC dX12_count_233 ?_
      refine R_iload_1 hC dX12_count_234 ?_
      refine R_bipush hC dX12_count_235 (by decide +kernel) ⟨by decide, by decide⟩ ?_
      refine R_icmp_ne hC dX12_count_237 (tgt := 244) (by decide) (fun hb237 => ?_) (fun hb237 => ?_)
      · skip
        refine R_iconst hC dX12_count_244 ⟨by decide, by decide⟩ ?_
        have hG55 : GR Mc1 := (GR.fr (GR.uF hG (by decide +kernel) (by decide)) hq2.1 (by decide +kernel))
        have hk56 : RW Mc1 0 c := (RW.fr (RW.uf hK (by decide)) hq2.1 (by decide +kernel))
        refine R_callVp (as := [vI _]) hC dX12_count_245 mo_12_inTheWay ml_12_353 (by decide) rfl rfl (c12_inTheWay  hG55 hk56 hS) rfl rfl hRm (by decide) (by decide) (Nat.le_of_ble_eq_true rfl) (fun v59 Mc57 hq58 => ?_)
        have hFi : Fr [58, 63, 64, 65, 66, 67, 68, 69, 70, 71, 72, 77, 78, 79, 80] [(57, 4), (57, 22), (57, 23), (57, 30), (57, 47), (57, 48), (57, 49), (57, 52), (57, 53), (57, 54)] M Mc57 := Fr.tt hFa (hq58.1.mo (by simp) (by simp))
        have hTi : TRo M Mc57 := TRo.tr hTa (hq58.2.1)
        have h4i : Mc57 57 4 = 0 := (hq58.1 57 4 (by decide) (by simp)).trans h4q
        exact R_ireturn hC dX12_count_248 rfl (ret_P ⟨hFi, hTi, by (rw [if_pos hok]; exact h4i), fun _ => by
            refine ⟨?_, ?_, ?_, ?_, ?_, ?_, ?_, ?_, ?_, ?_, ?_, ?_, ?_, ?_, ?_, ?_, ?_, ?_, ?_, ?_, ?_, ?_, ?_, ?_, ?_, ?_, ?_, ?_⟩ <;> intro h <;> first | exact absurd h (by decide) | exact absurd hb237 (by decide) | exact hq58.2.2⟩)
      · skip
        refine R_iconst hC dX12_count_240 ⟨by decide, by decide⟩ ?_
        refine R_goto hC dX12_count_241 (tgt := 245) (by decide) ?_
        have hG60 : GR Mc1 := (GR.fr (GR.uF hG (by decide +kernel) (by decide)) hq2.1 (by decide +kernel))
        have hk61 : RW Mc1 0 c := (RW.fr (RW.uf hK (by decide)) hq2.1 (by decide +kernel))
        refine R_callVp (as := [vI _]) hC dX12_count_245 mo_12_inTheWay ml_12_353 (by decide) rfl rfl (c12_inTheWay  hG60 hk61 hS) rfl rfl hRm (by decide) (by decide) (Nat.le_of_ble_eq_true rfl) (fun v64 Mc62 hq63 => ?_)
        have hFi : Fr [58, 63, 64, 65, 66, 67, 68, 69, 70, 71, 72, 77, 78, 79, 80] [(57, 4), (57, 22), (57, 23), (57, 30), (57, 47), (57, 48), (57, 49), (57, 52), (57, 53), (57, 54)] M Mc62 := Fr.tt hFa (hq63.1.mo (by simp) (by simp))
        have hTi : TRo M Mc62 := TRo.tr hTa (hq63.2.1)
        have h4i : Mc62 57 4 = 0 := (hq63.1 57 4 (by decide) (by simp)).trans h4q
        exact R_ireturn hC dX12_count_248 rfl (ret_P ⟨hFi, hTi, by (rw [if_pos hok]; exact h4i), fun _ => by
            refine ⟨?_, ?_, ?_, ?_, ?_, ?_, ?_, ?_, ?_, ?_, ?_, ?_, ?_, ?_, ?_, ?_, ?_, ?_, ?_, ?_, ?_, ?_, ?_, ?_, ?_, ?_, ?_, ?_⟩ <;> intro h <;> first | exact absurd h (by decide) | exact absurd hb237 (by decide) | exact hq63.2.2⟩)
    · skip
      subst hsw2
      refine R_tableIn hC dX12_count_23 (off := 210) (by omega) (by omega) rfl (tgt := 233) (by decide) ?_
      refine R_aload_0 hC dX12_count_233 ?_
      refine R_iload_1 hC dX12_count_234 ?_
      refine R_bipush hC dX12_count_235 (by decide +kernel) ⟨by decide, by decide⟩ ?_
      refine R_icmp_ne hC dX12_count_237 (tgt := 244) (by decide) (fun hb237 => ?_) (fun hb237 => ?_)
      · skip
        refine R_iconst hC dX12_count_244 ⟨by decide, by decide⟩ ?_
        have hG65 : GR Mc1 := (GR.fr (GR.uF hG (by decide +kernel) (by decide)) hq2.1 (by decide +kernel))
        have hk66 : RW Mc1 0 c := (RW.fr (RW.uf hK (by decide)) hq2.1 (by decide +kernel))
        refine R_callVp (as := [vI _]) hC dX12_count_245 mo_12_inTheWay ml_12_353 (by decide) rfl rfl (c12_inTheWay  hG65 hk66 hS) rfl rfl hRm (by decide) (by decide) (Nat.le_of_ble_eq_true rfl) (fun v69 Mc67 hq68 => ?_)
        have hFi : Fr [58, 63, 64, 65, 66, 67, 68, 69, 70, 71, 72, 77, 78, 79, 80] [(57, 4), (57, 22), (57, 23), (57, 30), (57, 47), (57, 48), (57, 49), (57, 52), (57, 53), (57, 54)] M Mc67 := Fr.tt hFa (hq68.1.mo (by simp) (by simp))
        have hTi : TRo M Mc67 := TRo.tr hTa (hq68.2.1)
        have h4i : Mc67 57 4 = 0 := (hq68.1 57 4 (by decide) (by simp)).trans h4q
        exact R_ireturn hC dX12_count_248 rfl (ret_P ⟨hFi, hTi, by (rw [if_pos hok]; exact h4i), fun _ => by
            refine ⟨?_, ?_, ?_, ?_, ?_, ?_, ?_, ?_, ?_, ?_, ?_, ?_, ?_, ?_, ?_, ?_, ?_, ?_, ?_, ?_, ?_, ?_, ?_, ?_, ?_, ?_, ?_, ?_⟩ <;> intro h <;> first | exact absurd h (by decide) | exact absurd hb237 (by decide) | exact hq68.2.2⟩)
      · skip
        refine R_iconst hC dX12_count_240 ⟨by decide, by decide⟩ ?_
        refine R_goto hC dX12_count_241 (tgt := 245) (by decide) ?_
        have hG70 : GR Mc1 := (GR.fr (GR.uF hG (by decide +kernel) (by decide)) hq2.1 (by decide +kernel))
        have hk71 : RW Mc1 0 c := (RW.fr (RW.uf hK (by decide)) hq2.1 (by decide +kernel))
        refine R_callVp (as := [vI _]) hC dX12_count_245 mo_12_inTheWay ml_12_353 (by decide) rfl rfl (c12_inTheWay  hG70 hk71 hS) rfl rfl hRm (by decide) (by decide) (Nat.le_of_ble_eq_true rfl) (fun v74 Mc72 hq73 => ?_)
        have hFi : Fr [58, 63, 64, 65, 66, 67, 68, 69, 70, 71, 72, 77, 78, 79, 80] [(57, 4), (57, 22), (57, 23), (57, 30), (57, 47), (57, 48), (57, 49), (57, 52), (57, 53), (57, 54)] M Mc72 := Fr.tt hFa (hq73.1.mo (by simp) (by simp))
        have hTi : TRo M Mc72 := TRo.tr hTa (hq73.2.1)
        have h4i : Mc72 57 4 = 0 := (hq73.1 57 4 (by decide) (by simp)).trans h4q
        exact R_ireturn hC dX12_count_248 rfl (ret_P ⟨hFi, hTi, by (rw [if_pos hok]; exact h4i), fun _ => by
            refine ⟨?_, ?_, ?_, ?_, ?_, ?_, ?_, ?_, ?_, ?_, ?_, ?_, ?_, ?_, ?_, ?_, ?_, ?_, ?_, ?_, ?_, ?_, ?_, ?_, ?_, ?_, ?_, ?_⟩ <;> intro h <;> first | exact absurd h (by decide) | exact absurd hb237 (by decide) | exact hq73.2.2⟩)
    · skip
      subst hsw2
      refine R_tableIn hC dX12_count_23 (off := 226) (by omega) (by omega) rfl (tgt := 249) (by decide) ?_
      refine R_aload_0 hC dX12_count_249 ?_
      have hG75 : GR Mc1 := (GR.fr (GR.uF hG (by decide +kernel) (by decide)) hq2.1 (by decide +kernel))
      have hk76 : RW Mc1 0 c := (RW.fr (RW.uf hK (by decide)) hq2.1 (by decide +kernel))
      refine R_callVq (as := []) hC dX12_count_250 mo_12_lastOnes ml_12_357 (by decide) rfl rfl (c12_lastOnes  hG75 hk76 hS) rfl rfl hRm (by decide) (by decide) (Nat.le_of_ble_eq_true rfl) ?_
      exact R_ireturn hC dX12_count_253 rfl (ret_P ⟨hFa, hTa, by (rw [if_pos hok]; exact h4q), fun _ => by
          refine ⟨?_, ?_, ?_, ?_, ?_, ?_, ?_, ?_, ?_, ?_, ?_, ?_, ?_, ?_, ?_, ?_, ?_, ?_, ?_, ?_, ?_, ?_, ?_, ?_, ?_, ?_, ?_, ?_⟩ <;> intro h <;> first | exact absurd h (by decide) | exact rfl⟩)
    · skip
      subst hsw2
      refine R_tableIn hC dX12_count_23 (off := 231) (by omega) (by omega) rfl (tgt := 254) (by decide) ?_
      refine R_aload_0 hC dX12_count_254 ?_
      have hG77 : GR Mc1 := (GR.fr (GR.uF hG (by decide +kernel) (by decide)) hq2.1 (by decide +kernel))
      have hk78 : RW Mc1 0 c := (RW.fr (RW.uf hK (by decide)) hq2.1 (by decide +kernel))
      refine R_callVq (as := []) hC dX12_count_255 mo_12_shortOnes ml_12_360 (by decide) rfl rfl (c12_shortOnes  hG77 hk78 hS) rfl rfl hRm (by decide) (by decide) (Nat.le_of_ble_eq_true rfl) ?_
      exact R_ireturn hC dX12_count_258 rfl (ret_P ⟨hFa, hTa, by (rw [if_pos hok]; exact h4q), fun _ => by
          refine ⟨?_, ?_, ?_, ?_, ?_, ?_, ?_, ?_, ?_, ?_, ?_, ?_, ?_, ?_, ?_, ?_, ?_, ?_, ?_, ?_, ?_, ?_, ?_, ?_, ?_, ?_, ?_, ?_⟩ <;> intro h <;> first | exact absurd h (by decide) | exact rfl⟩)
    · skip
      subst hsw2
      refine R_tableIn hC dX12_count_23 (off := 236) (by omega) (by omega) rfl (tgt := 259) (by decide) ?_
      refine R_aload_0 hC dX12_count_259 ?_
      refine R_getI hC dX12_count_260 fl_12_287 (by decide) rfl (by decide) (by decide) (fi := 7) rfl ?_
      exact R_ireturn hC dX12_count_263 rfl (ret_P ⟨hFa, hTa, by (rw [if_pos hok]; exact h4q), fun _ => by
          refine ⟨?_, ?_, ?_, ?_, ?_, ?_, ?_, ?_, ?_, ?_, ?_, ?_, ?_, ?_, ?_, ?_, ?_, ?_, ?_, ?_, ?_, ?_, ?_, ?_, ?_, ?_, ?_, ?_⟩ <;> intro h <;> first | exact absurd h (by decide) | exact hFa 57 7 (by decide) (by decide)⟩)
    · skip
      subst hsw2
      refine R_tableIn hC dX12_count_23 (off := 241) (by omega) (by omega) rfl (tgt := 264) (by decide) ?_
      refine R_aload_0 hC dX12_count_264 ?_
      refine R_getI hC dX12_count_265 fl_12_281 (by decide) rfl (by decide) (by decide) (fi := 9) rfl ?_
      exact R_ireturn hC dX12_count_268 rfl (ret_P ⟨hFa, hTa, by (rw [if_pos hok]; exact h4q), fun _ => by
          refine ⟨?_, ?_, ?_, ?_, ?_, ?_, ?_, ?_, ?_, ?_, ?_, ?_, ?_, ?_, ?_, ?_, ?_, ?_, ?_, ?_, ?_, ?_, ?_, ?_, ?_, ?_, ?_, ?_⟩ <;> intro h <;> first | exact absurd h (by decide) | exact hFa 57 9 (by decide) (by decide)⟩)
    · skip
      subst hsw2
      refine R_tableIn hC dX12_count_23 (off := 246) (by omega) (by omega) rfl (tgt := 269) (by decide) ?_
      refine R_aload_0 hC dX12_count_269 ?_
      refine R_getI hC dX12_count_270 fl_12_266 (by decide) rfl (by decide) (by decide) (fi := 16) rfl ?_
      exact R_ireturn hC dX12_count_273 rfl (ret_P ⟨hFa, hTa, by (rw [if_pos hok]; exact h4q), fun _ => by
          refine ⟨?_, ?_, ?_, ?_, ?_, ?_, ?_, ?_, ?_, ?_, ?_, ?_, ?_, ?_, ?_, ?_, ?_, ?_, ?_, ?_, ?_, ?_, ?_, ?_, ?_, ?_, ?_, ?_⟩ <;> intro h <;> first | exact absurd h (by decide) | exact hFa 57 16 (by decide) (by decide)⟩)
    · skip
      subst hsw2
      refine R_tableIn hC dX12_count_23 (off := 287) (by omega) (by omega) rfl (tgt := 310) (by decide) ?_
      refine R_aload_0 hC dX12_count_310 ?_
      have hG79 : GR Mc1 := (GR.fr (GR.uF hG (by decide +kernel) (by decide)) hq2.1 (by decide +kernel))
      refine R_getR hC dX12_count_311 fl_12_19 (by decide) rfl (by decide) (by decide) (fi := 3) rfl (r := 61) (gr_57_3 hG79) ?_
      refine R_iload_1 hC dX12_count_314 ?_
      refine R_bipush hC dX12_count_315 (by decide +kernel) ⟨by decide, by decide⟩ ?_
      refine R_isub hC dX12_count_317 ⟨by omega, by omega⟩ ?_
      refine R_iaload hC dX12_count_318 (by decide) rfl (by omega) (by omega) ?_
      exact R_ireturn hC dX12_count_319 rfl (ret_P ⟨hFa, hTa, by (rw [if_pos hok]; exact h4q), fun _ => by
          first | exact absurd hok (by omega) | refine ⟨?_, ?_, ?_, ?_, ?_, ?_, ?_, ?_, ?_, ?_, ?_, ?_, ?_, ?_, ?_, ?_, ?_, ?_, ?_, ?_, ?_, ?_, ?_, ?_, ?_, ?_, ?_, ?_⟩ <;> intro h <;> first | exact absurd h (by decide) | exact hFa 61 _ (by decide) (by simp)⟩)
    · skip
      subst hsw2
      refine R_tableIn hC dX12_count_23 (off := 287) (by omega) (by omega) rfl (tgt := 310) (by decide) ?_
      refine R_aload_0 hC dX12_count_310 ?_
      have hG80 : GR Mc1 := (GR.fr (GR.uF hG (by decide +kernel) (by decide)) hq2.1 (by decide +kernel))
      refine R_getR hC dX12_count_311 fl_12_19 (by decide) rfl (by decide) (by decide) (fi := 3) rfl (r := 61) (gr_57_3 hG80) ?_
      refine R_iload_1 hC dX12_count_314 ?_
      refine R_bipush hC dX12_count_315 (by decide +kernel) ⟨by decide, by decide⟩ ?_
      refine R_isub hC dX12_count_317 ⟨by omega, by omega⟩ ?_
      refine R_iaload hC dX12_count_318 (by decide) rfl (by omega) (by omega) ?_
      exact R_ireturn hC dX12_count_319 rfl (ret_P ⟨hFa, hTa, by (rw [if_pos hok]; exact h4q), fun _ => by
          first | exact absurd hok (by omega) | refine ⟨?_, ?_, ?_, ?_, ?_, ?_, ?_, ?_, ?_, ?_, ?_, ?_, ?_, ?_, ?_, ?_, ?_, ?_, ?_, ?_, ?_, ?_, ?_, ?_, ?_, ?_, ?_, ?_⟩ <;> intro h <;> first | exact absurd h (by decide) | exact hFa 61 _ (by decide) (by simp)⟩)
    · skip
      subst hsw2
      refine R_tableIn hC dX12_count_23 (off := 287) (by omega) (by omega) rfl (tgt := 310) (by decide) ?_
      refine R_aload_0 hC dX12_count_310 ?_
      have hG81 : GR Mc1 := (GR.fr (GR.uF hG (by decide +kernel) (by decide)) hq2.1 (by decide +kernel))
      refine R_getR hC dX12_count_311 fl_12_19 (by decide) rfl (by decide) (by decide) (fi := 3) rfl (r := 61) (gr_57_3 hG81) ?_
      refine R_iload_1 hC dX12_count_314 ?_
      refine R_bipush hC dX12_count_315 (by decide +kernel) ⟨by decide, by decide⟩ ?_
      refine R_isub hC dX12_count_317 ⟨by omega, by omega⟩ ?_
      refine R_iaload hC dX12_count_318 (by decide) rfl (by omega) (by omega) ?_
      exact R_ireturn hC dX12_count_319 rfl (ret_P ⟨hFa, hTa, by (rw [if_pos hok]; exact h4q), fun _ => by
          first | exact absurd hok (by omega) | refine ⟨?_, ?_, ?_, ?_, ?_, ?_, ?_, ?_, ?_, ?_, ?_, ?_, ?_, ?_, ?_, ?_, ?_, ?_, ?_, ?_, ?_, ?_, ?_, ?_, ?_, ?_, ?_, ?_⟩ <;> intro h <;> first | exact absurd h (by decide) | exact hFa 61 _ (by decide) (by simp)⟩)
    · skip
      subst hsw2
      refine R_tableIn hC dX12_count_23 (off := 251) (by omega) (by omega) rfl (tgt := 274) (by decide) ?_
      refine R_aload_0 hC dX12_count_274 ?_
      refine R_iload_1 hC dX12_count_275 ?_
      refine R_bipush hC dX12_count_276 (by decide +kernel) ⟨by decide, by decide⟩ ?_
      refine R_icmp_ne hC dX12_count_278 (tgt := 285) (by decide) (fun hb278 => ?_) (fun hb278 => ?_)
      · skip
        refine R_iconst hC dX12_count_285 ⟨by decide, by decide⟩ ?_
        have hG82 : GR Mc1 := (GR.fr (GR.uF hG (by decide +kernel) (by decide)) hq2.1 (by decide +kernel))
        have hk83 : RW Mc1 0 c := (RW.fr (RW.uf hK (by decide)) hq2.1 (by decide +kernel))
        refine R_callVp (as := [vI _]) hC dX12_count_286 mo_12_help ml_12_363 (by decide) rfl rfl (c12_help  hG82 hk83 hS) rfl rfl hRm (by decide) (by decide) (Nat.le_of_ble_eq_true rfl) (fun v86 Mc84 hq85 => ?_)
        have hFe : Fr [58, 63, 64, 65, 66, 67, 68, 69, 70, 71, 72, 77, 78, 79, 80] [(57, 4), (57, 22), (57, 23), (57, 30), (57, 47), (57, 48), (57, 49), (57, 52), (57, 53), (57, 54)] M Mc84 := Fr.tt hFa (hq85.1.mo (by simp) (by simp))
        have hTe : TRo M Mc84 := TRo.tr hTa (hq85.2.1)
        have h4e : Mc84 57 4 = 0 := (hq85.1 57 4 (by decide) (by simp)).trans h4q
        exact R_ireturn hC dX12_count_289 rfl (ret_P ⟨hFe, hTe, by (rw [if_pos hok]; exact h4e), fun _ => by
            refine ⟨?_, ?_, ?_, ?_, ?_, ?_, ?_, ?_, ?_, ?_, ?_, ?_, ?_, ?_, ?_, ?_, ?_, ?_, ?_, ?_, ?_, ?_, ?_, ?_, ?_, ?_, ?_, ?_⟩ <;> intro h <;> first | exact absurd h (by decide) | exact absurd hb278 (by decide) | exact hq85.2.2⟩)
      · skip
        refine R_iconst hC dX12_count_281 ⟨by decide, by decide⟩ ?_
        refine R_goto hC dX12_count_282 (tgt := 286) (by decide) ?_
        have hG87 : GR Mc1 := (GR.fr (GR.uF hG (by decide +kernel) (by decide)) hq2.1 (by decide +kernel))
        have hk88 : RW Mc1 0 c := (RW.fr (RW.uf hK (by decide)) hq2.1 (by decide +kernel))
        refine R_callVp (as := [vI _]) hC dX12_count_286 mo_12_help ml_12_363 (by decide) rfl rfl (c12_help  hG87 hk88 hS) rfl rfl hRm (by decide) (by decide) (Nat.le_of_ble_eq_true rfl) (fun v91 Mc89 hq90 => ?_)
        have hFe : Fr [58, 63, 64, 65, 66, 67, 68, 69, 70, 71, 72, 77, 78, 79, 80] [(57, 4), (57, 22), (57, 23), (57, 30), (57, 47), (57, 48), (57, 49), (57, 52), (57, 53), (57, 54)] M Mc89 := Fr.tt hFa (hq90.1.mo (by simp) (by simp))
        have hTe : TRo M Mc89 := TRo.tr hTa (hq90.2.1)
        have h4e : Mc89 57 4 = 0 := (hq90.1 57 4 (by decide) (by simp)).trans h4q
        exact R_ireturn hC dX12_count_289 rfl (ret_P ⟨hFe, hTe, by (rw [if_pos hok]; exact h4e), fun _ => by
            refine ⟨?_, ?_, ?_, ?_, ?_, ?_, ?_, ?_, ?_, ?_, ?_, ?_, ?_, ?_, ?_, ?_, ?_, ?_, ?_, ?_, ?_, ?_, ?_, ?_, ?_, ?_, ?_, ?_⟩ <;> intro h <;> first | exact absurd h (by decide) | exact absurd hb278 (by decide) | exact hq90.2.2⟩)
    · skip
      subst hsw2
      refine R_tableIn hC dX12_count_23 (off := 251) (by omega) (by omega) rfl (tgt := 274) (by decide) ?_
      refine R_aload_0 hC dX12_count_274 ?_
      refine R_iload_1 hC dX12_count_275 ?_
      refine R_bipush hC dX12_count_276 (by decide +kernel) ⟨by decide, by decide⟩ ?_
      refine R_icmp_ne hC dX12_count_278 (tgt := 285) (by decide) (fun hb278 => ?_) (fun hb278 => ?_)
      · skip
        refine R_iconst hC dX12_count_285 ⟨by decide, by decide⟩ ?_
        have hG92 : GR Mc1 := (GR.fr (GR.uF hG (by decide +kernel) (by decide)) hq2.1 (by decide +kernel))
        have hk93 : RW Mc1 0 c := (RW.fr (RW.uf hK (by decide)) hq2.1 (by decide +kernel))
        refine R_callVp (as := [vI _]) hC dX12_count_286 mo_12_help ml_12_363 (by decide) rfl rfl (c12_help  hG92 hk93 hS) rfl rfl hRm (by decide) (by decide) (Nat.le_of_ble_eq_true rfl) (fun v96 Mc94 hq95 => ?_)
        have hFe : Fr [58, 63, 64, 65, 66, 67, 68, 69, 70, 71, 72, 77, 78, 79, 80] [(57, 4), (57, 22), (57, 23), (57, 30), (57, 47), (57, 48), (57, 49), (57, 52), (57, 53), (57, 54)] M Mc94 := Fr.tt hFa (hq95.1.mo (by simp) (by simp))
        have hTe : TRo M Mc94 := TRo.tr hTa (hq95.2.1)
        have h4e : Mc94 57 4 = 0 := (hq95.1 57 4 (by decide) (by simp)).trans h4q
        exact R_ireturn hC dX12_count_289 rfl (ret_P ⟨hFe, hTe, by (rw [if_pos hok]; exact h4e), fun _ => by
            refine ⟨?_, ?_, ?_, ?_, ?_, ?_, ?_, ?_, ?_, ?_, ?_, ?_, ?_, ?_, ?_, ?_, ?_, ?_, ?_, ?_, ?_, ?_, ?_, ?_, ?_, ?_, ?_, ?_⟩ <;> intro h <;> first | exact absurd h (by decide) | exact absurd hb278 (by decide) | exact hq95.2.2⟩)
      · skip
        refine R_iconst hC dX12_count_281 ⟨by decide, by decide⟩ ?_
        refine R_goto hC dX12_count_282 (tgt := 286) (by decide) ?_
        have hG97 : GR Mc1 := (GR.fr (GR.uF hG (by decide +kernel) (by decide)) hq2.1 (by decide +kernel))
        have hk98 : RW Mc1 0 c := (RW.fr (RW.uf hK (by decide)) hq2.1 (by decide +kernel))
        refine R_callVp (as := [vI _]) hC dX12_count_286 mo_12_help ml_12_363 (by decide) rfl rfl (c12_help  hG97 hk98 hS) rfl rfl hRm (by decide) (by decide) (Nat.le_of_ble_eq_true rfl) (fun v101 Mc99 hq100 => ?_)
        have hFe : Fr [58, 63, 64, 65, 66, 67, 68, 69, 70, 71, 72, 77, 78, 79, 80] [(57, 4), (57, 22), (57, 23), (57, 30), (57, 47), (57, 48), (57, 49), (57, 52), (57, 53), (57, 54)] M Mc99 := Fr.tt hFa (hq100.1.mo (by simp) (by simp))
        have hTe : TRo M Mc99 := TRo.tr hTa (hq100.2.1)
        have h4e : Mc99 57 4 = 0 := (hq100.1 57 4 (by decide) (by simp)).trans h4q
        exact R_ireturn hC dX12_count_289 rfl (ret_P ⟨hFe, hTe, by (rw [if_pos hok]; exact h4e), fun _ => by
            refine ⟨?_, ?_, ?_, ?_, ?_, ?_, ?_, ?_, ?_, ?_, ?_, ?_, ?_, ?_, ?_, ?_, ?_, ?_, ?_, ?_, ?_, ?_, ?_, ?_, ?_, ?_, ?_, ?_⟩ <;> intro h <;> first | exact absurd h (by decide) | exact absurd hb278 (by decide) | exact hq100.2.2⟩)
    · skip
      subst hsw2
      refine R_tableIn hC dX12_count_23 (off := 267) (by omega) (by omega) rfl (tgt := 290) (by decide) ?_
      refine R_aload_0 hC dX12_count_290 ?_
      have hk102 : RW Mc1 0 c := (RW.fr (RW.uf hK (by decide)) hq2.1 (by decide +kernel))
      refine R_getIE hC dX12_count_291 fl_12_275 (by decide) rfl (by decide) (by decide) (fi := 14) rfl hk102.o ?_
      exact R_ireturn hC dX12_count_294 rfl (ret_P ⟨hFa, hTa, by (rw [if_pos hok]; exact h4q), fun _ => by
          refine ⟨?_, ?_, ?_, ?_, ?_, ?_, ?_, ?_, ?_, ?_, ?_, ?_, ?_, ?_, ?_, ?_, ?_, ?_, ?_, ?_, ?_, ?_, ?_, ?_, ?_, ?_, ?_, ?_⟩ <;> intro h <;> first | exact absurd h (by decide) | exact rfl⟩)
    · skip
      subst hsw2
      refine R_tableIn hC dX12_count_23 (off := 272) (by omega) (by omega) rfl (tgt := 295) (by decide) ?_
      refine R_aload_0 hC dX12_count_295 ?_
      refine R_iconst hC dX12_count_296 ⟨by decide, by decide⟩ ?_
      have hG103 : GR Mc1 := (GR.fr (GR.uF hG (by decide +kernel) (by decide)) hq2.1 (by decide +kernel))
      have hk104 : RW Mc1 0 c := (RW.fr (RW.uf hK (by decide)) hq2.1 (by decide +kernel))
      refine R_callVq (as := [vI _]) hC dX12_count_297 mo_12_stored ml_12_366 (by decide) rfl rfl (c12_stored  hG103 hk104 (by omega) (by omega) hM) rfl rfl hRm (by decide) (by decide) (Nat.le_of_ble_eq_true rfl) ?_
      exact R_ireturn hC dX12_count_300 rfl (ret_P ⟨hFa, hTa, by (rw [if_pos hok]; exact h4q), fun _ => by
          refine ⟨?_, ?_, ?_, ?_, ?_, ?_, ?_, ?_, ?_, ?_, ?_, ?_, ?_, ?_, ?_, ?_, ?_, ?_, ?_, ?_, ?_, ?_, ?_, ?_, ?_, ?_, ?_, ?_⟩ <;> intro h <;> first | exact absurd h (by decide) | exact rfl⟩)
    · skip
      subst hsw2
      refine R_tableIn hC dX12_count_23 (off := 278) (by omega) (by omega) rfl (tgt := 301) (by decide) ?_
      refine R_aload_0 hC dX12_count_301 ?_
      have hG105 : GR Mc1 := (GR.fr (GR.uF hG (by decide +kernel) (by decide)) hq2.1 (by decide +kernel))
      have hk106 : RW Mc1 0 c := (RW.fr (RW.uf hK (by decide)) hq2.1 (by decide +kernel))
      refine R_callVv (as := []) hC dX12_count_302 mo_12_laysOrders ml_12_369 (by decide) rfl rfl (c12_laysOrders (b := b) hG105 hk106 hS hb) rfl rfl hRm (by decide) (by decide) (Nat.le_of_ble_eq_true rfl) (fun Mc107 hq108 => ?_)
      have hFo : Fr [58, 63, 64, 65, 66, 67, 68, 69, 70, 71, 72, 77, 78, 79, 80] [(57, 4), (57, 22), (57, 23), (57, 30), (57, 47), (57, 48), (57, 49), (57, 52), (57, 53), (57, 54)] M Mc107 := Fr.tt hFa (hq108.1.mo (by simp) (by simp))
      have hTo : TRo M Mc107 := TRo.tr hTa (TRo.of hq108.1 (by decide) (by decide))
      have h4o : Mc107 57 4 = 0 := (hq108.1 57 4 (by decide) (by simp)).trans h4q
      refine R_aload_0 hC dX12_count_305 ?_
      refine R_getI hC dX12_count_306 fl_12_326 (by decide) rfl (by decide) (by decide) (fi := 49) rfl ?_
      exact R_ireturn hC dX12_count_309 rfl (ret_P ⟨hFo, hTo, by (rw [if_pos hok]; exact h4o), fun _ => by
          refine ⟨?_, ?_, ?_, ?_, ?_, ?_, ?_, ?_, ?_, ?_, ?_, ?_, ?_, ?_, ?_, ?_, ?_, ?_, ?_, ?_, ?_, ?_, ?_, ?_, ?_, ?_, ?_, ?_⟩ <;> intro h <;> first | exact absurd h (by decide) | exact hq108.2.2.1⟩)
  · skip
    have hno := rt_n h4a hva hb17
    refine R_iconst hC dX12_count_20 ⟨by decide, by decide⟩ ?_
    exact R_ireturn hC dX12_count_21 rfl (ret_P ⟨hFa, hTa, h4a, fun z => by (rw [if_neg hno] at z; cases z)⟩)
theorem dX12_library_0 : decode cX12_library 0 = .ok (.aload_n 0, 1) := by decide +kernel
theorem dX12_library_1 : decode cX12_library 1 = .ok (.iconst 0, 1) := by decide +kernel
theorem dX12_library_2 : decode cX12_library 2 = .ok (.putfield 84, 3) := by decide +kernel
theorem dX12_library_5 : decode cX12_library 5 = .ok (.aload_n 0, 1) := by decide +kernel
theorem dX12_library_6 : decode cX12_library 6 = .ok (.iload_n 1, 1) := by decide +kernel
theorem dX12_library_7 : decode cX12_library 7 = .ok (.invokevirtual 372, 3) := by decide +kernel
theorem dX12_library_10 : decode cX12_library 10 = .ok (.ifCond .eq 18, 3) := by decide +kernel
theorem dX12_library_13 : decode cX12_library 13 = .ok (.aload_n 0, 1) := by decide +kernel
theorem dX12_library_14 : decode cX12_library 14 = .ok (.iload_n 2, 1) := by decide +kernel
theorem dX12_library_15 : decode cX12_library 15 = .ok (.iconst 0, 1) := by decide +kernel
theorem dX12_library_16 : decode cX12_library 16 = .ok (.bipush 12, 2) := by decide +kernel
theorem dX12_library_18 : decode cX12_library 18 = .ok (.invokestatic 235, 3) := by decide +kernel
theorem dX12_library_21 : decode cX12_library 21 = .ok (.iconst 1, 1) := by decide +kernel
theorem dX12_library_22 : decode cX12_library 22 = .ok (.invokevirtual 269, 3) := by decide +kernel
theorem dX12_library_25 : decode cX12_library 25 = .ok (.ifCond .ne 5, 3) := by decide +kernel
theorem dX12_library_28 : decode cX12_library 28 = .ok (.iconst 0, 1) := by decide +kernel
theorem dX12_library_29 : decode cX12_library 29 = .ok (.ireturn, 1) := by decide +kernel
theorem dX12_library_30 : decode cX12_library 30 = .ok (.iload_n 2, 1) := by decide +kernel
theorem dX12_library_31 : decode cX12_library 31 = .ok (.tableswitch 171 0 11 #[61, 70, 79, 86, 93, 93, 124, 130, 130, 147, 153, 164], 61) := by decide +kernel
theorem dX12_library_92 : decode cX12_library 92 = .ok (.aload_n 0, 1) := by decide +kernel
theorem dX12_library_93 : decode cX12_library 93 = .ok (.getfield 9, 3) := by decide +kernel
theorem dX12_library_96 : decode cX12_library 96 = .ok (.iconst 0, 1) := by decide +kernel
theorem dX12_library_97 : decode cX12_library 97 = .ok (.iload_n 1, 1) := by decide +kernel
theorem dX12_library_98 : decode cX12_library 98 = .ok (.iadd, 1) := by decide +kernel
theorem dX12_library_99 : decode cX12_library 99 = .ok (.iaload, 1) := by decide +kernel
theorem dX12_library_100 : decode cX12_library 100 = .ok (.ireturn, 1) := by decide +kernel
theorem dX12_library_101 : decode cX12_library 101 = .ok (.aload_n 0, 1) := by decide +kernel
theorem dX12_library_102 : decode cX12_library 102 = .ok (.getfield 9, 3) := by decide +kernel
theorem dX12_library_105 : decode cX12_library 105 = .ok (.iconst 5, 1) := by decide +kernel
theorem dX12_library_106 : decode cX12_library 106 = .ok (.iload_n 1, 1) := by decide +kernel
theorem dX12_library_107 : decode cX12_library 107 = .ok (.iadd, 1) := by decide +kernel
theorem dX12_library_108 : decode cX12_library 108 = .ok (.iaload, 1) := by decide +kernel
theorem dX12_library_109 : decode cX12_library 109 = .ok (.ireturn, 1) := by decide +kernel
theorem dX12_library_110 : decode cX12_library 110 = .ok (.aload_n 0, 1) := by decide +kernel
theorem dX12_library_111 : decode cX12_library 111 = .ok (.iconst 0, 1) := by decide +kernel
theorem dX12_library_112 : decode cX12_library 112 = .ok (.iload_n 1, 1) := by decide +kernel
theorem dX12_library_113 : decode cX12_library 113 = .ok (.invokevirtual 111, 3) := by decide +kernel
theorem dX12_library_116 : decode cX12_library 116 = .ok (.ireturn, 1) := by decide +kernel
theorem dX12_library_117 : decode cX12_library 117 = .ok (.aload_n 0, 1) := by decide +kernel
theorem dX12_library_118 : decode cX12_library 118 = .ok (.iconst 0, 1) := by decide +kernel
theorem dX12_library_119 : decode cX12_library 119 = .ok (.iload_n 1, 1) := by decide +kernel
theorem dX12_library_120 : decode cX12_library 120 = .ok (.invokevirtual 114, 3) := by decide +kernel
theorem dX12_library_123 : decode cX12_library 123 = .ok (.ireturn, 1) := by decide +kernel
theorem dX12_library_124 : decode cX12_library 124 = .ok (.aload_n 0, 1) := by decide +kernel
theorem dX12_library_125 : decode cX12_library 125 = .ok (.iconst 0, 1) := by decide +kernel
theorem dX12_library_126 : decode cX12_library 126 = .ok (.invokevirtual 190, 3) := by decide +kernel
theorem dX12_library_129 : decode cX12_library 129 = .ok (.ifCond .ne 7, 3) := by decide +kernel
theorem dX12_library_132 : decode cX12_library 132 = .ok (.iconst (-1), 1) := by decide +kernel
theorem dX12_library_133 : decode cX12_library 133 = .ok (.goto 21, 3) := by decide +kernel
theorem dX12_library_136 : decode cX12_library 136 = .ok (.iload_n 2, 1) := by decide +kernel
theorem dX12_library_137 : decode cX12_library 137 = .ok (.iconst 4, 1) := by decide +kernel
theorem dX12_library_138 : decode cX12_library 138 = .ok (.if_icmp .ne 11, 3) := by decide +kernel
theorem dX12_library_141 : decode cX12_library 141 = .ok (.aload_n 0, 1) := by decide +kernel
theorem dX12_library_142 : decode cX12_library 142 = .ok (.iload_n 1, 1) := by decide +kernel
theorem dX12_library_143 : decode cX12_library 143 = .ok (.invokevirtual 187, 3) := by decide +kernel
theorem dX12_library_146 : decode cX12_library 146 = .ok (.goto 8, 3) := by decide +kernel
theorem dX12_library_149 : decode cX12_library 149 = .ok (.aload_n 0, 1) := by decide +kernel
theorem dX12_library_150 : decode cX12_library 150 = .ok (.iload_n 1, 1) := by decide +kernel
theorem dX12_library_151 : decode cX12_library 151 = .ok (.invokevirtual 375, 3) := by decide +kernel
theorem dX12_library_154 : decode cX12_library 154 = .ok (.ireturn, 1) := by decide +kernel
theorem dX12_library_155 : decode cX12_library 155 = .ok (.aload_n 0, 1) := by decide +kernel
theorem dX12_library_156 : decode cX12_library 156 = .ok (.iload_n 1, 1) := by decide +kernel
theorem dX12_library_157 : decode cX12_library 157 = .ok (.invokevirtual 378, 3) := by decide +kernel
theorem dX12_library_160 : decode cX12_library 160 = .ok (.ireturn, 1) := by decide +kernel
theorem dX12_library_161 : decode cX12_library 161 = .ok (.aload_n 0, 1) := by decide +kernel
theorem dX12_library_162 : decode cX12_library 162 = .ok (.iload_n 1, 1) := by decide +kernel
theorem dX12_library_163 : decode cX12_library 163 = .ok (.iload_n 2, 1) := by decide +kernel
theorem dX12_library_164 : decode cX12_library 164 = .ok (.bipush 8, 2) := by decide +kernel
theorem dX12_library_166 : decode cX12_library 166 = .ok (.if_icmp .ne 7, 3) := by decide +kernel
theorem dX12_library_169 : decode cX12_library 169 = .ok (.iconst 1, 1) := by decide +kernel
theorem dX12_library_170 : decode cX12_library 170 = .ok (.goto 4, 3) := by decide +kernel
theorem dX12_library_173 : decode cX12_library 173 = .ok (.iconst 0, 1) := by decide +kernel
theorem dX12_library_174 : decode cX12_library 174 = .ok (.invokevirtual 381, 3) := by decide +kernel
theorem dX12_library_177 : decode cX12_library 177 = .ok (.ireturn, 1) := by decide +kernel
theorem dX12_library_178 : decode cX12_library 178 = .ok (.aload_n 0, 1) := by decide +kernel
theorem dX12_library_179 : decode cX12_library 179 = .ok (.iload_n 1, 1) := by decide +kernel
theorem dX12_library_180 : decode cX12_library 180 = .ok (.invokevirtual 385, 3) := by decide +kernel
theorem dX12_library_183 : decode cX12_library 183 = .ok (.ireturn, 1) := by decide +kernel
theorem dX12_library_184 : decode cX12_library 184 = .ok (.aload_n 0, 1) := by decide +kernel
theorem dX12_library_185 : decode cX12_library 185 = .ok (.iload_n 1, 1) := by decide +kernel
theorem dX12_library_186 : decode cX12_library 186 = .ok (.invokevirtual 385, 3) := by decide +kernel
theorem dX12_library_189 : decode cX12_library 189 = .ok (.pop, 1) := by decide +kernel
theorem dX12_library_190 : decode cX12_library 190 = .ok (.aload_n 0, 1) := by decide +kernel
theorem dX12_library_191 : decode cX12_library 191 = .ok (.getfield 314, 3) := by decide +kernel
theorem dX12_library_194 : decode cX12_library 194 = .ok (.ireturn, 1) := by decide +kernel
theorem dX12_library_195 : decode cX12_library 195 = .ok (.aload_n 0, 1) := by decide +kernel
theorem dX12_library_196 : decode cX12_library 196 = .ok (.iconst 0, 1) := by decide +kernel
theorem dX12_library_197 : decode cX12_library 197 = .ok (.iload_n 1, 1) := by decide +kernel
theorem dX12_library_198 : decode cX12_library 198 = .ok (.invokevirtual 165, 3) := by decide +kernel
theorem dX12_library_201 : decode cX12_library 201 = .ok (.ireturn, 1) := by decide +kernel
theorem dX12_library_202 : decode cX12_library 202 = .ok (.aload_n 0, 1) := by decide +kernel
theorem dX12_library_203 : decode cX12_library 203 = .ok (.iconst 5, 1) := by decide +kernel
theorem dX12_library_204 : decode cX12_library 204 = .ok (.iload_n 1, 1) := by decide +kernel
theorem dX12_library_205 : decode cX12_library 205 = .ok (.iadd, 1) := by decide +kernel
theorem dX12_library_206 : decode cX12_library 206 = .ok (.bipush 20, 2) := by decide +kernel
theorem dX12_library_208 : decode cX12_library 208 = .ok (.aload_n 0, 1) := by decide +kernel
theorem dX12_library_209 : decode cX12_library 209 = .ok (.getfield 9, 3) := by decide +kernel
theorem dX12_library_212 : decode cX12_library 212 = .ok (.iconst 5, 1) := by decide +kernel
theorem dX12_library_213 : decode cX12_library 213 = .ok (.iload_n 1, 1) := by decide +kernel
theorem dX12_library_214 : decode cX12_library 214 = .ok (.iadd, 1) := by decide +kernel
theorem dX12_library_215 : decode cX12_library 215 = .ok (.iaload, 1) := by decide +kernel
theorem dX12_library_216 : decode cX12_library 216 = .ok (.iconst 1, 1) := by decide +kernel
theorem dX12_library_217 : decode cX12_library 217 = .ok (.iadd, 1) := by decide +kernel
theorem dX12_library_218 : decode cX12_library 218 = .ok (.invokestatic 126, 3) := by decide +kernel
theorem dX12_library_221 : decode cX12_library 221 = .ok (.invokevirtual 388, 3) := by decide +kernel
theorem dX12_library_224 : decode cX12_library 224 = .ok (.ireturn, 1) := by decide +kernel
set_option maxHeartbeats 2000000 in
theorem c12_library {G : Gl} {l : Launch}  {M : Mem} {c : Int → Int} {x w : Int} {b : Int → Int} (hG : GR M) (hK : RW M 0 c) (hS : SP c) (hb : RK (c 122) (fun w => c (10 + w)) b) : Ct G LY 82 l 8 m12_library [vR 57, vI x, vI w] M (RP (fun v M' => Fr [58, 63, 64, 65, 66, 67, 68, 69, 70, 71, 72, 77, 78, 79, 80] [(57, 4), (57, 22), (57, 23), (57, 30), (57, 47), (57, 48), (57, 49), (57, 52), (57, 53), (57, 54)] M M' ∧ TRo M M' ∧ M' 57 4 = (if (0 ≤ x ∧ x < c 121) ∧ 0 ≤ w ∧ w ≤ 12 then (0 : Int) else 1) ∧ ((if (0 ≤ x ∧ x < c 121) ∧ 0 ≤ w ∧ w ≤ 12 then (0 : Int) else 1) = 0 → (w = 0 → v = c x) ∧ (w = 1 → v = c (5 + x)) ∧ (w = 2 → v = inAll c x) ∧ (w = 3 → v = nee c x) ∧ (w = 4 → v = itc (planI (insOf c)) (sm (c 122).toNat (fun w => plT (insOf c) (6 * x + w))) (-1)) ∧ (w = 5 → v = itc (planI (insOf c)) (sm (c 122).toNat (fun w => plT (insOf c) (6 * x + w) * c (10 + w))) (-1)) ∧ (w = 6 → ((¬ planI (insOf c) ∧ v = -1) ∨ (planI (insOf c) ∧ FF (fun m => planI (insOf (upd1 c x (c x - m)))) (c x) v))) ∧ (w = 7 → v = bits (c 122).toNat (fun k => allOf c k - c (28 + x * 6 + k) < c (16 + k))) ∧ (w = 8 → v = bits (c 122).toNat (fun k => 0 < allOf c k ∧ allOf c k = c (28 + x * 6 + k))) ∧ (w = 9 → v = oP (insOf c) b (lib (c 121) x) (c 121).toNat) ∧ (w = 10 → v = bits (c 121).toNat (oL (insOf c) b (lib (c 121) x) (c 121))) ∧ (w = 11 → v = SPC (apI c x)) ∧ (w = 12 → v = if SPC (insOf c) = -1 then -1 else SPC (insOf (upd1 c (5 + x) (min 20 (c (5 + x) + 1)))) - SPC (insOf c))))) := by
  refine R_start (by decide +kernel) (Nat.le_of_ble_eq_true rfl) (fun C hC hRm hlau => ?_)
  show RZ G LY C (Zn G LY 82 C (RP (fun v M' => Fr [58, 63, 64, 65, 66, 67, 68, 69, 70, 71, 72, 77, 78, 79, 80] [(57, 4), (57, 22), (57, 23), (57, 30), (57, 47), (57, 48), (57, 49), (57, 52), (57, 53), (57, 54)] M M' ∧ TRo M M' ∧ M' 57 4 = (if (0 ≤ x ∧ x < c 121) ∧ 0 ≤ w ∧ w ≤ 12 then (0 : Int) else 1) ∧ ((if (0 ≤ x ∧ x < c 121) ∧ 0 ≤ w ∧ w ≤ 12 then (0 : Int) else 1) = 0 → (w = 0 → v = c x) ∧ (w = 1 → v = c (5 + x)) ∧ (w = 2 → v = inAll c x) ∧ (w = 3 → v = nee c x) ∧ (w = 4 → v = itc (planI (insOf c)) (sm (c 122).toNat (fun w => plT (insOf c) (6 * x + w))) (-1)) ∧ (w = 5 → v = itc (planI (insOf c)) (sm (c 122).toNat (fun w => plT (insOf c) (6 * x + w) * c (10 + w))) (-1)) ∧ (w = 6 → ((¬ planI (insOf c) ∧ v = -1) ∨ (planI (insOf c) ∧ FF (fun m => planI (insOf (upd1 c x (c x - m)))) (c x) v))) ∧ (w = 7 → v = bits (c 122).toNat (fun k => allOf c k - c (28 + x * 6 + k) < c (16 + k))) ∧ (w = 8 → v = bits (c 122).toNat (fun k => 0 < allOf c k ∧ allOf c k = c (28 + x * 6 + k))) ∧ (w = 9 → v = oP (insOf c) b (lib (c 121) x) (c 121).toNat) ∧ (w = 10 → v = bits (c 121).toNat (oL (insOf c) b (lib (c 121) x) (c 121))) ∧ (w = 11 → v = SPC (apI c x)) ∧ (w = 12 → v = if SPC (insOf c) = -1 then -1 else SPC (insOf (upd1 c (5 + x) (min 20 (c (5 + x) + 1)))) - SPC (insOf c)))))) 0 0 82 0 [some (vR 57), some (vI x), some (vI w)] [] M
  have hM := hS.m
  have hI := hM.I
  have hL := hM.1.1
  have hW := hM.1.2
  refine R_aload_0 hC dX12_library_0 ?_
  refine R_iconst hC dX12_library_1 ⟨by decide, by decide⟩ ?_
  refine R_putI hC dX12_library_2 fl_12_84 (by decide) rfl (by decide) (by decide) (fi := 4) rfl ?_
  refine R_aload_0 hC dX12_library_5 ?_
  refine R_iload_1 hC dX12_library_6 ?_
  have hFz : Fr [58, 63, 64, 65, 66, 67, 68, 69, 70, 71, 72, 77, 78, 79, 80] [(57, 4), (57, 22), (57, 23), (57, 30), (57, 47), (57, 48), (57, 49), (57, 52), (57, 53), (57, 54)] M (uM M 57 4 0) := Fr.uB Fr.rf (by decide)
  have hTz : TRo M (uM M 57 4 0) := TRo.rf.h (by decide)
  have hG1 : GR (uM M 57 4 0) := (GR.uF hG (by decide +kernel) (by decide))
  have hk2 : RW (uM M 57 4 0) 0 c := (RW.uf hK (by decide))
  refine R_callVp (as := [vI _]) hC dX12_library_7 mo_12_isLibrary ml_12_372 (by decide) rfl rfl (c12_isLibrary  hG1 hk2 hS) rfl rfl hRm (by decide) (by decide) (Nat.le_of_ble_eq_true rfl) (fun v5 Mc3 hq4 => ?_)
  have hFa : Fr [58, 63, 64, 65, 66, 67, 68, 69, 70, 71, 72, 77, 78, 79, 80] [(57, 4), (57, 22), (57, 23), (57, 30), (57, 47), (57, 48), (57, 49), (57, 52), (57, 53), (57, 54)] M Mc3 := Fr.tt hFz (hq4.1.mo (by simp) (by simp))
  have hTa : TRo M Mc3 := TRo.tr hTz (TRo.of hq4.1 (by decide) (by decide))
  have h4a := rt_e hq4.2.1 uM_same
  have hva := hq4.2.2
  refine R_if_eq hC dX12_library_10 (tgt := 28) (by decide) (fun hb10 => ?_) (fun hb10 => ?_)
  · skip
    have hno := rt_n h4a hva hb10
    have hno2 : ¬ ((0 ≤ x ∧ x < c 121) ∧ 0 ≤ w ∧ w ≤ 12) := fun z => hno z.1
    have hF9 := hFa
    have hT9 := hTa
    have h49 := h4a.trans (if_neg hno)
    refine R_iconst hC dX12_library_28 ⟨by decide, by decide⟩ ?_
    exact R_ireturn hC dX12_library_29 rfl (ret_P ⟨hF9, hT9, by (rw [if_neg hno2]; exact h49), fun z => by (rw [if_neg hno2] at z; cases z)⟩)
  · skip
    have hokL := rt_y h4a hva hb10
    refine R_aload_0 hC dX12_library_13 ?_
    refine R_iload_2 hC dX12_library_14 ?_
    refine R_iconst hC dX12_library_15 ⟨by decide, by decide⟩ ?_
    refine R_bipush hC dX12_library_16 (by decide +kernel) ⟨by decide, by decide⟩ ?_
    refine R_callSq (as := [vI _, vI _, vI _]) hC dX12_library_18 mo_12_within ml_12_235 (c12_within  ) rfl rfl hRm (by decide) (by decide) (Nat.le_of_ble_eq_true rfl) ?_
    refine R_iconst hC dX12_library_21 ⟨by decide, by decide⟩ ?_
    refine R_callVp (as := [vI _, vI _]) hC dX12_library_22 mo_12_right ml_12_269 (by decide) rfl rfl (c12_right  ) rfl rfl hRm (by decide) (by decide) (Nat.le_of_ble_eq_true rfl) (fun v8 Mc6 hq7 => ?_)
    have hFb : Fr [58, 63, 64, 65, 66, 67, 68, 69, 70, 71, 72, 77, 78, 79, 80] [(57, 4), (57, 22), (57, 23), (57, 30), (57, 47), (57, 48), (57, 49), (57, 52), (57, 53), (57, 54)] M Mc6 := Fr.tt hFa (hq7.1.mo (by simp) (by simp))
    have hTb : TRo M Mc6 := TRo.tr hTa (TRo.of hq7.1 (by decide) (by decide))
    have h4b := rt_d hq7.2.1 (h4a.trans (if_pos hokL))
    have hvb := hq7.2.2
    refine R_if_ne hC dX12_library_25 (tgt := 30) (by decide) (fun hb25 => ?_) (fun hb25 => ?_)
    · skip
      have hokW := rt_y h4b hvb hb25
      have hok2 : (0 ≤ x ∧ x < c 121) ∧ 0 ≤ w ∧ w ≤ 12 := ⟨hokL, hokW⟩
      have h4q := h4b.trans (if_pos hokW)
      have bxx := hM.2.1 x (by omega) (by omega)
      refine R_iload_2 hC dX12_library_30 ?_
      by_cases hsw : w < 0 ∨ 11 < w
      · skip
        refine R_tableOut hC dX12_library_31 hsw (tgt := 202) (by decide) ?_
        refine R_aload_0 hC dX12_library_202 ?_
        refine R_iconst hC dX12_library_203 ⟨by decide, by decide⟩ ?_
        refine R_iload_1 hC dX12_library_204 ?_
        refine R_iadd hC dX12_library_205 ⟨by omega, by omega⟩ ?_
        refine R_bipush hC dX12_library_206 (by decide +kernel) ⟨by decide, by decide⟩ ?_
        refine R_aload_0 hC dX12_library_208 ?_
        have hG9 : GR Mc6 := (GR.fr (GR.fr hG1 hq4.1 (by decide +kernel)) hq7.1 (by decide +kernel))
        refine R_getR hC dX12_library_209 fl_12_9 (by decide) rfl (by decide) (by decide) (fi := 0) rfl (r := 58) (gr_57_0 hG9) ?_
        refine R_iconst hC dX12_library_212 ⟨by decide, by decide⟩ ?_
        refine R_iload_1 hC dX12_library_213 ?_
        refine R_iadd hC dX12_library_214 ⟨by omega, by omega⟩ ?_
        have hk10 : RW Mc6 0 c := (RW.fr (RW.fr hk2 hq4.1 (by decide +kernel)) hq7.1 (by decide +kernel))
        refine R_ialoadE hC dX12_library_215 (by decide) rfl (by omega) (by omega) (hk10.r1 (k := 5 + x) (by omega) (by omega) (by omega)) ?_
        refine R_iconst hC dX12_library_216 ⟨by decide, by decide⟩ ?_
        refine R_iadd hC dX12_library_217 ⟨by omega, by omega⟩ ?_
        refine R_callSq (as := [vI _, vI _]) hC dX12_library_218 mo_12_lesser ml_12_126 (c12_lesser  ) rfl rfl hRm (by decide) (by decide) (Nat.le_of_ble_eq_true rfl) ?_
        refine R_callVp (as := [vI _, vI _]) hC dX12_library_221 mo_12_priceBy ml_12_388 (by decide) rfl rfl (c12_priceBy (k := (5 + x)) hG9 hk10 hS (.inl (by omega)) ((mj1 (by omega)).symm) (hM.up (.inl ⟨by omega, by omega, by omega, by omega⟩))) rfl rfl hRm (by decide) (by decide) (Nat.le_of_ble_eq_true rfl) (fun v13 Mc11 hq12 => ?_)
        have hFp : Fr [58, 63, 64, 65, 66, 67, 68, 69, 70, 71, 72, 77, 78, 79, 80] [(57, 4), (57, 22), (57, 23), (57, 30), (57, 47), (57, 48), (57, 49), (57, 52), (57, 53), (57, 54)] M Mc11 := Fr.tt hFb (hq12.1.mo (by simp) (by simp))
        have hTp : TRo M Mc11 := TRo.tr hTb (hq12.2.1)
        have h4p : Mc11 57 4 = 0 := (hq12.1 57 4 (by decide) (by simp)).trans h4q
        exact R_ireturn hC dX12_library_224 rfl (ret_P ⟨hFp, hTp, by (rw [if_pos hok2]; exact h4p), fun _ => by
            refine ⟨?_, ?_, ?_, ?_, ?_, ?_, ?_, ?_, ?_, ?_, ?_, ?_, ?_⟩ <;> intro h <;> first | exact absurd h (by decide) | exact absurd h (by omega) | exact hq12.2.2⟩)
      have hsw2 : w = 0 ∨ w = 1 ∨ w = 2 ∨ w = 3 ∨ w = 4 ∨ w = 5 ∨ w = 6 ∨ w = 7 ∨ w = 8 ∨ w = 9 ∨ w = 10 ∨ w = 11 := by omega
      rcases hsw2 with hsw2 | hsw2 | hsw2 | hsw2 | hsw2 | hsw2 | hsw2 | hsw2 | hsw2 | hsw2 | hsw2 | hsw2
      · skip
        subst hsw2
        refine R_tableIn hC dX12_library_31 (off := 61) (by omega) (by omega) rfl (tgt := 92) (by decide) ?_
        refine R_aload_0 hC dX12_library_92 ?_
        have hG14 : GR Mc6 := (GR.fr (GR.fr hG1 hq4.1 (by decide +kernel)) hq7.1 (by decide +kernel))
        refine R_getR hC dX12_library_93 fl_12_9 (by decide) rfl (by decide) (by decide) (fi := 0) rfl (r := 58) (gr_57_0 hG14) ?_
        refine R_iconst hC dX12_library_96 ⟨by decide, by decide⟩ ?_
        refine R_iload_1 hC dX12_library_97 ?_
        refine R_iadd hC dX12_library_98 ⟨by omega, by omega⟩ ?_
        have hk15 : RW Mc6 0 c := (RW.fr (RW.fr hk2 hq4.1 (by decide +kernel)) hq7.1 (by decide +kernel))
        refine R_ialoadE hC dX12_library_99 (by decide) rfl (by omega) (by omega) (hk15.r1 (k := x) (by omega) (by omega) (by omega)) ?_
        exact R_ireturn hC dX12_library_100 rfl (ret_P ⟨hFb, hTb, by (rw [if_pos hok2]; exact h4q), fun _ => by
            refine ⟨?_, ?_, ?_, ?_, ?_, ?_, ?_, ?_, ?_, ?_, ?_, ?_, ?_⟩ <;> intro h <;> first | exact absurd h (by decide) | exact rfl⟩)
      · skip
        subst hsw2
        refine R_tableIn hC dX12_library_31 (off := 70) (by omega) (by omega) rfl (tgt := 101) (by decide) ?_
        refine R_aload_0 hC dX12_library_101 ?_
        have hG16 : GR Mc6 := (GR.fr (GR.fr hG1 hq4.1 (by decide +kernel)) hq7.1 (by decide +kernel))
        refine R_getR hC dX12_library_102 fl_12_9 (by decide) rfl (by decide) (by decide) (fi := 0) rfl (r := 58) (gr_57_0 hG16) ?_
        refine R_iconst hC dX12_library_105 ⟨by decide, by decide⟩ ?_
        refine R_iload_1 hC dX12_library_106 ?_
        refine R_iadd hC dX12_library_107 ⟨by omega, by omega⟩ ?_
        have hk17 : RW Mc6 0 c := (RW.fr (RW.fr hk2 hq4.1 (by decide +kernel)) hq7.1 (by decide +kernel))
        refine R_ialoadE hC dX12_library_108 (by decide) rfl (by omega) (by omega) (hk17.r1 (k := 5 + x) (by omega) (by omega) (by omega)) ?_
        exact R_ireturn hC dX12_library_109 rfl (ret_P ⟨hFb, hTb, by (rw [if_pos hok2]; exact h4q), fun _ => by
            refine ⟨?_, ?_, ?_, ?_, ?_, ?_, ?_, ?_, ?_, ?_, ?_, ?_, ?_⟩ <;> intro h <;> first | exact absurd h (by decide) | exact rfl⟩)
      · skip
        subst hsw2
        refine R_tableIn hC dX12_library_31 (off := 79) (by omega) (by omega) rfl (tgt := 110) (by decide) ?_
        refine R_aload_0 hC dX12_library_110 ?_
        refine R_iconst hC dX12_library_111 ⟨by decide, by decide⟩ ?_
        refine R_iload_1 hC dX12_library_112 ?_
        have hG18 : GR Mc6 := (GR.fr (GR.fr hG1 hq4.1 (by decide +kernel)) hq7.1 (by decide +kernel))
        have hk19 : RW Mc6 0 c := (RW.fr (RW.fr hk2 hq4.1 (by decide +kernel)) hq7.1 (by decide +kernel))
        refine R_callVq (as := [vI _, vI _]) hC dX12_library_113 mo_12_inAll ml_12_111 (by decide) rfl rfl (c12_inAll  hG18 hk19 (by omega) (by omega) (by omega) (by omega) hM) rfl rfl hRm (by decide) (by decide) (Nat.le_of_ble_eq_true rfl) ?_
        exact R_ireturn hC dX12_library_116 rfl (ret_P ⟨hFb, hTb, by (rw [if_pos hok2]; exact h4q), fun _ => by
            refine ⟨?_, ?_, ?_, ?_, ?_, ?_, ?_, ?_, ?_, ?_, ?_, ?_, ?_⟩ <;> intro h <;> first | exact absurd h (by decide) | exact rfl⟩)
      · skip
        subst hsw2
        refine R_tableIn hC dX12_library_31 (off := 86) (by omega) (by omega) rfl (tgt := 117) (by decide) ?_
        refine R_aload_0 hC dX12_library_117 ?_
        refine R_iconst hC dX12_library_118 ⟨by decide, by decide⟩ ?_
        refine R_iload_1 hC dX12_library_119 ?_
        have hG20 : GR Mc6 := (GR.fr (GR.fr hG1 hq4.1 (by decide +kernel)) hq7.1 (by decide +kernel))
        have hk21 : RW Mc6 0 c := (RW.fr (RW.fr hk2 hq4.1 (by decide +kernel)) hq7.1 (by decide +kernel))
        refine R_callVq (as := [vI _, vI _]) hC dX12_library_120 mo_12_needOf ml_12_114 (by decide) rfl rfl (c12_needOf  hG20 hk21 (by omega) (by omega) (by omega) (by omega) hM) rfl rfl hRm (by decide) (by decide) (Nat.le_of_ble_eq_true rfl) ?_
        exact R_ireturn hC dX12_library_123 rfl (ret_P ⟨hFb, hTb, by (rw [if_pos hok2]; exact h4q), fun _ => by
            refine ⟨?_, ?_, ?_, ?_, ?_, ?_, ?_, ?_, ?_, ?_, ?_, ?_, ?_⟩ <;> intro h <;> first | exact absurd h (by decide) | exact rfl⟩)
      · skip
        subst hsw2
        refine R_tableIn hC dX12_library_31 (off := 93) (by omega) (by omega) rfl (tgt := 124) (by decide) ?_
        refine R_aload_0 hC dX12_library_124 ?_
        refine R_iconst hC dX12_library_125 ⟨by decide, by decide⟩ ?_
        have hG22 : GR Mc6 := (GR.fr (GR.fr hG1 hq4.1 (by decide +kernel)) hq7.1 (by decide +kernel))
        have hk23 : RW Mc6 0 c := (RW.fr (RW.fr hk2 hq4.1 (by decide +kernel)) hq7.1 (by decide +kernel))
        refine R_callVp (as := [vI _]) hC dX12_library_126 mo_12_plans ml_12_190 (by decide) rfl rfl (c12_plans  hG22 hk23 (by omega) (by omega) hM) rfl rfl hRm (by decide) (by decide) (Nat.le_of_ble_eq_true rfl) (fun v26 Mc24 hq25 => ?_)
        have hFl : Fr [58, 63, 64, 65, 66, 67, 68, 69, 70, 71, 72, 77, 78, 79, 80] [(57, 4), (57, 22), (57, 23), (57, 30), (57, 47), (57, 48), (57, 49), (57, 52), (57, 53), (57, 54)] M Mc24 := Fr.tt hFb (hq25.1.mo (by simp) (by simp))
        have hTl : TRo M Mc24 := TRo.tr hTb (TRo.of hq25.1 (by decide) (by decide))
        have h4l : Mc24 57 4 = 0 := (hq25.1 57 4 (by decide) (by simp)).trans h4q
        refine R_if_ne hC dX12_library_129 (tgt := 136) (by decide) (fun hb129 => ?_) (fun hb129 => ?_)
        · skip
          refine R_iload_2 hC dX12_library_136 ?_
          refine R_iconst hC dX12_library_137 ⟨by decide, by decide⟩ ?_
          refine R_icmp_ne hC dX12_library_138 (tgt := 149) (by decide) (fun hb138 => ?_) (fun hb138 => ?_)
          · skip
            refine R_aload_0 hC dX12_library_149 ?_
            refine R_iload_1 hC dX12_library_150 ?_
            have hG27 : GR Mc24 := (GR.fr hG22 hq25.1 (by decide +kernel))
            have hk28 : RW Mc24 0 c := (RW.fr hk23 hq25.1 (by decide +kernel))
            refine R_callVq (as := [vI _]) hC dX12_library_151 mo_12_wonBy ml_12_375 (by decide) rfl rfl (c12_wonBy (P := (plT (insOf c))) hG27 hk28 hM hq25.2.2 (fun q q0 => plT_3 hI q0) (by omega) (by omega)) rfl rfl hRm (by decide) (by decide) (Nat.le_of_ble_eq_true rfl) ?_
            exact R_ireturn hC dX12_library_154 rfl (ret_P ⟨hFl, hTl, by (rw [if_pos hok2]; exact h4l), fun _ => by
                refine ⟨?_, ?_, ?_, ?_, ?_, ?_, ?_, ?_, ?_, ?_, ?_, ?_, ?_⟩ <;> intro h <;> first | exact absurd h (by decide) | exact absurd hb138 (by decide) | exact (itc_t (bP_nz (fun z => hb129 (hq25.2.1.trans z)))).symm | exact (itc_f (bP_z (hq25.2.1.symm.trans hb129))).symm⟩)
          · skip
            refine R_aload_0 hC dX12_library_141 ?_
            refine R_iload_1 hC dX12_library_142 ?_
            have hG29 : GR Mc24 := (GR.fr hG22 hq25.1 (by decide +kernel))
            have hk30 : RW Mc24 0 c := (RW.fr hk23 hq25.1 (by decide +kernel))
            refine R_callVq (as := [vI _]) hC dX12_library_143 mo_12_plannedBy ml_12_187 (by decide) rfl rfl (c12_plannedBy (P := (plT (insOf c))) hG29 hk30 hM hq25.2.2 (fun q q0 => plT_3 hI q0) (by omega) (by omega)) rfl rfl hRm (by decide) (by decide) (Nat.le_of_ble_eq_true rfl) ?_
            refine R_goto hC dX12_library_146 (tgt := 154) (by decide) ?_
            exact R_ireturn hC dX12_library_154 rfl (ret_P ⟨hFl, hTl, by (rw [if_pos hok2]; exact h4l), fun _ => by
                refine ⟨?_, ?_, ?_, ?_, ?_, ?_, ?_, ?_, ?_, ?_, ?_, ?_, ?_⟩ <;> intro h <;> first | exact absurd h (by decide) | exact absurd hb138 (by decide) | exact (itc_t (bP_nz (fun z => hb129 (hq25.2.1.trans z)))).symm | exact (itc_f (bP_z (hq25.2.1.symm.trans hb129))).symm⟩)
        · skip
          refine R_iconst hC dX12_library_132 ⟨by decide, by decide⟩ ?_
          refine R_goto hC dX12_library_133 (tgt := 154) (by decide) ?_
          exact R_ireturn hC dX12_library_154 rfl (ret_P ⟨hFl, hTl, by (rw [if_pos hok2]; exact h4l), fun _ => by
              refine ⟨?_, ?_, ?_, ?_, ?_, ?_, ?_, ?_, ?_, ?_, ?_, ?_, ?_⟩ <;> intro h <;> first | exact absurd h (by decide) | exact absurd hb138 (by decide) | exact (itc_t (bP_nz (fun z => hb129 (hq25.2.1.trans z)))).symm | exact (itc_f (bP_z (hq25.2.1.symm.trans hb129))).symm⟩)
      · skip
        subst hsw2
        refine R_tableIn hC dX12_library_31 (off := 93) (by omega) (by omega) rfl (tgt := 124) (by decide) ?_
        refine R_aload_0 hC dX12_library_124 ?_
        refine R_iconst hC dX12_library_125 ⟨by decide, by decide⟩ ?_
        have hG31 : GR Mc6 := (GR.fr (GR.fr hG1 hq4.1 (by decide +kernel)) hq7.1 (by decide +kernel))
        have hk32 : RW Mc6 0 c := (RW.fr (RW.fr hk2 hq4.1 (by decide +kernel)) hq7.1 (by decide +kernel))
        refine R_callVp (as := [vI _]) hC dX12_library_126 mo_12_plans ml_12_190 (by decide) rfl rfl (c12_plans  hG31 hk32 (by omega) (by omega) hM) rfl rfl hRm (by decide) (by decide) (Nat.le_of_ble_eq_true rfl) (fun v35 Mc33 hq34 => ?_)
        have hFl : Fr [58, 63, 64, 65, 66, 67, 68, 69, 70, 71, 72, 77, 78, 79, 80] [(57, 4), (57, 22), (57, 23), (57, 30), (57, 47), (57, 48), (57, 49), (57, 52), (57, 53), (57, 54)] M Mc33 := Fr.tt hFb (hq34.1.mo (by simp) (by simp))
        have hTl : TRo M Mc33 := TRo.tr hTb (TRo.of hq34.1 (by decide) (by decide))
        have h4l : Mc33 57 4 = 0 := (hq34.1 57 4 (by decide) (by simp)).trans h4q
        refine R_if_ne hC dX12_library_129 (tgt := 136) (by decide) (fun hb129 => ?_) (fun hb129 => ?_)
        · skip
          refine R_iload_2 hC dX12_library_136 ?_
          refine R_iconst hC dX12_library_137 ⟨by decide, by decide⟩ ?_
          refine R_icmp_ne hC dX12_library_138 (tgt := 149) (by decide) (fun hb138 => ?_) (fun hb138 => ?_)
          · skip
            refine R_aload_0 hC dX12_library_149 ?_
            refine R_iload_1 hC dX12_library_150 ?_
            have hG36 : GR Mc33 := (GR.fr hG31 hq34.1 (by decide +kernel))
            have hk37 : RW Mc33 0 c := (RW.fr hk32 hq34.1 (by decide +kernel))
            refine R_callVq (as := [vI _]) hC dX12_library_151 mo_12_wonBy ml_12_375 (by decide) rfl rfl (c12_wonBy (P := (plT (insOf c))) hG36 hk37 hM hq34.2.2 (fun q q0 => plT_3 hI q0) (by omega) (by omega)) rfl rfl hRm (by decide) (by decide) (Nat.le_of_ble_eq_true rfl) ?_
            exact R_ireturn hC dX12_library_154 rfl (ret_P ⟨hFl, hTl, by (rw [if_pos hok2]; exact h4l), fun _ => by
                refine ⟨?_, ?_, ?_, ?_, ?_, ?_, ?_, ?_, ?_, ?_, ?_, ?_, ?_⟩ <;> intro h <;> first | exact absurd h (by decide) | exact absurd hb138 (by decide) | exact (itc_t (bP_nz (fun z => hb129 (hq34.2.1.trans z)))).symm | exact (itc_f (bP_z (hq34.2.1.symm.trans hb129))).symm⟩)
          · skip
            refine R_aload_0 hC dX12_library_141 ?_
            refine R_iload_1 hC dX12_library_142 ?_
            have hG38 : GR Mc33 := (GR.fr hG31 hq34.1 (by decide +kernel))
            have hk39 : RW Mc33 0 c := (RW.fr hk32 hq34.1 (by decide +kernel))
            refine R_callVq (as := [vI _]) hC dX12_library_143 mo_12_plannedBy ml_12_187 (by decide) rfl rfl (c12_plannedBy (P := (plT (insOf c))) hG38 hk39 hM hq34.2.2 (fun q q0 => plT_3 hI q0) (by omega) (by omega)) rfl rfl hRm (by decide) (by decide) (Nat.le_of_ble_eq_true rfl) ?_
            refine R_goto hC dX12_library_146 (tgt := 154) (by decide) ?_
            exact R_ireturn hC dX12_library_154 rfl (ret_P ⟨hFl, hTl, by (rw [if_pos hok2]; exact h4l), fun _ => by
                refine ⟨?_, ?_, ?_, ?_, ?_, ?_, ?_, ?_, ?_, ?_, ?_, ?_, ?_⟩ <;> intro h <;> first | exact absurd h (by decide) | exact absurd hb138 (by decide) | exact (itc_t (bP_nz (fun z => hb129 (hq34.2.1.trans z)))).symm | exact (itc_f (bP_z (hq34.2.1.symm.trans hb129))).symm⟩)
        · skip
          refine R_iconst hC dX12_library_132 ⟨by decide, by decide⟩ ?_
          refine R_goto hC dX12_library_133 (tgt := 154) (by decide) ?_
          exact R_ireturn hC dX12_library_154 rfl (ret_P ⟨hFl, hTl, by (rw [if_pos hok2]; exact h4l), fun _ => by
              refine ⟨?_, ?_, ?_, ?_, ?_, ?_, ?_, ?_, ?_, ?_, ?_, ?_, ?_⟩ <;> intro h <;> first | exact absurd h (by decide) | exact absurd hb138 (by decide) | exact (itc_t (bP_nz (fun z => hb129 (hq34.2.1.trans z)))).symm | exact (itc_f (bP_z (hq34.2.1.symm.trans hb129))).symm⟩)
      · skip
        subst hsw2
        refine R_tableIn hC dX12_library_31 (off := 124) (by omega) (by omega) rfl (tgt := 155) (by decide) ?_
        refine R_aload_0 hC dX12_library_155 ?_
        refine R_iload_1 hC dX12_library_156 ?_
        have hG40 : GR Mc6 := (GR.fr (GR.fr hG1 hq4.1 (by decide +kernel)) hq7.1 (by decide +kernel))
        have hk41 : RW Mc6 0 c := (RW.fr (RW.fr hk2 hq4.1 (by decide +kernel)) hq7.1 (by decide +kernel))
        refine R_callVp (as := [vI _]) hC dX12_library_157 mo_12_tighter ml_12_378 (by decide) rfl rfl (c12_tighter  hG40 hk41 hS (by omega) (by omega)) rfl rfl hRm (by decide) (by decide) (Nat.le_of_ble_eq_true rfl) (fun v44 Mc42 hq43 => ?_)
        have hFt : Fr [58, 63, 64, 65, 66, 67, 68, 69, 70, 71, 72, 77, 78, 79, 80] [(57, 4), (57, 22), (57, 23), (57, 30), (57, 47), (57, 48), (57, 49), (57, 52), (57, 53), (57, 54)] M Mc42 := Fr.tt hFb (hq43.1.mo (by simp) (by simp))
        have hTt : TRo M Mc42 := TRo.tr hTb (hq43.2.1)
        have h4t : Mc42 57 4 = 0 := (hq43.1 57 4 (by decide) (by simp)).trans h4q
        exact R_ireturn hC dX12_library_160 rfl (ret_P ⟨hFt, hTt, by (rw [if_pos hok2]; exact h4t), fun _ => by
            refine ⟨?_, ?_, ?_, ?_, ?_, ?_, ?_, ?_, ?_, ?_, ?_, ?_, ?_⟩ <;> intro h <;> first | exact absurd h (by decide) | exact hq43.2.2⟩)
      · skip
        subst hsw2
        refine R_tableIn hC dX12_library_31 (off := 130) (by omega) (by omega) rfl (tgt := 161) (by decide) ?_
        refine R_aload_0 hC dX12_library_161 ?_
        refine R_iload_1 hC dX12_library_162 ?_
        refine R_iload_2 hC dX12_library_163 ?_
        refine R_bipush hC dX12_library_164 (by decide +kernel) ⟨by decide, by decide⟩ ?_
        refine R_icmp_ne hC dX12_library_166 (tgt := 173) (by decide) (fun hb166 => ?_) (fun hb166 => ?_)
        · skip
          refine R_iconst hC dX12_library_173 ⟨by decide, by decide⟩ ?_
          have hG45 : GR Mc6 := (GR.fr (GR.fr hG1 hq4.1 (by decide +kernel)) hq7.1 (by decide +kernel))
          have hk46 : RW Mc6 0 c := (RW.fr (RW.fr hk2 hq4.1 (by decide +kernel)) hq7.1 (by decide +kernel))
          refine R_callVq (as := [vI _, vI _]) hC dX12_library_174 mo_12_lostWith ml_12_381 (by decide) rfl rfl (c12_lostWith  hG45 hk46 hS (by omega) (by omega)) rfl rfl hRm (by decide) (by decide) (Nat.le_of_ble_eq_true rfl) ?_
          exact R_ireturn hC dX12_library_177 rfl (ret_P ⟨hFb, hTb, by (rw [if_pos hok2]; exact h4q), fun _ => by
              refine ⟨?_, ?_, ?_, ?_, ?_, ?_, ?_, ?_, ?_, ?_, ?_, ?_, ?_⟩ <;> intro h <;> first | exact absurd h (by decide) | exact absurd hb166 (by decide) | exact (bits_congr (fun k _ _ => ⟨fun z => z.elim (fun y => absurd rfl y.1) (fun y => y.2), fun z => .inr ⟨rfl, z⟩⟩)) | exact (bits_congr (fun k _ _ => ⟨fun z => z.elim (fun y => y.2) (fun y => absurd y.1 (by decide)), fun z => .inl ⟨by decide, z⟩⟩))⟩)
        · skip
          refine R_iconst hC dX12_library_169 ⟨by decide, by decide⟩ ?_
          refine R_goto hC dX12_library_170 (tgt := 174) (by decide) ?_
          have hG47 : GR Mc6 := (GR.fr (GR.fr hG1 hq4.1 (by decide +kernel)) hq7.1 (by decide +kernel))
          have hk48 : RW Mc6 0 c := (RW.fr (RW.fr hk2 hq4.1 (by decide +kernel)) hq7.1 (by decide +kernel))
          refine R_callVq (as := [vI _, vI _]) hC dX12_library_174 mo_12_lostWith ml_12_381 (by decide) rfl rfl (c12_lostWith  hG47 hk48 hS (by omega) (by omega)) rfl rfl hRm (by decide) (by decide) (Nat.le_of_ble_eq_true rfl) ?_
          exact R_ireturn hC dX12_library_177 rfl (ret_P ⟨hFb, hTb, by (rw [if_pos hok2]; exact h4q), fun _ => by
              refine ⟨?_, ?_, ?_, ?_, ?_, ?_, ?_, ?_, ?_, ?_, ?_, ?_, ?_⟩ <;> intro h <;> first | exact absurd h (by decide) | exact absurd hb166 (by decide) | exact (bits_congr (fun k _ _ => ⟨fun z => z.elim (fun y => absurd rfl y.1) (fun y => y.2), fun z => .inr ⟨rfl, z⟩⟩)) | exact (bits_congr (fun k _ _ => ⟨fun z => z.elim (fun y => y.2) (fun y => absurd y.1 (by decide)), fun z => .inl ⟨by decide, z⟩⟩))⟩)
      · skip
        subst hsw2
        refine R_tableIn hC dX12_library_31 (off := 130) (by omega) (by omega) rfl (tgt := 161) (by decide) ?_
        refine R_aload_0 hC dX12_library_161 ?_
        refine R_iload_1 hC dX12_library_162 ?_
        refine R_iload_2 hC dX12_library_163 ?_
        refine R_bipush hC dX12_library_164 (by decide +kernel) ⟨by decide, by decide⟩ ?_
        refine R_icmp_ne hC dX12_library_166 (tgt := 173) (by decide) (fun hb166 => ?_) (fun hb166 => ?_)
        · skip
          refine R_iconst hC dX12_library_173 ⟨by decide, by decide⟩ ?_
          have hG49 : GR Mc6 := (GR.fr (GR.fr hG1 hq4.1 (by decide +kernel)) hq7.1 (by decide +kernel))
          have hk50 : RW Mc6 0 c := (RW.fr (RW.fr hk2 hq4.1 (by decide +kernel)) hq7.1 (by decide +kernel))
          refine R_callVq (as := [vI _, vI _]) hC dX12_library_174 mo_12_lostWith ml_12_381 (by decide) rfl rfl (c12_lostWith  hG49 hk50 hS (by omega) (by omega)) rfl rfl hRm (by decide) (by decide) (Nat.le_of_ble_eq_true rfl) ?_
          exact R_ireturn hC dX12_library_177 rfl (ret_P ⟨hFb, hTb, by (rw [if_pos hok2]; exact h4q), fun _ => by
              refine ⟨?_, ?_, ?_, ?_, ?_, ?_, ?_, ?_, ?_, ?_, ?_, ?_, ?_⟩ <;> intro h <;> first | exact absurd h (by decide) | exact absurd hb166 (by decide) | exact (bits_congr (fun k _ _ => ⟨fun z => z.elim (fun y => absurd rfl y.1) (fun y => y.2), fun z => .inr ⟨rfl, z⟩⟩)) | exact (bits_congr (fun k _ _ => ⟨fun z => z.elim (fun y => y.2) (fun y => absurd y.1 (by decide)), fun z => .inl ⟨by decide, z⟩⟩))⟩)
        · skip
          refine R_iconst hC dX12_library_169 ⟨by decide, by decide⟩ ?_
          refine R_goto hC dX12_library_170 (tgt := 174) (by decide) ?_
          have hG51 : GR Mc6 := (GR.fr (GR.fr hG1 hq4.1 (by decide +kernel)) hq7.1 (by decide +kernel))
          have hk52 : RW Mc6 0 c := (RW.fr (RW.fr hk2 hq4.1 (by decide +kernel)) hq7.1 (by decide +kernel))
          refine R_callVq (as := [vI _, vI _]) hC dX12_library_174 mo_12_lostWith ml_12_381 (by decide) rfl rfl (c12_lostWith  hG51 hk52 hS (by omega) (by omega)) rfl rfl hRm (by decide) (by decide) (Nat.le_of_ble_eq_true rfl) ?_
          exact R_ireturn hC dX12_library_177 rfl (ret_P ⟨hFb, hTb, by (rw [if_pos hok2]; exact h4q), fun _ => by
              refine ⟨?_, ?_, ?_, ?_, ?_, ?_, ?_, ?_, ?_, ?_, ?_, ?_, ?_⟩ <;> intro h <;> first | exact absurd h (by decide) | exact absurd hb166 (by decide) | exact (bits_congr (fun k _ _ => ⟨fun z => z.elim (fun y => absurd rfl y.1) (fun y => y.2), fun z => .inr ⟨rfl, z⟩⟩)) | exact (bits_congr (fun k _ _ => ⟨fun z => z.elim (fun y => y.2) (fun y => absurd y.1 (by decide)), fun z => .inl ⟨by decide, z⟩⟩))⟩)
      · skip
        subst hsw2
        refine R_tableIn hC dX12_library_31 (off := 147) (by omega) (by omega) rfl (tgt := 178) (by decide) ?_
        refine R_aload_0 hC dX12_library_178 ?_
        refine R_iload_1 hC dX12_library_179 ?_
        have hG53 : GR Mc6 := (GR.fr (GR.fr hG1 hq4.1 (by decide +kernel)) hq7.1 (by decide +kernel))
        have hk54 : RW Mc6 0 c := (RW.fr (RW.fr hk2 hq4.1 (by decide +kernel)) hq7.1 (by decide +kernel))
        refine R_callVp (as := [vI _]) hC dX12_library_180 mo_12_byTurns ml_12_385 (by decide) rfl rfl (c12_byTurns (b := b) hG53 hk54 hS hb (by omega) (by omega)) rfl rfl hRm (by decide) (by decide) (Nat.le_of_ble_eq_true rfl) (fun v57 Mc55 hq56 => ?_)
        have hFu : Fr [58, 63, 64, 65, 66, 67, 68, 69, 70, 71, 72, 77, 78, 79, 80] [(57, 4), (57, 22), (57, 23), (57, 30), (57, 47), (57, 48), (57, 49), (57, 52), (57, 53), (57, 54)] M Mc55 := Fr.tt hFb (hq56.1.mo (by simp) (by simp))
        have hTu : TRo M Mc55 := TRo.tr hTb (TRo.of hq56.1 (by decide) (by decide))
        have h4u : Mc55 57 4 = 0 := (hq56.1 57 4 (by decide) (by simp)).trans h4q
        exact R_ireturn hC dX12_library_183 rfl (ret_P ⟨hFu, hTu, by (rw [if_pos hok2]; exact h4u), fun _ => by
            refine ⟨?_, ?_, ?_, ?_, ?_, ?_, ?_, ?_, ?_, ?_, ?_, ?_, ?_⟩ <;> intro h <;> first | exact absurd h (by decide) | exact hq56.2.1⟩)
      · skip
        subst hsw2
        refine R_tableIn hC dX12_library_31 (off := 153) (by omega) (by omega) rfl (tgt := 184) (by decide) ?_
        refine R_aload_0 hC dX12_library_184 ?_
        refine R_iload_1 hC dX12_library_185 ?_
        have hG58 : GR Mc6 := (GR.fr (GR.fr hG1 hq4.1 (by decide +kernel)) hq7.1 (by decide +kernel))
        have hk59 : RW Mc6 0 c := (RW.fr (RW.fr hk2 hq4.1 (by decide +kernel)) hq7.1 (by decide +kernel))
        refine R_callVp (as := [vI _]) hC dX12_library_186 mo_12_byTurns ml_12_385 (by decide) rfl rfl (c12_byTurns (b := b) hG58 hk59 hS hb (by omega) (by omega)) rfl rfl hRm (by decide) (by decide) (Nat.le_of_ble_eq_true rfl) (fun v62 Mc60 hq61 => ?_)
        have hFw : Fr [58, 63, 64, 65, 66, 67, 68, 69, 70, 71, 72, 77, 78, 79, 80] [(57, 4), (57, 22), (57, 23), (57, 30), (57, 47), (57, 48), (57, 49), (57, 52), (57, 53), (57, 54)] M Mc60 := Fr.tt hFb (hq61.1.mo (by simp) (by simp))
        have hTw : TRo M Mc60 := TRo.tr hTb (TRo.of hq61.1 (by decide) (by decide))
        have h4w : Mc60 57 4 = 0 := (hq61.1 57 4 (by decide) (by simp)).trans h4q
        refine R_pop hC dX12_library_189 rfl ?_
        refine R_aload_0 hC dX12_library_190 ?_
        refine R_getI hC dX12_library_191 fl_12_314 (by decide) rfl (by decide) (by decide) (fi := 47) rfl ?_
        exact R_ireturn hC dX12_library_194 rfl (ret_P ⟨hFw, hTw, by (rw [if_pos hok2]; exact h4w), fun _ => by
            refine ⟨?_, ?_, ?_, ?_, ?_, ?_, ?_, ?_, ?_, ?_, ?_, ?_, ?_⟩ <;> intro h <;> first | exact absurd h (by decide) | exact hq61.2.2⟩)
      · skip
        subst hsw2
        refine R_tableIn hC dX12_library_31 (off := 164) (by omega) (by omega) rfl (tgt := 195) (by decide) ?_
        refine R_aload_0 hC dX12_library_195 ?_
        refine R_iconst hC dX12_library_196 ⟨by decide, by decide⟩ ?_
        refine R_iload_1 hC dX12_library_197 ?_
        have hG63 : GR Mc6 := (GR.fr (GR.fr hG1 hq4.1 (by decide +kernel)) hq7.1 (by decide +kernel))
        have hk64 : RW Mc6 0 c := (RW.fr (RW.fr hk2 hq4.1 (by decide +kernel)) hq7.1 (by decide +kernel))
        refine R_callVp (as := [vI _, vI _]) hC dX12_library_198 mo_12_spaceBy ml_12_165 (by decide) rfl rfl (c12_spaceBy  hG63 hk64 (by omega) (by omega) hM) rfl rfl hRm (by decide) (by decide) (Nat.le_of_ble_eq_true rfl) (fun v67 Mc65 hq66 => ?_)
        have hFs : Fr [58, 63, 64, 65, 66, 67, 68, 69, 70, 71, 72, 77, 78, 79, 80] [(57, 4), (57, 22), (57, 23), (57, 30), (57, 47), (57, 48), (57, 49), (57, 52), (57, 53), (57, 54)] M Mc65 := Fr.tt hFb (hq66.1.mo (by simp) (by simp))
        have hTs : TRo M Mc65 := TRo.tr hTb (TRo.of hq66.1 (by decide) (by decide))
        have h4s : Mc65 57 4 = 0 := (hq66.1 57 4 (by decide) (by simp)).trans h4q
        exact R_ireturn hC dX12_library_201 rfl (ret_P ⟨hFs, hTs, by (rw [if_pos hok2]; exact h4s), fun _ => by
            refine ⟨?_, ?_, ?_, ?_, ?_, ?_, ?_, ?_, ?_, ?_, ?_, ?_, ?_⟩ <;> intro h <;> first | exact absurd h (by decide) | exact hq66.2⟩)
    · skip
      have hnoW := rt_n h4b hvb hb25
      have hno2 : ¬ ((0 ≤ x ∧ x < c 121) ∧ 0 ≤ w ∧ w ≤ 12) := fun z => hnoW z.2
      have hF9 := hFb
      have hT9 := hTb
      have h49 := h4b.trans (if_neg hnoW)
      refine R_iconst hC dX12_library_28 ⟨by decide, by decide⟩ ?_
      exact R_ireturn hC dX12_library_29 rfl (ret_P ⟨hF9, hT9, by (rw [if_neg hno2]; exact h49), fun z => by (rw [if_neg hno2] at z; cases z)⟩)
theorem dX12_work_0 : decode cX12_work 0 = .ok (.aload_n 0, 1) := by decide +kernel
theorem dX12_work_1 : decode cX12_work 1 = .ok (.iconst 0, 1) := by decide +kernel
theorem dX12_work_2 : decode cX12_work 2 = .ok (.putfield 84, 3) := by decide +kernel
theorem dX12_work_5 : decode cX12_work 5 = .ok (.aload_n 0, 1) := by decide +kernel
theorem dX12_work_6 : decode cX12_work 6 = .ok (.iload_n 1, 1) := by decide +kernel
theorem dX12_work_7 : decode cX12_work 7 = .ok (.invokevirtual 391, 3) := by decide +kernel
theorem dX12_work_10 : decode cX12_work 10 = .ok (.ifCond .eq 18, 3) := by decide +kernel
theorem dX12_work_13 : decode cX12_work 13 = .ok (.aload_n 0, 1) := by decide +kernel
theorem dX12_work_14 : decode cX12_work 14 = .ok (.iload_n 2, 1) := by decide +kernel
theorem dX12_work_15 : decode cX12_work 15 = .ok (.iconst 0, 1) := by decide +kernel
theorem dX12_work_16 : decode cX12_work 16 = .ok (.bipush 10, 2) := by decide +kernel
theorem dX12_work_18 : decode cX12_work 18 = .ok (.invokestatic 235, 3) := by decide +kernel
theorem dX12_work_21 : decode cX12_work 21 = .ok (.iconst 1, 1) := by decide +kernel
theorem dX12_work_22 : decode cX12_work 22 = .ok (.invokevirtual 269, 3) := by decide +kernel
theorem dX12_work_25 : decode cX12_work 25 = .ok (.ifCond .ne 5, 3) := by decide +kernel
theorem dX12_work_28 : decode cX12_work 28 = .ok (.iconst 0, 1) := by decide +kernel
theorem dX12_work_29 : decode cX12_work 29 = .ok (.ireturn, 1) := by decide +kernel
theorem dX12_work_30 : decode cX12_work 30 = .ok (.iload_n 2, 1) := by decide +kernel
theorem dX12_work_31 : decode cX12_work 31 = .ok (.tableswitch 151 0 9 #[53, 60, 70, 77, 84, 105, 123, 129, 135, 145], 53) := by decide +kernel
theorem dX12_work_84 : decode cX12_work 84 = .ok (.aload_n 0, 1) := by decide +kernel
theorem dX12_work_85 : decode cX12_work 85 = .ok (.getfield 13, 3) := by decide +kernel
theorem dX12_work_88 : decode cX12_work 88 = .ok (.iload_n 1, 1) := by decide +kernel
theorem dX12_work_89 : decode cX12_work 89 = .ok (.iaload, 1) := by decide +kernel
theorem dX12_work_90 : decode cX12_work 90 = .ok (.ireturn, 1) := by decide +kernel
theorem dX12_work_91 : decode cX12_work 91 = .ok (.aload_n 0, 1) := by decide +kernel
theorem dX12_work_92 : decode cX12_work 92 = .ok (.getfield 9, 3) := by decide +kernel
theorem dX12_work_95 : decode cX12_work 95 = .ok (.bipush 100, 2) := by decide +kernel
theorem dX12_work_97 : decode cX12_work 97 = .ok (.iload_n 1, 1) := by decide +kernel
theorem dX12_work_98 : decode cX12_work 98 = .ok (.iadd, 1) := by decide +kernel
theorem dX12_work_99 : decode cX12_work 99 = .ok (.iaload, 1) := by decide +kernel
theorem dX12_work_100 : decode cX12_work 100 = .ok (.ireturn, 1) := by decide +kernel
theorem dX12_work_101 : decode cX12_work 101 = .ok (.aload_n 0, 1) := by decide +kernel
theorem dX12_work_102 : decode cX12_work 102 = .ok (.iconst 0, 1) := by decide +kernel
theorem dX12_work_103 : decode cX12_work 103 = .ok (.iload_n 1, 1) := by decide +kernel
theorem dX12_work_104 : decode cX12_work 104 = .ok (.invokevirtual 108, 3) := by decide +kernel
theorem dX12_work_107 : decode cX12_work 107 = .ok (.ireturn, 1) := by decide +kernel
theorem dX12_work_108 : decode cX12_work 108 = .ok (.aload_n 0, 1) := by decide +kernel
theorem dX12_work_109 : decode cX12_work 109 = .ok (.iconst 0, 1) := by decide +kernel
theorem dX12_work_110 : decode cX12_work 110 = .ok (.iload_n 1, 1) := by decide +kernel
theorem dX12_work_111 : decode cX12_work 111 = .ok (.invokevirtual 120, 3) := by decide +kernel
theorem dX12_work_114 : decode cX12_work 114 = .ok (.ireturn, 1) := by decide +kernel
theorem dX12_work_115 : decode cX12_work 115 = .ok (.iconst 0, 1) := by decide +kernel
theorem dX12_work_116 : decode cX12_work 116 = .ok (.aload_n 0, 1) := by decide +kernel
theorem dX12_work_117 : decode cX12_work 117 = .ok (.getfield 9, 3) := by decide +kernel
theorem dX12_work_120 : decode cX12_work 120 = .ok (.bipush 100, 2) := by decide +kernel
theorem dX12_work_122 : decode cX12_work 122 = .ok (.iload_n 1, 1) := by decide +kernel
theorem dX12_work_123 : decode cX12_work 123 = .ok (.iadd, 1) := by decide +kernel
theorem dX12_work_124 : decode cX12_work 124 = .ok (.iaload, 1) := by decide +kernel
theorem dX12_work_125 : decode cX12_work 125 = .ok (.aload_n 0, 1) := by decide +kernel
theorem dX12_work_126 : decode cX12_work 126 = .ok (.iconst 0, 1) := by decide +kernel
theorem dX12_work_127 : decode cX12_work 127 = .ok (.iload_n 1, 1) := by decide +kernel
theorem dX12_work_128 : decode cX12_work 128 = .ok (.invokevirtual 108, 3) := by decide +kernel
theorem dX12_work_131 : decode cX12_work 131 = .ok (.isub, 1) := by decide +kernel
theorem dX12_work_132 : decode cX12_work 132 = .ok (.invokestatic 99, 3) := by decide +kernel
theorem dX12_work_135 : decode cX12_work 135 = .ok (.ireturn, 1) := by decide +kernel
theorem dX12_work_136 : decode cX12_work 136 = .ok (.aload_n 0, 1) := by decide +kernel
theorem dX12_work_137 : decode cX12_work 137 = .ok (.iconst 0, 1) := by decide +kernel
theorem dX12_work_138 : decode cX12_work 138 = .ok (.invokevirtual 190, 3) := by decide +kernel
theorem dX12_work_141 : decode cX12_work 141 = .ok (.ifCond .eq 11, 3) := by decide +kernel
theorem dX12_work_144 : decode cX12_work 144 = .ok (.aload_n 0, 1) := by decide +kernel
theorem dX12_work_145 : decode cX12_work 145 = .ok (.iload_n 1, 1) := by decide +kernel
theorem dX12_work_146 : decode cX12_work 146 = .ok (.invokevirtual 394, 3) := by decide +kernel
theorem dX12_work_149 : decode cX12_work 149 = .ok (.goto 4, 3) := by decide +kernel
theorem dX12_work_152 : decode cX12_work 152 = .ok (.iconst (-1), 1) := by decide +kernel
theorem dX12_work_153 : decode cX12_work 153 = .ok (.ireturn, 1) := by decide +kernel
theorem dX12_work_154 : decode cX12_work 154 = .ok (.aload_n 0, 1) := by decide +kernel
theorem dX12_work_155 : decode cX12_work 155 = .ok (.iload_n 1, 1) := by decide +kernel
theorem dX12_work_156 : decode cX12_work 156 = .ok (.invokevirtual 397, 3) := by decide +kernel
theorem dX12_work_159 : decode cX12_work 159 = .ok (.ireturn, 1) := by decide +kernel
theorem dX12_work_160 : decode cX12_work 160 = .ok (.aload_n 0, 1) := by decide +kernel
theorem dX12_work_161 : decode cX12_work 161 = .ok (.iload_n 1, 1) := by decide +kernel
theorem dX12_work_162 : decode cX12_work 162 = .ok (.invokevirtual 400, 3) := by decide +kernel
theorem dX12_work_165 : decode cX12_work 165 = .ok (.ireturn, 1) := by decide +kernel
theorem dX12_work_166 : decode cX12_work 166 = .ok (.aload_n 0, 1) := by decide +kernel
theorem dX12_work_167 : decode cX12_work 167 = .ok (.getfield 9, 3) := by decide +kernel
theorem dX12_work_170 : decode cX12_work 170 = .ok (.bipush 108, 2) := by decide +kernel
theorem dX12_work_172 : decode cX12_work 172 = .ok (.iload_n 1, 1) := by decide +kernel
theorem dX12_work_173 : decode cX12_work 173 = .ok (.iadd, 1) := by decide +kernel
theorem dX12_work_174 : decode cX12_work 174 = .ok (.iaload, 1) := by decide +kernel
theorem dX12_work_175 : decode cX12_work 175 = .ok (.ireturn, 1) := by decide +kernel
theorem dX12_work_176 : decode cX12_work 176 = .ok (.aload_n 0, 1) := by decide +kernel
theorem dX12_work_177 : decode cX12_work 177 = .ok (.iload_n 1, 1) := by decide +kernel
theorem dX12_work_178 : decode cX12_work 178 = .ok (.invokevirtual 403, 3) := by decide +kernel
theorem dX12_work_181 : decode cX12_work 181 = .ok (.ireturn, 1) := by decide +kernel
theorem dX12_work_182 : decode cX12_work 182 = .ok (.aload_n 0, 1) := by decide +kernel
theorem dX12_work_183 : decode cX12_work 183 = .ok (.getfield 9, 3) := by decide +kernel
theorem dX12_work_186 : decode cX12_work 186 = .ok (.bipush 100, 2) := by decide +kernel
theorem dX12_work_188 : decode cX12_work 188 = .ok (.iload_n 1, 1) := by decide +kernel
theorem dX12_work_189 : decode cX12_work 189 = .ok (.iadd, 1) := by decide +kernel
theorem dX12_work_190 : decode cX12_work 190 = .ok (.iaload, 1) := by decide +kernel
theorem dX12_work_191 : decode cX12_work 191 = .ok (.ifCond .ne 7, 3) := by decide +kernel
theorem dX12_work_194 : decode cX12_work 194 = .ok (.iconst (-1), 1) := by decide +kernel
theorem dX12_work_195 : decode cX12_work 195 = .ok (.goto 22, 3) := by decide +kernel
theorem dX12_work_198 : decode cX12_work 198 = .ok (.aload_n 0, 1) := by decide +kernel
theorem dX12_work_199 : decode cX12_work 199 = .ok (.bipush 100, 2) := by decide +kernel
theorem dX12_work_201 : decode cX12_work 201 = .ok (.iload_n 1, 1) := by decide +kernel
theorem dX12_work_202 : decode cX12_work 202 = .ok (.iadd, 1) := by decide +kernel
theorem dX12_work_203 : decode cX12_work 203 = .ok (.aload_n 0, 1) := by decide +kernel
theorem dX12_work_204 : decode cX12_work 204 = .ok (.getfield 9, 3) := by decide +kernel
theorem dX12_work_207 : decode cX12_work 207 = .ok (.bipush 100, 2) := by decide +kernel
theorem dX12_work_209 : decode cX12_work 209 = .ok (.iload_n 1, 1) := by decide +kernel
theorem dX12_work_210 : decode cX12_work 210 = .ok (.iadd, 1) := by decide +kernel
theorem dX12_work_211 : decode cX12_work 211 = .ok (.iaload, 1) := by decide +kernel
theorem dX12_work_212 : decode cX12_work 212 = .ok (.iconst 1, 1) := by decide +kernel
theorem dX12_work_213 : decode cX12_work 213 = .ok (.isub, 1) := by decide +kernel
theorem dX12_work_214 : decode cX12_work 214 = .ok (.invokevirtual 388, 3) := by decide +kernel
theorem dX12_work_217 : decode cX12_work 217 = .ok (.ireturn, 1) := by decide +kernel
set_option maxHeartbeats 2000000 in
theorem c12_work {G : Gl} {l : Launch}  {M : Mem} {c : Int → Int} {w z : Int} {b : Int → Int} (hG : GR M) (hK : RW M 0 c) (hS : SP c) : Ct G LY 82 l 8 m12_work [vR 57, vI w, vI z] M (RP (fun v M' => Fr [58, 63, 64, 65, 66, 67, 68, 69, 70, 71, 72, 77, 78, 79, 80] [(57, 4), (57, 22), (57, 23), (57, 30), (57, 47), (57, 48), (57, 49), (57, 52), (57, 53), (57, 54)] M M' ∧ TRo M M' ∧ M' 57 4 = (if (0 ≤ w ∧ w < c 122) ∧ 0 ≤ z ∧ z ≤ 10 then (0 : Int) else 1) ∧ ((if (0 ≤ w ∧ w < c 122) ∧ 0 ≤ z ∧ z ≤ 10 then (0 : Int) else 1) = 0 → (z = 0 → v = c (10 + w)) ∧ (z = 1 → v = c (16 + w)) ∧ (z = 2 → v = allOf c w) ∧ (z = 3 → v = spr c w) ∧ (z = 4 → v = max 0 (c (16 + w) - allOf c w)) ∧ (z = 5 → v = itc (planI (insOf c)) (sm (c 121).toNat (fun x => plT (insOf c) (6 * x + w))) (-1)) ∧ (z = 6 → ((¬ planI (insOf c) ∧ v = -1) ∨ (planI (insOf c) ∧ FF (fun m => planI (insOf (upd1 c (16 + w) (c (16 + w) + m)))) 15 v))) ∧ (z = 7 → v = bits (c 121).toNat (fun k => 0 < c (28 + k * 6 + w))) ∧ (z = 8 → v = c (22 + w)) ∧ (z = 9 → v = safV c w) ∧ (z = 10 → (c (16 + w) = 0 → v = -1) ∧ (c (16 + w) ≠ 0 → v = if SPC (insOf c) = -1 then -1 else SPC (insOf (upd1 c (16 + w) (c (16 + w) - 1))) - SPC (insOf c)))))) := by
  refine R_start (by decide +kernel) (Nat.le_of_ble_eq_true rfl) (fun C hC hRm hlau => ?_)
  show RZ G LY C (Zn G LY 82 C (RP (fun v M' => Fr [58, 63, 64, 65, 66, 67, 68, 69, 70, 71, 72, 77, 78, 79, 80] [(57, 4), (57, 22), (57, 23), (57, 30), (57, 47), (57, 48), (57, 49), (57, 52), (57, 53), (57, 54)] M M' ∧ TRo M M' ∧ M' 57 4 = (if (0 ≤ w ∧ w < c 122) ∧ 0 ≤ z ∧ z ≤ 10 then (0 : Int) else 1) ∧ ((if (0 ≤ w ∧ w < c 122) ∧ 0 ≤ z ∧ z ≤ 10 then (0 : Int) else 1) = 0 → (z = 0 → v = c (10 + w)) ∧ (z = 1 → v = c (16 + w)) ∧ (z = 2 → v = allOf c w) ∧ (z = 3 → v = spr c w) ∧ (z = 4 → v = max 0 (c (16 + w) - allOf c w)) ∧ (z = 5 → v = itc (planI (insOf c)) (sm (c 121).toNat (fun x => plT (insOf c) (6 * x + w))) (-1)) ∧ (z = 6 → ((¬ planI (insOf c) ∧ v = -1) ∨ (planI (insOf c) ∧ FF (fun m => planI (insOf (upd1 c (16 + w) (c (16 + w) + m)))) 15 v))) ∧ (z = 7 → v = bits (c 121).toNat (fun k => 0 < c (28 + k * 6 + w))) ∧ (z = 8 → v = c (22 + w)) ∧ (z = 9 → v = safV c w) ∧ (z = 10 → (c (16 + w) = 0 → v = -1) ∧ (c (16 + w) ≠ 0 → v = if SPC (insOf c) = -1 then -1 else SPC (insOf (upd1 c (16 + w) (c (16 + w) - 1))) - SPC (insOf c))))))) 0 0 82 0 [some (vR 57), some (vI w), some (vI z)] [] M
  have hM := hS.m
  have hI := hM.I
  have hL := hM.1.1
  have hW := hM.1.2
  refine R_aload_0 hC dX12_work_0 ?_
  refine R_iconst hC dX12_work_1 ⟨by decide, by decide⟩ ?_
  refine R_putI hC dX12_work_2 fl_12_84 (by decide) rfl (by decide) (by decide) (fi := 4) rfl ?_
  refine R_aload_0 hC dX12_work_5 ?_
  refine R_iload_1 hC dX12_work_6 ?_
  have hFz : Fr [58, 63, 64, 65, 66, 67, 68, 69, 70, 71, 72, 77, 78, 79, 80] [(57, 4), (57, 22), (57, 23), (57, 30), (57, 47), (57, 48), (57, 49), (57, 52), (57, 53), (57, 54)] M (uM M 57 4 0) := Fr.uB Fr.rf (by decide)
  have hTz : TRo M (uM M 57 4 0) := TRo.rf.h (by decide)
  have hG1 : GR (uM M 57 4 0) := (GR.uF hG (by decide +kernel) (by decide))
  have hk2 : RW (uM M 57 4 0) 0 c := (RW.uf hK (by decide))
  refine R_callVp (as := [vI _]) hC dX12_work_7 mo_12_isWork ml_12_391 (by decide) rfl rfl (c12_isWork  hG1 hk2 hS) rfl rfl hRm (by decide) (by decide) (Nat.le_of_ble_eq_true rfl) (fun v5 Mc3 hq4 => ?_)
  have hFa : Fr [58, 63, 64, 65, 66, 67, 68, 69, 70, 71, 72, 77, 78, 79, 80] [(57, 4), (57, 22), (57, 23), (57, 30), (57, 47), (57, 48), (57, 49), (57, 52), (57, 53), (57, 54)] M Mc3 := Fr.tt hFz (hq4.1.mo (by simp) (by simp))
  have hTa : TRo M Mc3 := TRo.tr hTz (TRo.of hq4.1 (by decide) (by decide))
  have h4a := rt_e hq4.2.1 uM_same
  have hva := hq4.2.2
  refine R_if_eq hC dX12_work_10 (tgt := 28) (by decide) (fun hb10 => ?_) (fun hb10 => ?_)
  · skip
    have hno := rt_n h4a hva hb10
    have hno2 : ¬ ((0 ≤ w ∧ w < c 122) ∧ 0 ≤ z ∧ z ≤ 10) := fun z => hno z.1
    have hF9 := hFa
    have hT9 := hTa
    have h49 := h4a.trans (if_neg hno)
    refine R_iconst hC dX12_work_28 ⟨by decide, by decide⟩ ?_
    exact R_ireturn hC dX12_work_29 rfl (ret_P ⟨hF9, hT9, by (rw [if_neg hno2]; exact h49), fun z => by (rw [if_neg hno2] at z; cases z)⟩)
  · skip
    have hokL := rt_y h4a hva hb10
    refine R_aload_0 hC dX12_work_13 ?_
    refine R_iload_2 hC dX12_work_14 ?_
    refine R_iconst hC dX12_work_15 ⟨by decide, by decide⟩ ?_
    refine R_bipush hC dX12_work_16 (by decide +kernel) ⟨by decide, by decide⟩ ?_
    refine R_callSq (as := [vI _, vI _, vI _]) hC dX12_work_18 mo_12_within ml_12_235 (c12_within  ) rfl rfl hRm (by decide) (by decide) (Nat.le_of_ble_eq_true rfl) ?_
    refine R_iconst hC dX12_work_21 ⟨by decide, by decide⟩ ?_
    refine R_callVp (as := [vI _, vI _]) hC dX12_work_22 mo_12_right ml_12_269 (by decide) rfl rfl (c12_right  ) rfl rfl hRm (by decide) (by decide) (Nat.le_of_ble_eq_true rfl) (fun v8 Mc6 hq7 => ?_)
    have hFb : Fr [58, 63, 64, 65, 66, 67, 68, 69, 70, 71, 72, 77, 78, 79, 80] [(57, 4), (57, 22), (57, 23), (57, 30), (57, 47), (57, 48), (57, 49), (57, 52), (57, 53), (57, 54)] M Mc6 := Fr.tt hFa (hq7.1.mo (by simp) (by simp))
    have hTb : TRo M Mc6 := TRo.tr hTa (TRo.of hq7.1 (by decide) (by decide))
    have h4b := rt_d hq7.2.1 (h4a.trans (if_pos hokL))
    have hvb := hq7.2.2
    refine R_if_ne hC dX12_work_25 (tgt := 30) (by decide) (fun hb25 => ?_) (fun hb25 => ?_)
    · skip
      have hokW := rt_y h4b hvb hb25
      have hok2 : (0 ≤ w ∧ w < c 122) ∧ 0 ≤ z ∧ z ≤ 10 := ⟨hokL, hokW⟩
      have h4q := h4b.trans (if_pos hokW)
      have bxx := hS.2.2.1 w (by omega) (by omega)
      have ball := hM.all (show 0 ≤ w by omega) (show w < 6 by omega)
      refine R_iload_2 hC dX12_work_30 ?_
      by_cases hsw : z < 0 ∨ 9 < z
      · skip
        refine R_tableOut hC dX12_work_31 hsw (tgt := 182) (by decide) ?_
        refine R_aload_0 hC dX12_work_182 ?_
        have hG9 : GR Mc6 := (GR.fr (GR.fr hG1 hq4.1 (by decide +kernel)) hq7.1 (by decide +kernel))
        refine R_getR hC dX12_work_183 fl_12_9 (by decide) rfl (by decide) (by decide) (fi := 0) rfl (r := 58) (gr_57_0 hG9) ?_
        refine R_bipush hC dX12_work_186 (by decide +kernel) ⟨by decide, by decide⟩ ?_
        refine R_iload_1 hC dX12_work_188 ?_
        refine R_iadd hC dX12_work_189 ⟨by omega, by omega⟩ ?_
        have hk10 : RW Mc6 0 c := (RW.fr (RW.fr hk2 hq4.1 (by decide +kernel)) hq7.1 (by decide +kernel))
        refine R_ialoadE hC dX12_work_190 (by decide) rfl (by omega) (by omega) (hk10.r2 (k := 16 + w) (by omega) (by omega) (by omega)) ?_
        refine R_if_ne hC dX12_work_191 (tgt := 198) (by decide) (fun hb191 => ?_) (fun hb191 => ?_)
        · skip
          refine R_aload_0 hC dX12_work_198 ?_
          refine R_bipush hC dX12_work_199 (by decide +kernel) ⟨by decide, by decide⟩ ?_
          refine R_iload_1 hC dX12_work_201 ?_
          refine R_iadd hC dX12_work_202 ⟨by omega, by omega⟩ ?_
          refine R_aload_0 hC dX12_work_203 ?_
          refine R_getR hC dX12_work_204 fl_12_9 (by decide) rfl (by decide) (by decide) (fi := 0) rfl (r := 58) (gr_57_0 hG9) ?_
          refine R_bipush hC dX12_work_207 (by decide +kernel) ⟨by decide, by decide⟩ ?_
          refine R_iload_1 hC dX12_work_209 ?_
          refine R_iadd hC dX12_work_210 ⟨by omega, by omega⟩ ?_
          refine R_ialoadE hC dX12_work_211 (by decide) rfl (by omega) (by omega) (hk10.r2 (k := 16 + w) (by omega) (by omega) (by omega)) ?_
          refine R_iconst hC dX12_work_212 ⟨by decide, by decide⟩ ?_
          refine R_isub hC dX12_work_213 ⟨by omega, by omega⟩ ?_
          refine R_callVp (as := [vI _, vI _]) hC dX12_work_214 mo_12_priceBy ml_12_388 (by decide) rfl rfl (c12_priceBy (k := (16 + w)) hG9 hk10 hS (.inr (by omega)) (by (rw [mj2 (by omega) (by omega)]; omega)) (hM.up (.inr (.inl ⟨by omega, by omega, by omega, by omega⟩)))) rfl rfl hRm (by decide) (by decide) (Nat.le_of_ble_eq_true rfl) (fun v13 Mc11 hq12 => ?_)
          have hFp : Fr [58, 63, 64, 65, 66, 67, 68, 69, 70, 71, 72, 77, 78, 79, 80] [(57, 4), (57, 22), (57, 23), (57, 30), (57, 47), (57, 48), (57, 49), (57, 52), (57, 53), (57, 54)] M Mc11 := Fr.tt hFb (hq12.1.mo (by simp) (by simp))
          have hTp : TRo M Mc11 := TRo.tr hTb (hq12.2.1)
          have h4p : Mc11 57 4 = 0 := (hq12.1 57 4 (by decide) (by simp)).trans h4q
          have hz9 : (c (16 + w) = 0 → v13 = -1) ∧ (c (16 + w) ≠ 0 → v13 = if SPC (insOf c) = -1 then -1 else SPC (insOf (upd1 c (16 + w) (c (16 + w) - 1))) - SPC (insOf c)) := ⟨fun y => absurd y hb191, fun _ => hq12.2.2⟩
          have hF8 := hFp
          have hT8 := hTp
          have h48 := h4p
          exact R_ireturn hC dX12_work_217 rfl (ret_P ⟨hF8, hT8, by (rw [if_pos hok2]; exact h48), fun _ => by
              refine ⟨?_, ?_, ?_, ?_, ?_, ?_, ?_, ?_, ?_, ?_, ?_⟩ <;> intro h <;> first | exact absurd h (by decide) | exact absurd h (by omega) | exact hz9⟩)
        · skip
          have hz9 : (c (16 + w) = 0 → (-1 : Int) = -1) ∧ (c (16 + w) ≠ 0 → (-1 : Int) = if SPC (insOf c) = -1 then -1 else SPC (insOf (upd1 c (16 + w) (c (16 + w) - 1))) - SPC (insOf c)) := ⟨fun _ => rfl, fun y => absurd hb191 y⟩
          have hF8 := hFb
          have hT8 := hTb
          have h48 := h4q
          refine R_iconst hC dX12_work_194 ⟨by decide, by decide⟩ ?_
          refine R_goto hC dX12_work_195 (tgt := 217) (by decide) ?_
          exact R_ireturn hC dX12_work_217 rfl (ret_P ⟨hF8, hT8, by (rw [if_pos hok2]; exact h48), fun _ => by
              refine ⟨?_, ?_, ?_, ?_, ?_, ?_, ?_, ?_, ?_, ?_, ?_⟩ <;> intro h <;> first | exact absurd h (by decide) | exact absurd h (by omega) | exact hz9⟩)
      have hsw2 : z = 0 ∨ z = 1 ∨ z = 2 ∨ z = 3 ∨ z = 4 ∨ z = 5 ∨ z = 6 ∨ z = 7 ∨ z = 8 ∨ z = 9 := by omega
      rcases hsw2 with hsw2 | hsw2 | hsw2 | hsw2 | hsw2 | hsw2 | hsw2 | hsw2 | hsw2 | hsw2
      · skip
        subst hsw2
        refine R_tableIn hC dX12_work_31 (off := 53) (by omega) (by omega) rfl (tgt := 84) (by decide) ?_
        refine R_aload_0 hC dX12_work_84 ?_
        have hG14 : GR Mc6 := (GR.fr (GR.fr hG1 hq4.1 (by decide +kernel)) hq7.1 (by decide +kernel))
        refine R_getR hC dX12_work_85 fl_12_13 (by decide) rfl (by decide) (by decide) (fi := 1) rfl (r := 59) (gr_57_1 hG14) ?_
        refine R_iload_1 hC dX12_work_88 ?_
        have hk15 : RW Mc6 0 c := (RW.fr (RW.fr hk2 hq4.1 (by decide +kernel)) hq7.1 (by decide +kernel))
        refine R_ialoadE hC dX12_work_89 (by decide) rfl (by omega) (by omega) (hk15.rs w (by omega) (by omega) (by omega)) ?_
        exact R_ireturn hC dX12_work_90 rfl (ret_P ⟨hFb, hTb, by (rw [if_pos hok2]; exact h4q), fun _ => by
            refine ⟨?_, ?_, ?_, ?_, ?_, ?_, ?_, ?_, ?_, ?_, ?_⟩ <;> intro h <;> first | exact absurd h (by decide) | exact rfl⟩)
      · skip
        subst hsw2
        refine R_tableIn hC dX12_work_31 (off := 60) (by omega) (by omega) rfl (tgt := 91) (by decide) ?_
        refine R_aload_0 hC dX12_work_91 ?_
        have hG16 : GR Mc6 := (GR.fr (GR.fr hG1 hq4.1 (by decide +kernel)) hq7.1 (by decide +kernel))
        refine R_getR hC dX12_work_92 fl_12_9 (by decide) rfl (by decide) (by decide) (fi := 0) rfl (r := 58) (gr_57_0 hG16) ?_
        refine R_bipush hC dX12_work_95 (by decide +kernel) ⟨by decide, by decide⟩ ?_
        refine R_iload_1 hC dX12_work_97 ?_
        refine R_iadd hC dX12_work_98 ⟨by omega, by omega⟩ ?_
        have hk17 : RW Mc6 0 c := (RW.fr (RW.fr hk2 hq4.1 (by decide +kernel)) hq7.1 (by decide +kernel))
        refine R_ialoadE hC dX12_work_99 (by decide) rfl (by omega) (by omega) (hk17.r2 (k := 16 + w) (by omega) (by omega) (by omega)) ?_
        exact R_ireturn hC dX12_work_100 rfl (ret_P ⟨hFb, hTb, by (rw [if_pos hok2]; exact h4q), fun _ => by
            refine ⟨?_, ?_, ?_, ?_, ?_, ?_, ?_, ?_, ?_, ?_, ?_⟩ <;> intro h <;> first | exact absurd h (by decide) | exact rfl⟩)
      · skip
        subst hsw2
        refine R_tableIn hC dX12_work_31 (off := 70) (by omega) (by omega) rfl (tgt := 101) (by decide) ?_
        refine R_aload_0 hC dX12_work_101 ?_
        refine R_iconst hC dX12_work_102 ⟨by decide, by decide⟩ ?_
        refine R_iload_1 hC dX12_work_103 ?_
        have hG18 : GR Mc6 := (GR.fr (GR.fr hG1 hq4.1 (by decide +kernel)) hq7.1 (by decide +kernel))
        have hk19 : RW Mc6 0 c := (RW.fr (RW.fr hk2 hq4.1 (by decide +kernel)) hq7.1 (by decide +kernel))
        refine R_callVq (as := [vI _, vI _]) hC dX12_work_104 mo_12_allOf ml_12_108 (by decide) rfl rfl (c12_allOf  hG18 hk19 (by omega) (by omega) (by omega) (by omega) hM) rfl rfl hRm (by decide) (by decide) (Nat.le_of_ble_eq_true rfl) ?_
        exact R_ireturn hC dX12_work_107 rfl (ret_P ⟨hFb, hTb, by (rw [if_pos hok2]; exact h4q), fun _ => by
            refine ⟨?_, ?_, ?_, ?_, ?_, ?_, ?_, ?_, ?_, ?_, ?_⟩ <;> intro h <;> first | exact absurd h (by decide) | exact rfl⟩)
      · skip
        subst hsw2
        refine R_tableIn hC dX12_work_31 (off := 77) (by omega) (by omega) rfl (tgt := 108) (by decide) ?_
        refine R_aload_0 hC dX12_work_108 ?_
        refine R_iconst hC dX12_work_109 ⟨by decide, by decide⟩ ?_
        refine R_iload_1 hC dX12_work_110 ?_
        have hG20 : GR Mc6 := (GR.fr (GR.fr hG1 hq4.1 (by decide +kernel)) hq7.1 (by decide +kernel))
        have hk21 : RW Mc6 0 c := (RW.fr (RW.fr hk2 hq4.1 (by decide +kernel)) hq7.1 (by decide +kernel))
        refine R_callVq (as := [vI _, vI _]) hC dX12_work_111 mo_12_spareOf ml_12_120 (by decide) rfl rfl (c12_spareOf  hG20 hk21 (by omega) (by omega) (by omega) (by omega) hM) rfl rfl hRm (by decide) (by decide) (Nat.le_of_ble_eq_true rfl) ?_
        exact R_ireturn hC dX12_work_114 rfl (ret_P ⟨hFb, hTb, by (rw [if_pos hok2]; exact h4q), fun _ => by
            refine ⟨?_, ?_, ?_, ?_, ?_, ?_, ?_, ?_, ?_, ?_, ?_⟩ <;> intro h <;> first | exact absurd h (by decide) | exact rfl⟩)
      · skip
        subst hsw2
        refine R_tableIn hC dX12_work_31 (off := 84) (by omega) (by omega) rfl (tgt := 115) (by decide) ?_
        refine R_iconst hC dX12_work_115 ⟨by decide, by decide⟩ ?_
        refine R_aload_0 hC dX12_work_116 ?_
        have hG22 : GR Mc6 := (GR.fr (GR.fr hG1 hq4.1 (by decide +kernel)) hq7.1 (by decide +kernel))
        refine R_getR hC dX12_work_117 fl_12_9 (by decide) rfl (by decide) (by decide) (fi := 0) rfl (r := 58) (gr_57_0 hG22) ?_
        refine R_bipush hC dX12_work_120 (by decide +kernel) ⟨by decide, by decide⟩ ?_
        refine R_iload_1 hC dX12_work_122 ?_
        refine R_iadd hC dX12_work_123 ⟨by omega, by omega⟩ ?_
        have hk23 : RW Mc6 0 c := (RW.fr (RW.fr hk2 hq4.1 (by decide +kernel)) hq7.1 (by decide +kernel))
        refine R_ialoadE hC dX12_work_124 (by decide) rfl (by omega) (by omega) (hk23.r2 (k := 16 + w) (by omega) (by omega) (by omega)) ?_
        refine R_aload_0 hC dX12_work_125 ?_
        refine R_iconst hC dX12_work_126 ⟨by decide, by decide⟩ ?_
        refine R_iload_1 hC dX12_work_127 ?_
        refine R_callVq (as := [vI _, vI _]) hC dX12_work_128 mo_12_allOf ml_12_108 (by decide) rfl rfl (c12_allOf  hG22 hk23 (by omega) (by omega) (by omega) (by omega) hM) rfl rfl hRm (by decide) (by decide) (Nat.le_of_ble_eq_true rfl) ?_
        refine R_isub hC dX12_work_131 ⟨by omega, by omega⟩ ?_
        refine R_callSq (as := [vI _, vI _]) hC dX12_work_132 mo_12_greater ml_12_99 (c12_greater  ) rfl rfl hRm (by decide) (by decide) (Nat.le_of_ble_eq_true rfl) ?_
        exact R_ireturn hC dX12_work_135 rfl (ret_P ⟨hFb, hTb, by (rw [if_pos hok2]; exact h4q), fun _ => by
            refine ⟨?_, ?_, ?_, ?_, ?_, ?_, ?_, ?_, ?_, ?_, ?_⟩ <;> intro h <;> first | exact absurd h (by decide) | exact rfl⟩)
      · skip
        subst hsw2
        refine R_tableIn hC dX12_work_31 (off := 105) (by omega) (by omega) rfl (tgt := 136) (by decide) ?_
        refine R_aload_0 hC dX12_work_136 ?_
        refine R_iconst hC dX12_work_137 ⟨by decide, by decide⟩ ?_
        have hG24 : GR Mc6 := (GR.fr (GR.fr hG1 hq4.1 (by decide +kernel)) hq7.1 (by decide +kernel))
        have hk25 : RW Mc6 0 c := (RW.fr (RW.fr hk2 hq4.1 (by decide +kernel)) hq7.1 (by decide +kernel))
        refine R_callVp (as := [vI _]) hC dX12_work_138 mo_12_plans ml_12_190 (by decide) rfl rfl (c12_plans  hG24 hk25 (by omega) (by omega) hM) rfl rfl hRm (by decide) (by decide) (Nat.le_of_ble_eq_true rfl) (fun v28 Mc26 hq27 => ?_)
        have hFl : Fr [58, 63, 64, 65, 66, 67, 68, 69, 70, 71, 72, 77, 78, 79, 80] [(57, 4), (57, 22), (57, 23), (57, 30), (57, 47), (57, 48), (57, 49), (57, 52), (57, 53), (57, 54)] M Mc26 := Fr.tt hFb (hq27.1.mo (by simp) (by simp))
        have hTl : TRo M Mc26 := TRo.tr hTb (TRo.of hq27.1 (by decide) (by decide))
        have h4l : Mc26 57 4 = 0 := (hq27.1 57 4 (by decide) (by simp)).trans h4q
        refine R_if_eq hC dX12_work_141 (tgt := 152) (by decide) (fun hb141 => ?_) (fun hb141 => ?_)
        · skip
          refine R_iconst hC dX12_work_152 ⟨by decide, by decide⟩ ?_
          exact R_ireturn hC dX12_work_153 rfl (ret_P ⟨hFl, hTl, by (rw [if_pos hok2]; exact h4l), fun _ => by
              refine ⟨?_, ?_, ?_, ?_, ?_, ?_, ?_, ?_, ?_, ?_, ?_⟩ <;> intro h <;> first | exact absurd h (by decide) | exact (itc_t (bP_nz (fun z => hb141 (hq27.2.1.trans z)))).symm | exact (itc_f (bP_z (hq27.2.1.symm.trans hb141))).symm⟩)
        · skip
          refine R_aload_0 hC dX12_work_144 ?_
          refine R_iload_1 hC dX12_work_145 ?_
          have hG29 : GR Mc26 := (GR.fr hG24 hq27.1 (by decide +kernel))
          have hk30 : RW Mc26 0 c := (RW.fr hk25 hq27.1 (by decide +kernel))
          refine R_callVq (as := [vI _]) hC dX12_work_146 mo_12_plannedOf ml_12_394 (by decide) rfl rfl (c12_plannedOf (P := (plT (insOf c))) hG29 hk30 hM hq27.2.2 (fun q q0 => plT_3 hI q0) (by omega) (by omega)) rfl rfl hRm (by decide) (by decide) (Nat.le_of_ble_eq_true rfl) ?_
          refine R_goto hC dX12_work_149 (tgt := 153) (by decide) ?_
          exact R_ireturn hC dX12_work_153 rfl (ret_P ⟨hFl, hTl, by (rw [if_pos hok2]; exact h4l), fun _ => by
              refine ⟨?_, ?_, ?_, ?_, ?_, ?_, ?_, ?_, ?_, ?_, ?_⟩ <;> intro h <;> first | exact absurd h (by decide) | exact (itc_t (bP_nz (fun z => hb141 (hq27.2.1.trans z)))).symm | exact (itc_f (bP_z (hq27.2.1.symm.trans hb141))).symm⟩)
      · skip
        subst hsw2
        refine R_tableIn hC dX12_work_31 (off := 123) (by omega) (by omega) rfl (tgt := 154) (by decide) ?_
        refine R_aload_0 hC dX12_work_154 ?_
        refine R_iload_1 hC dX12_work_155 ?_
        have hG31 : GR Mc6 := (GR.fr (GR.fr hG1 hq4.1 (by decide +kernel)) hq7.1 (by decide +kernel))
        have hk32 : RW Mc6 0 c := (RW.fr (RW.fr hk2 hq4.1 (by decide +kernel)) hq7.1 (by decide +kernel))
        refine R_callVp (as := [vI _]) hC dX12_work_156 mo_12_stricter ml_12_397 (by decide) rfl rfl (c12_stricter  hG31 hk32 hS (by omega) (by omega)) rfl rfl hRm (by decide) (by decide) (Nat.le_of_ble_eq_true rfl) (fun v35 Mc33 hq34 => ?_)
        have hFt : Fr [58, 63, 64, 65, 66, 67, 68, 69, 70, 71, 72, 77, 78, 79, 80] [(57, 4), (57, 22), (57, 23), (57, 30), (57, 47), (57, 48), (57, 49), (57, 52), (57, 53), (57, 54)] M Mc33 := Fr.tt hFb (hq34.1.mo (by simp) (by simp))
        have hTt : TRo M Mc33 := TRo.tr hTb (hq34.2.1)
        have h4t : Mc33 57 4 = 0 := (hq34.1 57 4 (by decide) (by simp)).trans h4q
        exact R_ireturn hC dX12_work_159 rfl (ret_P ⟨hFt, hTt, by (rw [if_pos hok2]; exact h4t), fun _ => by
            refine ⟨?_, ?_, ?_, ?_, ?_, ?_, ?_, ?_, ?_, ?_, ?_⟩ <;> intro h <;> first | exact absurd h (by decide) | exact hq34.2.2⟩)
      · skip
        subst hsw2
        refine R_tableIn hC dX12_work_31 (off := 129) (by omega) (by omega) rfl (tgt := 160) (by decide) ?_
        refine R_aload_0 hC dX12_work_160 ?_
        refine R_iload_1 hC dX12_work_161 ?_
        have hG36 : GR Mc6 := (GR.fr (GR.fr hG1 hq4.1 (by decide +kernel)) hq7.1 (by decide +kernel))
        have hk37 : RW Mc6 0 c := (RW.fr (RW.fr hk2 hq4.1 (by decide +kernel)) hq7.1 (by decide +kernel))
        refine R_callVq (as := [vI _]) hC dX12_work_162 mo_12_holders ml_12_400 (by decide) rfl rfl (c12_holders  hG36 hk37 hS (by omega) (by omega)) rfl rfl hRm (by decide) (by decide) (Nat.le_of_ble_eq_true rfl) ?_
        exact R_ireturn hC dX12_work_165 rfl (ret_P ⟨hFb, hTb, by (rw [if_pos hok2]; exact h4q), fun _ => by
            refine ⟨?_, ?_, ?_, ?_, ?_, ?_, ?_, ?_, ?_, ?_, ?_⟩ <;> intro h <;> first | exact absurd h (by decide) | exact rfl⟩)
      · skip
        subst hsw2
        refine R_tableIn hC dX12_work_31 (off := 135) (by omega) (by omega) rfl (tgt := 166) (by decide) ?_
        refine R_aload_0 hC dX12_work_166 ?_
        have hG38 : GR Mc6 := (GR.fr (GR.fr hG1 hq4.1 (by decide +kernel)) hq7.1 (by decide +kernel))
        refine R_getR hC dX12_work_167 fl_12_9 (by decide) rfl (by decide) (by decide) (fi := 0) rfl (r := 58) (gr_57_0 hG38) ?_
        refine R_bipush hC dX12_work_170 (by decide +kernel) ⟨by decide, by decide⟩ ?_
        refine R_iload_1 hC dX12_work_172 ?_
        refine R_iadd hC dX12_work_173 ⟨by omega, by omega⟩ ?_
        have hk39 : RW Mc6 0 c := (RW.fr (RW.fr hk2 hq4.1 (by decide +kernel)) hq7.1 (by decide +kernel))
        refine R_ialoadE hC dX12_work_174 (by decide) rfl (by omega) (by omega) (hk39.r3 (k := 22 + w) (by omega) (by omega) (by omega)) ?_
        exact R_ireturn hC dX12_work_175 rfl (ret_P ⟨hFb, hTb, by (rw [if_pos hok2]; exact h4q), fun _ => by
            refine ⟨?_, ?_, ?_, ?_, ?_, ?_, ?_, ?_, ?_, ?_, ?_⟩ <;> intro h <;> first | exact absurd h (by decide) | exact rfl⟩)
      · skip
        subst hsw2
        refine R_tableIn hC dX12_work_31 (off := 145) (by omega) (by omega) rfl (tgt := 176) (by decide) ?_
        refine R_aload_0 hC dX12_work_176 ?_
        refine R_iload_1 hC dX12_work_177 ?_
        have hG40 : GR Mc6 := (GR.fr (GR.fr hG1 hq4.1 (by decide +kernel)) hq7.1 (by decide +kernel))
        have hk41 : RW Mc6 0 c := (RW.fr (RW.fr hk2 hq4.1 (by decide +kernel)) hq7.1 (by decide +kernel))
        refine R_callVq (as := [vI _]) hC dX12_work_178 mo_12_safe ml_12_403 (by decide) rfl rfl (c12_safe  hG40 hk41 hS (by omega) (by omega)) rfl rfl hRm (by decide) (by decide) (Nat.le_of_ble_eq_true rfl) ?_
        exact R_ireturn hC dX12_work_181 rfl (ret_P ⟨hFb, hTb, by (rw [if_pos hok2]; exact h4q), fun _ => by
            refine ⟨?_, ?_, ?_, ?_, ?_, ?_, ?_, ?_, ?_, ?_, ?_⟩ <;> intro h <;> first | exact absurd h (by decide) | exact rfl⟩)
    · skip
      have hnoW := rt_n h4b hvb hb25
      have hno2 : ¬ ((0 ≤ w ∧ w < c 122) ∧ 0 ≤ z ∧ z ≤ 10) := fun z => hnoW z.2
      have hF9 := hFb
      have hT9 := hTb
      have h49 := h4b.trans (if_neg hnoW)
      refine R_iconst hC dX12_work_28 ⟨by decide, by decide⟩ ?_
      exact R_ireturn hC dX12_work_29 rfl (ret_P ⟨hF9, hT9, by (rw [if_neg hno2]; exact h49), fun z => by (rw [if_neg hno2] at z; cases z)⟩)
