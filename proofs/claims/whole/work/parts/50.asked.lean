/-! the model's questions: count, library, work, held, lack, order -/
theorem rt_e {a b q : Int} {p : Prop} [Decidable p] (h : a = if b = 0 ∧ ¬ p then q else b) (hb : b = 0) : a = if p then 0 else q := by
  rw [h]
  by_cases y : p
  · rw [if_neg (fun z => z.2 y), if_pos y, hb]
  · rw [if_pos ⟨hb, y⟩, if_neg y]
theorem rt_y {a v : Int} {p : Prop} [Decidable p] (h : a = if p then 0 else 1) (hv : v = bP (a = 0)) (h2 : v ≠ 0) : p := Classical.byContradiction (fun z => by
  have y := bP_nz (fun y => h2 (hv.trans y))
  rw [h, if_neg z] at y
  cases y)
theorem rt_n {a v : Int} {p : Prop} [Decidable p] (h : a = if p then 0 else 1) (hv : v = bP (a = 0)) (h2 : v = 0) : ¬ p := fun z => bP_z (hv.symm.trans h2) (h.trans (if_pos z))

theorem dX12_count_0 : decode cX12_count 0 = .ok (.aload_n 0, 1) := by decide +kernel
theorem dX12_count_1 : decode cX12_count 1 = .ok (.iconst 0, 1) := by decide +kernel
theorem dX12_count_2 : decode cX12_count 2 = .ok (.putfield 84, 3) := by decide +kernel
theorem dX12_count_5 : decode cX12_count 5 = .ok (.aload_n 0, 1) := by decide +kernel
theorem dX12_count_6 : decode cX12_count 6 = .ok (.iload_n 1, 1) := by decide +kernel
theorem dX12_count_7 : decode cX12_count 7 = .ok (.iconst 0, 1) := by decide +kernel
theorem dX12_count_8 : decode cX12_count 8 = .ok (.bipush 27, 2) := by decide +kernel
theorem dX12_count_10 : decode cX12_count 10 = .ok (.invokestatic 235, 3) := by decide +kernel
theorem dX12_count_13 : decode cX12_count 13 = .ok (.iconst 1, 1) := by decide +kernel
theorem dX12_count_14 : decode cX12_count 14 = .ok (.invokevirtual 269, 3) := by decide +kernel
theorem dX12_count_17 : decode cX12_count 17 = .ok (.ifCond .ne 5, 3) := by decide +kernel
theorem dX12_count_20 : decode cX12_count 20 = .ok (.iconst 0, 1) := by decide +kernel
theorem dX12_count_21 : decode cX12_count 21 = .ok (.ireturn, 1) := by decide +kernel
theorem dX12_count_22 : decode cX12_count 22 = .ok (.iload_n 1, 1) := by decide +kernel
theorem dX12_count_23 : decode cX12_count 23 = .ok (.tableswitch 287 0 27 #[125, 130, 135, 143, 149, 157, 171, 177, 194, 199, 199, 199, 205, 210, 210, 226, 231, 236, 241, 246, 287, 287, 287, 251, 251, 267, 272, 278], 125) := by decide +kernel
theorem dX12_count_148 : decode cX12_count 148 = .ok (.aload_n 0, 1) := by decide +kernel
theorem dX12_count_149 : decode cX12_count 149 = .ok (.getfield 105, 3) := by decide +kernel
theorem dX12_count_152 : decode cX12_count 152 = .ok (.ireturn, 1) := by decide +kernel
theorem dX12_count_153 : decode cX12_count 153 = .ok (.aload_n 0, 1) := by decide +kernel
theorem dX12_count_154 : decode cX12_count 154 = .ok (.getfield 102, 3) := by decide +kernel
theorem dX12_count_157 : decode cX12_count 157 = .ok (.ireturn, 1) := by decide +kernel
theorem dX12_count_158 : decode cX12_count 158 = .ok (.aload_n 0, 1) := by decide +kernel
theorem dX12_count_159 : decode cX12_count 159 = .ok (.getfield 9, 3) := by decide +kernel
theorem dX12_count_162 : decode cX12_count 162 = .ok (.bipush 106, 2) := by decide +kernel
theorem dX12_count_164 : decode cX12_count 164 = .ok (.iaload, 1) := by decide +kernel
theorem dX12_count_165 : decode cX12_count 165 = .ok (.ireturn, 1) := by decide +kernel
theorem dX12_count_166 : decode cX12_count 166 = .ok (.aload_n 0, 1) := by decide +kernel
theorem dX12_count_167 : decode cX12_count 167 = .ok (.iconst 0, 1) := by decide +kernel
theorem dX12_count_168 : decode cX12_count 168 = .ok (.invokevirtual 338, 3) := by decide +kernel
theorem dX12_count_171 : decode cX12_count 171 = .ok (.ireturn, 1) := by decide +kernel
theorem dX12_count_172 : decode cX12_count 172 = .ok (.aload_n 0, 1) := by decide +kernel
theorem dX12_count_173 : decode cX12_count 173 = .ok (.getfield 9, 3) := by decide +kernel
theorem dX12_count_176 : decode cX12_count 176 = .ok (.bipush 107, 2) := by decide +kernel
theorem dX12_count_178 : decode cX12_count 178 = .ok (.iaload, 1) := by decide +kernel
theorem dX12_count_179 : decode cX12_count 179 = .ok (.ireturn, 1) := by decide +kernel
theorem dX12_count_180 : decode cX12_count 180 = .ok (.aload_n 0, 1) := by decide +kernel
theorem dX12_count_181 : decode cX12_count 181 = .ok (.iconst 0, 1) := by decide +kernel
theorem dX12_count_182 : decode cX12_count 182 = .ok (.invokevirtual 296, 3) := by decide +kernel
theorem dX12_count_185 : decode cX12_count 185 = .ok (.ifCond .eq 7, 3) := by decide +kernel
theorem dX12_count_188 : decode cX12_count 188 = .ok (.iconst 1, 1) := by decide +kernel
theorem dX12_count_189 : decode cX12_count 189 = .ok (.goto 4, 3) := by decide +kernel
theorem dX12_count_192 : decode cX12_count 192 = .ok (.iconst 0, 1) := by decide +kernel
theorem dX12_count_193 : decode cX12_count 193 = .ok (.ireturn, 1) := by decide +kernel
theorem dX12_count_194 : decode cX12_count 194 = .ok (.aload_n 0, 1) := by decide +kernel
theorem dX12_count_195 : decode cX12_count 195 = .ok (.iconst 0, 1) := by decide +kernel
theorem dX12_count_196 : decode cX12_count 196 = .ok (.invokevirtual 172, 3) := by decide +kernel
theorem dX12_count_199 : decode cX12_count 199 = .ok (.ireturn, 1) := by decide +kernel
theorem dX12_count_200 : decode cX12_count 200 = .ok (.aload_n 0, 1) := by decide +kernel
theorem dX12_count_201 : decode cX12_count 201 = .ok (.iconst 0, 1) := by decide +kernel
theorem dX12_count_202 : decode cX12_count 202 = .ok (.invokevirtual 190, 3) := by decide +kernel
theorem dX12_count_205 : decode cX12_count 205 = .ok (.ifCond .eq 10, 3) := by decide +kernel
theorem dX12_count_208 : decode cX12_count 208 = .ok (.aload_n 0, 1) := by decide +kernel
theorem dX12_count_209 : decode cX12_count 209 = .ok (.invokevirtual 341, 3) := by decide +kernel
theorem dX12_count_212 : decode cX12_count 212 = .ok (.goto 4, 3) := by decide +kernel
theorem dX12_count_215 : decode cX12_count 215 = .ok (.iconst (-1), 1) := by decide +kernel
theorem dX12_count_216 : decode cX12_count 216 = .ok (.ireturn, 1) := by decide +kernel
theorem dX12_count_217 : decode cX12_count 217 = .ok (.aload_n 0, 1) := by decide +kernel
theorem dX12_count_218 : decode cX12_count 218 = .ok (.invokevirtual 344, 3) := by decide +kernel
theorem dX12_count_221 : decode cX12_count 221 = .ok (.ireturn, 1) := by decide +kernel
theorem dX12_count_222 : decode cX12_count 222 = .ok (.aload_n 0, 1) := by decide +kernel
theorem dX12_count_223 : decode cX12_count 223 = .ok (.iload_n 1, 1) := by decide +kernel
theorem dX12_count_224 : decode cX12_count 224 = .ok (.invokevirtual 347, 3) := by decide +kernel
theorem dX12_count_227 : decode cX12_count 227 = .ok (.ireturn, 1) := by decide +kernel
theorem dX12_count_228 : decode cX12_count 228 = .ok (.aload_n 0, 1) := by decide +kernel
theorem dX12_count_229 : decode cX12_count 229 = .ok (.invokevirtual 350, 3) := by decide +kernel
theorem dX12_count_232 : decode cX12_count 232 = .ok (.ireturn, 1) := by decide +kernel
theorem dX12_count_233 : decode cX12_count 233 = .ok (.aload_n 0, 1) := by decide +kernel
theorem dX12_count_234 : decode cX12_count 234 = .ok (.iload_n 1, 1) := by decide +kernel
theorem dX12_count_235 : decode cX12_count 235 = .ok (.bipush 14, 2) := by decide +kernel
theorem dX12_count_237 : decode cX12_count 237 = .ok (.if_icmp .ne 7, 3) := by decide +kernel
theorem dX12_count_240 : decode cX12_count 240 = .ok (.iconst 1, 1) := by decide +kernel
theorem dX12_count_241 : decode cX12_count 241 = .ok (.goto 4, 3) := by decide +kernel
theorem dX12_count_244 : decode cX12_count 244 = .ok (.iconst 0, 1) := by decide +kernel
theorem dX12_count_245 : decode cX12_count 245 = .ok (.invokevirtual 353, 3) := by decide +kernel
theorem dX12_count_248 : decode cX12_count 248 = .ok (.ireturn, 1) := by decide +kernel
theorem dX12_count_249 : decode cX12_count 249 = .ok (.aload_n 0, 1) := by decide +kernel
theorem dX12_count_250 : decode cX12_count 250 = .ok (.invokevirtual 357, 3) := by decide +kernel
theorem dX12_count_253 : decode cX12_count 253 = .ok (.ireturn, 1) := by decide +kernel
theorem dX12_count_254 : decode cX12_count 254 = .ok (.aload_n 0, 1) := by decide +kernel
theorem dX12_count_255 : decode cX12_count 255 = .ok (.invokevirtual 360, 3) := by decide +kernel
theorem dX12_count_258 : decode cX12_count 258 = .ok (.ireturn, 1) := by decide +kernel
theorem dX12_count_259 : decode cX12_count 259 = .ok (.aload_n 0, 1) := by decide +kernel
theorem dX12_count_260 : decode cX12_count 260 = .ok (.getfield 287, 3) := by decide +kernel
theorem dX12_count_263 : decode cX12_count 263 = .ok (.ireturn, 1) := by decide +kernel
theorem dX12_count_264 : decode cX12_count 264 = .ok (.aload_n 0, 1) := by decide +kernel
theorem dX12_count_265 : decode cX12_count 265 = .ok (.getfield 281, 3) := by decide +kernel
theorem dX12_count_268 : decode cX12_count 268 = .ok (.ireturn, 1) := by decide +kernel
theorem dX12_count_269 : decode cX12_count 269 = .ok (.aload_n 0, 1) := by decide +kernel
theorem dX12_count_270 : decode cX12_count 270 = .ok (.getfield 266, 3) := by decide +kernel
theorem dX12_count_273 : decode cX12_count 273 = .ok (.ireturn, 1) := by decide +kernel
theorem dX12_count_274 : decode cX12_count 274 = .ok (.aload_n 0, 1) := by decide +kernel
theorem dX12_count_275 : decode cX12_count 275 = .ok (.iload_n 1, 1) := by decide +kernel
theorem dX12_count_276 : decode cX12_count 276 = .ok (.bipush 24, 2) := by decide +kernel
theorem dX12_count_278 : decode cX12_count 278 = .ok (.if_icmp .ne 7, 3) := by decide +kernel
theorem dX12_count_281 : decode cX12_count 281 = .ok (.iconst 1, 1) := by decide +kernel
theorem dX12_count_282 : decode cX12_count 282 = .ok (.goto 4, 3) := by decide +kernel
theorem dX12_count_285 : decode cX12_count 285 = .ok (.iconst 0, 1) := by decide +kernel
theorem dX12_count_286 : decode cX12_count 286 = .ok (.invokevirtual 363, 3) := by decide +kernel
theorem dX12_count_289 : decode cX12_count 289 = .ok (.ireturn, 1) := by decide +kernel
theorem dX12_count_290 : decode cX12_count 290 = .ok (.aload_n 0, 1) := by decide +kernel
theorem dX12_count_291 : decode cX12_count 291 = .ok (.getfield 275, 3) := by decide +kernel
theorem dX12_count_294 : decode cX12_count 294 = .ok (.ireturn, 1) := by decide +kernel
theorem dX12_count_295 : decode cX12_count 295 = .ok (.aload_n 0, 1) := by decide +kernel
theorem dX12_count_296 : decode cX12_count 296 = .ok (.iconst 0, 1) := by decide +kernel
theorem dX12_count_297 : decode cX12_count 297 = .ok (.invokevirtual 366, 3) := by decide +kernel
theorem dX12_count_300 : decode cX12_count 300 = .ok (.ireturn, 1) := by decide +kernel
theorem dX12_count_301 : decode cX12_count 301 = .ok (.aload_n 0, 1) := by decide +kernel
theorem dX12_count_302 : decode cX12_count 302 = .ok (.invokevirtual 369, 3) := by decide +kernel
theorem dX12_count_305 : decode cX12_count 305 = .ok (.aload_n 0, 1) := by decide +kernel
theorem dX12_count_306 : decode cX12_count 306 = .ok (.getfield 326, 3) := by decide +kernel
theorem dX12_count_309 : decode cX12_count 309 = .ok (.ireturn, 1) := by decide +kernel
theorem dX12_count_310 : decode cX12_count 310 = .ok (.aload_n 0, 1) := by decide +kernel
theorem dX12_count_311 : decode cX12_count 311 = .ok (.getfield 19, 3) := by decide +kernel
theorem dX12_count_314 : decode cX12_count 314 = .ok (.iload_n 1, 1) := by decide +kernel
theorem dX12_count_315 : decode cX12_count 315 = .ok (.bipush 20, 2) := by decide +kernel
theorem dX12_count_317 : decode cX12_count 317 = .ok (.isub, 1) := by decide +kernel
theorem dX12_count_318 : decode cX12_count 318 = .ok (.iaload, 1) := by decide +kernel
theorem dX12_count_319 : decode cX12_count 319 = .ok (.ireturn, 1) := by decide +kernel
set_option maxHeartbeats 2000000 in
theorem c12_count {G : Gl} {l : Launch}  {M : Mem} {c : Int → Int} {w : Int} {b : Int → Int} (hG : GR M) (hK : RW M 0 c) (hS : SP c) (hb : RK (c 122) (fun w => c (10 + w)) b) : Ct G LY 82 l 9 m12_count [vR 57, vI w] M (RP (fun v M' => Fr [58, 63, 64, 65, 66, 67, 68, 69, 70, 71, 72, 77, 78, 79, 80] [(57, 4), (57, 22), (57, 23), (57, 30), (57, 47), (57, 48), (57, 49), (57, 52), (57, 53), (57, 54)] M M' ∧ TRo M M' ∧ M' 57 4 = (if 0 ≤ w ∧ w ≤ 27 then (0 : Int) else 1) ∧ ((if 0 ≤ w ∧ w ≤ 27 then (0 : Int) else 1) = 0 → (w = 0 → v = c 121) ∧ (w = 1 → v = c 122) ∧ (w = 2 → v = c 118) ∧ (w = 3 → v = heldAll c) ∧ (w = 4 → v = c 119) ∧ (w = 5 → v = bP (planI (insOf c))) ∧ (w = 6 → v = SPC (insOf c)) ∧ (w = 7 → v = itc (planI (insOf c)) (sm (c 121).toNat (fun x => sm (c 122).toNat (fun w => plT (insOf c) (6 * x + w)))) (-1)) ∧ (w = 8 → v = itc (planI (insOf c)) (chgs (plT (insOf c)) c) (-1)) ∧ (w = 9 → v = lackI (insOf c) (worst (insOf c))) ∧ (w = 10 → v = worst (insOf c)) ∧ (w = 11 → v = bits (c 122).toNat (fun w => spr c w < ss (fun x => offr c x w) (worst (insOf c)))) ∧ (w = 12 → LateV c v) ∧ (w = 13 → v = (ca (itwM c) (c 122) (c 121).toNat).1) ∧ (w = 14 → v = (ca (itwM c) (c 122) (c 121).toNat).2) ∧ (w = 15 → v = bits (c 122).toNat (fun k => allOf c k = 1)) ∧ (w = 16 → v = bits (c 122).toNat (fun k => allOf c k < c (16 + k))) ∧ (w = 17 → v = M 57 7) ∧ (w = 18 → v = M 57 9) ∧ (w = 19 → v = M 57 16) ∧ (w = 20 → v = M 61 0) ∧ (w = 21 → v = M 61 1) ∧ (w = 22 → v = M 61 2) ∧ (w = 23 → HelpM c 0 v) ∧ (w = 24 → HelpM c 1 v) ∧ (w = 25 → v = c 120) ∧ (w = 26 → v = stor c) ∧ (w = 27 → v = (ordF (insOf c) b ((5 : Int) ^ (c 121).toNat).toNat).2.1)))) := by
  refine R_start (by decide +kernel) (Nat.le_of_ble_eq_true rfl) (fun C hC hRm hlau => ?_)
  show RZ G LY C (Zn G LY 82 C (RP (fun v M' => Fr [58, 63, 64, 65, 66, 67, 68, 69, 70, 71, 72, 77, 78, 79, 80] [(57, 4), (57, 22), (57, 23), (57, 30), (57, 47), (57, 48), (57, 49), (57, 52), (57, 53), (57, 54)] M M' ∧ TRo M M' ∧ M' 57 4 = (if 0 ≤ w ∧ w ≤ 27 then (0 : Int) else 1) ∧ ((if 0 ≤ w ∧ w ≤ 27 then (0 : Int) else 1) = 0 → (w = 0 → v = c 121) ∧ (w = 1 → v = c 122) ∧ (w = 2 → v = c 118) ∧ (w = 3 → v = heldAll c) ∧ (w = 4 → v = c 119) ∧ (w = 5 → v = bP (planI (insOf c))) ∧ (w = 6 → v = SPC (insOf c)) ∧ (w = 7 → v = itc (planI (insOf c)) (sm (c 121).toNat (fun x => sm (c 122).toNat (fun w => plT (insOf c) (6 * x + w)))) (-1)) ∧ (w = 8 → v = itc (planI (insOf c)) (chgs (plT (insOf c)) c) (-1)) ∧ (w = 9 → v = lackI (insOf c) (worst (insOf c))) ∧ (w = 10 → v = worst (insOf c)) ∧ (w = 11 → v = bits (c 122).toNat (fun w => spr c w < ss (fun x => offr c x w) (worst (insOf c)))) ∧ (w = 12 → LateV c v) ∧ (w = 13 → v = (ca (itwM c) (c 122) (c 121).toNat).1) ∧ (w = 14 → v = (ca (itwM c) (c 122) (c 121).toNat).2) ∧ (w = 15 → v = bits (c 122).toNat (fun k => allOf c k = 1)) ∧ (w = 16 → v = bits (c 122).toNat (fun k => allOf c k < c (16 + k))) ∧ (w = 17 → v = M 57 7) ∧ (w = 18 → v = M 57 9) ∧ (w = 19 → v = M 57 16) ∧ (w = 20 → v = M 61 0) ∧ (w = 21 → v = M 61 1) ∧ (w = 22 → v = M 61 2) ∧ (w = 23 → HelpM c 0 v) ∧ (w = 24 → HelpM c 1 v) ∧ (w = 25 → v = c 120) ∧ (w = 26 → v = stor c) ∧ (w = 27 → v = (ordF (insOf c) b ((5 : Int) ^ (c 121).toNat).toNat).2.1))))) 0 0 82 0 [some (vR 57), some (vI w)] [] M
  have hM := hS.m
  have hI := hM.I
  have hL := hM.1.1
  have hW := hM.1.2
  refine R_aload_0 hC dX12_count_0 ?_
  refine R_iconst hC dX12_count_1 ⟨by decide, by decide⟩ ?_
  refine R_putI hC dX12_count_2 fl_12_84 (by decide) rfl (by decide) (by decide) (fi := 4) rfl ?_
  refine R_aload_0 hC dX12_count_5 ?_
  refine R_iload_1 hC dX12_count_6 ?_
  refine R_iconst hC dX12_count_7 ⟨by decide, by decide⟩ ?_
  refine R_bipush hC dX12_count_8 (by decide +kernel) ⟨by decide, by decide⟩ ?_
  refine R_callSq (as := [vI _, vI _, vI _]) hC dX12_count_10 mo_12_within ml_12_235 (c12_within  ) rfl rfl hRm (by decide) (by decide) (Nat.le_of_ble_eq_true rfl) ?_
  refine R_iconst hC dX12_count_13 ⟨by decide, by decide⟩ ?_
  have hFz : Fr [58, 63, 64, 65, 66, 67, 68, 69, 70, 71, 72, 77, 78, 79, 80] [(57, 4), (57, 22), (57, 23), (57, 30), (57, 47), (57, 48), (57, 49), (57, 52), (57, 53), (57, 54)] M (uM M 57 4 0) := Fr.uB Fr.rf (by decide)
  have hTz : TRo M (uM M 57 4 0) := TRo.rf.h (by decide)
  refine R_callVp (as := [vI _, vI _]) hC dX12_count_14 mo_12_right ml_12_269 (by decide) rfl rfl (c12_right  ) rfl rfl hRm (by decide) (by decide) (Nat.le_of_ble_eq_true rfl) (fun v3 Mc1 hq2 => ?_)
  have hFa : Fr [58, 63, 64, 65, 66, 67, 68, 69, 70, 71, 72, 77, 78, 79, 80] [(57, 4), (57, 22), (57, 23), (57, 30), (57, 47), (57, 48), (57, 49), (57, 52), (57, 53), (57, 54)] M Mc1 := Fr.tt hFz (hq2.1.mo (by simp) (by simp))
  have hTa : TRo M Mc1 := TRo.tr hTz (TRo.of hq2.1 (by decide) (by decide))
  have h4a := rt_d hq2.2.1 uM_same
  have hva := hq2.2.2
  refine R_if_ne hC dX12_count_17 (tgt := 22) (by decide) (fun hb17 => ?_) (fun hb17 => ?_)
  · skip
    have hok := rt_y h4a hva hb17
    have h4q := h4a.trans (if_pos hok)
    refine R_iload_1 hC dX12_count_22 ?_
    by_cases hsw : w < 0 ∨ 27 < w
    · skip
      refine R_tableOut hC dX12_count_23 hsw (tgt := 310) (by decide) ?_
      refine R_aload_0 hC dX12_count_310 ?_
      have hG4 : GR Mc1 := (GR.fr (GR.uF hG (by decide +kernel) (by decide)) hq2.1 (by decide +kernel))
      refine R_getR hC dX12_count_311 fl_12_19 (by decide) rfl (by decide) (by decide) (fi := 3) rfl (r := 61) (gr_57_3 hG4) ?_
      refine R_iload_1 hC dX12_count_314 ?_
      refine R_bipush hC dX12_count_315 (by decide +kernel) ⟨by decide, by decide⟩ ?_
      refine R_isub hC dX12_count_317 ⟨by omega, by omega⟩ ?_
      refine R_iaload hC dX12_count_318 (by decide) rfl (by omega) (by omega) ?_
      exact R_ireturn hC dX12_count_319 rfl (ret_P ⟨hFa, hTa, by (rw [if_pos hok]; exact h4q), fun _ => by
          first | exact absurd hok (by omega) | refine ⟨?_, ?_, ?_, ?_, ?_, ?_, ?_, ?_, ?_, ?_, ?_, ?_, ?_, ?_, ?_, ?_, ?_, ?_, ?_, ?_, ?_, ?_, ?_, ?_, ?_, ?_, ?_, ?_⟩ <;> intro h <;> first | exact absurd h (by decide) | exact hFa 61 _ (by decide) (by simp)⟩)
    have hsw2 : w = 0 ∨ w = 1 ∨ w = 2 ∨ w = 3 ∨ w = 4 ∨ w = 5 ∨ w = 6 ∨ w = 7 ∨ w = 8 ∨ w = 9 ∨ w = 10 ∨ w = 11 ∨ w = 12 ∨ w = 13 ∨ w = 14 ∨ w = 15 ∨ w = 16 ∨ w = 17 ∨ w = 18 ∨ w = 19 ∨ w = 20 ∨ w = 21 ∨ w = 22 ∨ w = 23 ∨ w = 24 ∨ w = 25 ∨ w = 26 ∨ w = 27 := by omega
    rcases hsw2 with hsw2 | hsw2 | hsw2 | hsw2 | hsw2 | hsw2 | hsw2 | hsw2 | hsw2 | hsw2 | hsw2 | hsw2 | hsw2 | hsw2 | hsw2 | hsw2 | hsw2 | hsw2 | hsw2 | hsw2 | hsw2 | hsw2 | hsw2 | hsw2 | hsw2 | hsw2 | hsw2 | hsw2
    · skip
      subst hsw2
      refine R_tableIn hC dX12_count_23 (off := 125) (by omega) (by omega) rfl (tgt := 148) (by decide) ?_
      refine R_aload_0 hC dX12_count_148 ?_
      have hk5 : RW Mc1 0 c := (RW.fr (RW.uf hK (by decide)) hq2.1 (by decide +kernel))
      refine R_getIE hC dX12_count_149 fl_12_105 (by decide) rfl (by decide) (by decide) (fi := 5) rfl hk5.l ?_
      exact R_ireturn hC dX12_count_152 rfl (ret_P ⟨hFa, hTa, by (rw [if_pos hok]; exact h4q), fun _ => by
          refine ⟨?_, ?_, ?_, ?_, ?_, ?_, ?_, ?_, ?_, ?_, ?_, ?_, ?_, ?_, ?_, ?_, ?_, ?_, ?_, ?_, ?_, ?_, ?_, ?_, ?_, ?_, ?_, ?_⟩ <;> intro h <;> first | exact absurd h (by decide) | exact rfl⟩)
    · skip
      subst hsw2
      refine R_tableIn hC dX12_count_23 (off := 130) (by omega) (by omega) rfl (tgt := 153) (by decide) ?_
      refine R_aload_0 hC dX12_count_153 ?_
      have hk6 : RW Mc1 0 c := (RW.fr (RW.uf hK (by decide)) hq2.1 (by decide +kernel))
      refine R_getIE hC dX12_count_154 fl_12_102 (by decide) rfl (by decide) (by decide) (fi := 6) rfl hk6.w ?_
      exact R_ireturn hC dX12_count_157 rfl (ret_P ⟨hFa, hTa, by (rw [if_pos hok]; exact h4q), fun _ => by
          refine ⟨?_, ?_, ?_, ?_, ?_, ?_, ?_, ?_, ?_, ?_, ?_, ?_, ?_, ?_, ?_, ?_, ?_, ?_, ?_, ?_, ?_, ?_, ?_, ?_, ?_, ?_, ?_, ?_⟩ <;> intro h <;> first | exact absurd h (by decide) | exact rfl⟩)
    · skip
      subst hsw2
      refine R_tableIn hC dX12_count_23 (off := 135) (by omega) (by omega) rfl (tgt := 158) (by decide) ?_
      refine R_aload_0 hC dX12_count_158 ?_
      have hG7 : GR Mc1 := (GR.fr (GR.uF hG (by decide +kernel) (by decide)) hq2.1 (by decide +kernel))
      refine R_getR hC dX12_count_159 fl_12_9 (by decide) rfl (by decide) (by decide) (fi := 0) rfl (r := 58) (gr_57_0 hG7) ?_
      refine R_bipush hC dX12_count_162 (by decide +kernel) ⟨by decide, by decide⟩ ?_
      have hk8 : RW Mc1 0 c := (RW.fr (RW.uf hK (by decide)) hq2.1 (by decide +kernel))
      refine R_ialoadE hC dX12_count_164 (by decide) rfl (by omega) (by omega) (hk8.r5 (k := 118) (by omega) (by omega) (by omega)) ?_
      exact R_ireturn hC dX12_count_165 rfl (ret_P ⟨hFa, hTa, by (rw [if_pos hok]; exact h4q), fun _ => by
          refine ⟨?_, ?_, ?_, ?_, ?_, ?_, ?_, ?_, ?_, ?_, ?_, ?_, ?_, ?_, ?_, ?_, ?_, ?_, ?_, ?_, ?_, ?_, ?_, ?_, ?_, ?_, ?_, ?_⟩ <;> intro h <;> first | exact absurd h (by decide) | exact rfl⟩)
    · skip
      subst hsw2
      refine R_tableIn hC dX12_count_23 (off := 143) (by omega) (by omega) rfl (tgt := 166) (by decide) ?_
      refine R_aload_0 hC dX12_count_166 ?_
      refine R_iconst hC dX12_count_167 ⟨by decide, by decide⟩ ?_
      have hG9 : GR Mc1 := (GR.fr (GR.uF hG (by decide +kernel) (by decide)) hq2.1 (by decide +kernel))
      have hk10 : RW Mc1 0 c := (RW.fr (RW.uf hK (by decide)) hq2.1 (by decide +kernel))
      refine R_callVq (as := [vI _]) hC dX12_count_168 mo_12_everything ml_12_338 (by decide) rfl rfl (c12_everything  hG9 hk10 (by omega) (by omega) hM) rfl rfl hRm (by decide) (by decide) (Nat.le_of_ble_eq_true rfl) ?_
      exact R_ireturn hC dX12_count_171 rfl (ret_P ⟨hFa, hTa, by (rw [if_pos hok]; exact h4q), fun _ => by
          refine ⟨?_, ?_, ?_, ?_, ?_, ?_, ?_, ?_, ?_, ?_, ?_, ?_, ?_, ?_, ?_, ?_, ?_, ?_, ?_, ?_, ?_, ?_, ?_, ?_, ?_, ?_, ?_, ?_⟩ <;> intro h <;> first | exact absurd h (by decide) | exact rfl⟩)
    · skip
      subst hsw2
      refine R_tableIn hC dX12_count_23 (off := 149) (by omega) (by omega) rfl (tgt := 172) (by decide) ?_
      refine R_aload_0 hC dX12_count_172 ?_
      have hG11 : GR Mc1 := (GR.fr (GR.uF hG (by decide +kernel) (by decide)) hq2.1 (by decide +kernel))
      refine R_getR hC dX12_count_173 fl_12_9 (by decide) rfl (by decide) (by decide) (fi := 0) rfl (r := 58) (gr_57_0 hG11) ?_
      refine R_bipush hC dX12_count_176 (by decide +kernel) ⟨by decide, by decide⟩ ?_
      have hk12 : RW Mc1 0 c := (RW.fr (RW.uf hK (by decide)) hq2.1 (by decide +kernel))
      refine R_ialoadE hC dX12_count_178 (by decide) rfl (by omega) (by omega) (hk12.r5 (k := 119) (by omega) (by omega) (by omega)) ?_
      exact R_ireturn hC dX12_count_179 rfl (ret_P ⟨hFa, hTa, by (rw [if_pos hok]; exact h4q), fun _ => by
          refine ⟨?_, ?_, ?_, ?_, ?_, ?_, ?_, ?_, ?_, ?_, ?_, ?_, ?_, ?_, ?_, ?_, ?_, ?_, ?_, ?_, ?_, ?_, ?_, ?_, ?_, ?_, ?_, ?_⟩ <;> intro h <;> first | exact absurd h (by decide) | exact rfl⟩)
    · skip
      subst hsw2
      refine R_tableIn hC dX12_count_23 (off := 157) (by omega) (by omega) rfl (tgt := 180) (by decide) ?_
      refine R_aload_0 hC dX12_count_180 ?_
      refine R_iconst hC dX12_count_181 ⟨by decide, by decide⟩ ?_
      have hG13 : GR Mc1 := (GR.fr (GR.uF hG (by decide +kernel) (by decide)) hq2.1 (by decide +kernel))
      have hk14 : RW Mc1 0 c := (RW.fr (RW.uf hK (by decide)) hq2.1 (by decide +kernel))
      refine R_callVp (as := [vI _]) hC dX12_count_182 mo_12_isPlanOf ml_12_296 (by decide) rfl rfl (c12_isPlanOf  hG13 hk14 (by omega) (by omega) hM) rfl rfl hRm (by decide) (by decide) (Nat.le_of_ble_eq_true rfl) (fun v17 Mc15 hq16 => ?_)
      have hFp : Fr [58, 63, 64, 65, 66, 67, 68, 69, 70, 71, 72, 77, 78, 79, 80] [(57, 4), (57, 22), (57, 23), (57, 30), (57, 47), (57, 48), (57, 49), (57, 52), (57, 53), (57, 54)] M Mc15 := Fr.tt hFa (hq16.1.mo (by simp) (by simp))
      have hTp : TRo M Mc15 := TRo.tr hTa (TRo.of hq16.1 (by decide) (by decide))
      have h4p : Mc15 57 4 = 0 := (hq16.1 57 4 (by decide) (by simp)).trans h4q
      refine R_if_eq hC dX12_count_185 (tgt := 192) (by decide) (fun hb185 => ?_) (fun hb185 => ?_)
      · skip
        refine R_iconst hC dX12_count_192 ⟨by decide, by decide⟩ ?_
        exact R_ireturn hC dX12_count_193 rfl (ret_P ⟨hFp, hTp, by (rw [if_pos hok]; exact h4p), fun _ => by
            refine ⟨?_, ?_, ?_, ?_, ?_, ?_, ?_, ?_, ?_, ?_, ?_, ?_, ?_, ?_, ?_, ?_, ?_, ?_, ?_, ?_, ?_, ?_, ?_, ?_, ?_, ?_, ?_, ?_⟩ <;> intro h <;> first | exact absurd h (by decide) | exact (bP_pos (bP_nz (fun z => hb185 (hq16.2.2.trans z)))).symm | exact (bP_neg (bP_z (hq16.2.2.symm.trans hb185))).symm⟩)
      · skip
        refine R_iconst hC dX12_count_188 ⟨by decide, by decide⟩ ?_
        refine R_goto hC dX12_count_189 (tgt := 193) (by decide) ?_
        exact R_ireturn hC dX12_count_193 rfl (ret_P ⟨hFp, hTp, by (rw [if_pos hok]; exact h4p), fun _ => by
            refine ⟨?_, ?_, ?_, ?_, ?_, ?_, ?_, ?_, ?_, ?_, ?_, ?_, ?_, ?_, ?_, ?_, ?_, ?_, ?_, ?_, ?_, ?_, ?_, ?_, ?_, ?_, ?_, ?_⟩ <;> intro h <;> first | exact absurd h (by decide) | exact (bP_pos (bP_nz (fun z => hb185 (hq16.2.2.trans z)))).symm | exact (bP_neg (bP_z (hq16.2.2.symm.trans hb185))).symm⟩)
    · skip
      subst hsw2
      refine R_tableIn hC dX12_count_23 (off := 171) (by omega) (by omega) rfl (tgt := 194) (by decide) ?_
      refine R_aload_0 hC dX12_count_194 ?_
      refine R_iconst hC dX12_count_195 ⟨by decide, by decide⟩ ?_
      have hG18 : GR Mc1 := (GR.fr (GR.uF hG (by decide +kernel) (by decide)) hq2.1 (by decide +kernel))
      have hk19 : RW Mc1 0 c := (RW.fr (RW.uf hK (by decide)) hq2.1 (by decide +kernel))
      refine R_callVp (as := [vI _]) hC dX12_count_196 mo_12_spaceOf ml_12_172 (by decide) rfl rfl (c12_spaceOf  hG18 hk19 (by omega) (by omega) hM) rfl rfl hRm (by decide) (by decide) (Nat.le_of_ble_eq_true rfl) (fun v22 Mc20 hq21 => ?_)
      have hFs : Fr [58, 63, 64, 65, 66, 67, 68, 69, 70, 71, 72, 77, 78, 79, 80] [(57, 4), (57, 22), (57, 23), (57, 30), (57, 47), (57, 48), (57, 49), (57, 52), (57, 53), (57, 54)] M Mc20 := Fr.tt hFa (hq21.1.mo (by simp) (by simp))
      have hTs : TRo M Mc20 := TRo.tr hTa (TRo.of hq21.1 (by decide) (by decide))
      have h4s : Mc20 57 4 = 0 := (hq21.1 57 4 (by decide) (by simp)).trans h4q
      exact R_ireturn hC dX12_count_199 rfl (ret_P ⟨hFs, hTs, by (rw [if_pos hok]; exact h4s), fun _ => by
          refine ⟨?_, ?_, ?_, ?_, ?_, ?_, ?_, ?_, ?_, ?_, ?_, ?_, ?_, ?_, ?_, ?_, ?_, ?_, ?_, ?_, ?_, ?_, ?_, ?_, ?_, ?_, ?_, ?_⟩ <;> intro h <;> first | exact absurd h (by decide) | exact hq21.2⟩)
    · skip
      subst hsw2
      refine R_tableIn hC dX12_count_23 (off := 177) (by omega) (by omega) rfl (tgt := 200) (by decide) ?_
      refine R_aload_0 hC dX12_count_200 ?_
      refine R_iconst hC dX12_count_201 ⟨by decide, by decide⟩ ?_
      have hG23 : GR Mc1 := (GR.fr (GR.uF hG (by decide +kernel) (by decide)) hq2.1 (by decide +kernel))
      have hk24 : RW Mc1 0 c := (RW.fr (RW.uf hK (by decide)) hq2.1 (by decide +kernel))
      refine R_callVp (as := [vI _]) hC dX12_count_202 mo_12_plans ml_12_190 (by decide) rfl rfl (c12_plans  hG23 hk24 (by omega) (by omega) hM) rfl rfl hRm (by decide) (by decide) (Nat.le_of_ble_eq_true rfl) (fun v27 Mc25 hq26 => ?_)
      have hFl : Fr [58, 63, 64, 65, 66, 67, 68, 69, 70, 71, 72, 77, 78, 79, 80] [(57, 4), (57, 22), (57, 23), (57, 30), (57, 47), (57, 48), (57, 49), (57, 52), (57, 53), (57, 54)] M Mc25 := Fr.tt hFa (hq26.1.mo (by simp) (by simp))
      have hTl : TRo M Mc25 := TRo.tr hTa (TRo.of hq26.1 (by decide) (by decide))
      have h4l : Mc25 57 4 = 0 := (hq26.1 57 4 (by decide) (by simp)).trans h4q
      refine R_if_eq hC dX12_count_205 (tgt := 215) (by decide) (fun hb205 => ?_) (fun hb205 => ?_)
      · skip
        refine R_iconst hC dX12_count_215 ⟨by decide, by decide⟩ ?_
        exact R_ireturn hC dX12_count_216 rfl (ret_P ⟨hFl, hTl, by (rw [if_pos hok]; exact h4l), fun _ => by
            refine ⟨?_, ?_, ?_, ?_, ?_, ?_, ?_, ?_, ?_, ?_, ?_, ?_, ?_, ?_, ?_, ?_, ?_, ?_, ?_, ?_, ?_, ?_, ?_, ?_, ?_, ?_, ?_, ?_⟩ <;> intro h <;> first | exact absurd h (by decide) | exact (itc_t (bP_nz (fun z => hb205 (hq26.2.1.trans z)))).symm | exact (itc_f (bP_z (hq26.2.1.symm.trans hb205))).symm⟩)
      · skip
        refine R_aload_0 hC dX12_count_208 ?_
        have hG28 : GR Mc25 := (GR.fr hG23 hq26.1 (by decide +kernel))
        have hk29 : RW Mc25 0 c := (RW.fr hk24 hq26.1 (by decide +kernel))
        refine R_callVq (as := []) hC dX12_count_209 mo_12_planned ml_12_341 (by decide) rfl rfl (c12_planned (P := (plT (insOf c))) hG28 hk29 hM hq26.2.2 (fun q q0 => plT_3 hI q0)) rfl rfl hRm (by decide) (by decide) (Nat.le_of_ble_eq_true rfl) ?_
        refine R_goto hC dX12_count_212 (tgt := 216) (by decide) ?_
        exact R_ireturn hC dX12_count_216 rfl (ret_P ⟨hFl, hTl, by (rw [if_pos hok]; exact h4l), fun _ => by
            refine ⟨?_, ?_, ?_, ?_, ?_, ?_, ?_, ?_, ?_, ?_, ?_, ?_, ?_, ?_, ?_, ?_, ?_, ?_, ?_, ?_, ?_, ?_, ?_, ?_, ?_, ?_, ?_, ?_⟩ <;> intro h <;> first | exact absurd h (by decide) | exact (itc_t (bP_nz (fun z => hb205 (hq26.2.1.trans z)))).symm | exact (itc_f (bP_z (hq26.2.1.symm.trans hb205))).symm⟩)
    · skip
      subst hsw2
      refine R_tableIn hC dX12_count_23 (off := 194) (by omega) (by omega) rfl (tgt := 217) (by decide) ?_
      refine R_aload_0 hC dX12_count_217 ?_
      have hG30 : GR Mc1 := (GR.fr (GR.uF hG (by decide +kernel) (by decide)) hq2.1 (by decide +kernel))
      have hk31 : RW Mc1 0 c := (RW.fr (RW.uf hK (by decide)) hq2.1 (by decide +kernel))
      refine R_callVp (as := []) hC dX12_count_218 mo_12_changes ml_12_344 (by decide) rfl rfl (c12_changes  hG30 hk31 hM) rfl rfl hRm (by decide) (by decide) (Nat.le_of_ble_eq_true rfl) (fun v34 Mc32 hq33 => ?_)
      have hFg : Fr [58, 63, 64, 65, 66, 67, 68, 69, 70, 71, 72, 77, 78, 79, 80] [(57, 4), (57, 22), (57, 23), (57, 30), (57, 47), (57, 48), (57, 49), (57, 52), (57, 53), (57, 54)] M Mc32 := Fr.tt hFa (hq33.1.mo (by simp) (by simp))
      have hTg : TRo M Mc32 := TRo.tr hTa (TRo.of hq33.1 (by decide) (by decide))
      have h4g : Mc32 57 4 = 0 := (hq33.1 57 4 (by decide) (by simp)).trans h4q
      exact R_ireturn hC dX12_count_221 rfl (ret_P ⟨hFg, hTg, by (rw [if_pos hok]; exact h4g), fun _ => by
          refine ⟨?_, ?_, ?_, ?_, ?_, ?_, ?_, ?_, ?_, ?_, ?_, ?_, ?_, ?_, ?_, ?_, ?_, ?_, ?_, ?_, ?_, ?_, ?_, ?_, ?_, ?_, ?_, ?_⟩ <;> intro h <;> first | exact absurd h (by decide) | exact hq33.2⟩)
    · skip
      subst hsw2
      refine R_tableIn hC dX12_count_23 (off := 199) (by omega) (by omega) rfl (tgt := 222) (by decide) ?_
      refine R_aload_0 hC dX12_count_222 ?_
      refine R_iload_1 hC dX12_count_223 ?_
      have hG35 : GR Mc1 := (GR.fr (GR.uF hG (by decide +kernel) (by decide)) hq2.1 (by decide +kernel))
      have hk36 : RW Mc1 0 c := (RW.fr (RW.uf hK (by decide)) hq2.1 (by decide +kernel))
      refine R_callVp (as := [vI _]) hC dX12_count_224 mo_12_shortageTold ml_12_347 (by decide) rfl rfl (c12_shortageTold  hG35 hk36 hS) rfl rfl hRm (by decide) (by decide) (Nat.le_of_ble_eq_true rfl) (fun v39 Mc37 hq38 => ?_)
      have hFh : Fr [58, 63, 64, 65, 66, 67, 68, 69, 70, 71, 72, 77, 78, 79, 80] [(57, 4), (57, 22), (57, 23), (57, 30), (57, 47), (57, 48), (57, 49), (57, 52), (57, 53), (57, 54)] M Mc37 := Fr.tt hFa (hq38.1.mo (by simp) (by simp))
      have hTh : TRo M Mc37 := TRo.tr hTa (TRo.of hq38.1 (by decide) (by decide))
      have h4h : Mc37 57 4 = 0 := (hq38.1 57 4 (by decide) (by simp)).trans h4q
      exact R_ireturn hC dX12_count_227 rfl (ret_P ⟨hFh, hTh, by (rw [if_pos hok]; exact h4h), fun _ => by
          refine ⟨?_, ?_, ?_, ?_, ?_, ?_, ?_, ?_, ?_, ?_, ?_, ?_, ?_, ?_, ?_, ?_, ?_, ?_, ?_, ?_, ?_, ?_, ?_, ?_, ?_, ?_, ?_, ?_⟩ <;> intro h <;> first | exact absurd h (by decide) | exact hq38.2.trans (if_pos rfl) | exact hq38.2.trans ((if_neg (by decide)).trans (if_pos rfl)) | exact hq38.2.trans ((if_neg (by decide)).trans (if_neg (by decide)))⟩)
    · skip
      subst hsw2
      refine R_tableIn hC dX12_count_23 (off := 199) (by omega) (by omega) rfl (tgt := 222) (by decide) ?_
      refine R_aload_0 hC dX12_count_222 ?_
      refine R_iload_1 hC dX12_count_223 ?_
      have hG40 : GR Mc1 := (GR.fr (GR.uF hG (by decide +kernel) (by decide)) hq2.1 (by decide +kernel))
      have hk41 : RW Mc1 0 c := (RW.fr (RW.uf hK (by decide)) hq2.1 (by decide +kernel))
      refine R_callVp (as := [vI _]) hC dX12_count_224 mo_12_shortageTold ml_12_347 (by decide) rfl rfl (c12_shortageTold  hG40 hk41 hS) rfl rfl hRm (by decide) (by decide) (Nat.le_of_ble_eq_true rfl) (fun v44 Mc42 hq43 => ?_)
      have hFh : Fr [58, 63, 64, 65, 66, 67, 68, 69, 70, 71, 72, 77, 78, 79, 80] [(57, 4), (57, 22), (57, 23), (57, 30), (57, 47), (57, 48), (57, 49), (57, 52), (57, 53), (57, 54)] M Mc42 := Fr.tt hFa (hq43.1.mo (by simp) (by simp))
      have hTh : TRo M Mc42 := TRo.tr hTa (TRo.of hq43.1 (by decide) (by decide))
      have h4h : Mc42 57 4 = 0 := (hq43.1 57 4 (by decide) (by simp)).trans h4q
      exact R_ireturn hC dX12_count_227 rfl (ret_P ⟨hFh, hTh, by (rw [if_pos hok]; exact h4h), fun _ => by
          refine ⟨?_, ?_, ?_, ?_, ?_, ?_, ?_, ?_, ?_, ?_, ?_, ?_, ?_, ?_, ?_, ?_, ?_, ?_, ?_, ?_, ?_, ?_, ?_, ?_, ?_, ?_, ?_, ?_⟩ <;> intro h <;> first | exact absurd h (by decide) | exact hq43.2.trans (if_pos rfl) | exact hq43.2.trans ((if_neg (by decide)).trans (if_pos rfl)) | exact hq43.2.trans ((if_neg (by decide)).trans (if_neg (by decide)))⟩)
    · skip
      subst hsw2
      refine R_tableIn hC dX12_count_23 (off := 199) (by omega) (by omega) rfl (tgt := 222) (by decide) ?_
      refine R_aload_0 hC dX12_count_222 ?_
      refine R_iload_1 hC dX12_count_223 ?_
      have hG45 : GR Mc1 := (GR.fr (GR.uF hG (by decide +kernel) (by decide)) hq2.1 (by decide +kernel))
      have hk46 : RW Mc1 0 c := (RW.fr (RW.uf hK (by decide)) hq2.1 (by decide +kernel))
      refine R_callVp (as := [vI _]) hC dX12_count_224 mo_12_shortageTold ml_12_347 (by decide) rfl rfl (c12_shortageTold  hG45 hk46 hS) rfl rfl hRm (by decide) (by decide) (Nat.le_of_ble_eq_true rfl) (fun v49 Mc47 hq48 => ?_)
      have hFh : Fr [58, 63, 64, 65, 66, 67, 68, 69, 70, 71, 72, 77, 78, 79, 80] [(57, 4), (57, 22), (57, 23), (57, 30), (57, 47), (57, 48), (57, 49), (57, 52), (57, 53), (57, 54)] M Mc47 := Fr.tt hFa (hq48.1.mo (by simp) (by simp))
      have hTh : TRo M Mc47 := TRo.tr hTa (TRo.of hq48.1 (by decide) (by decide))
      have h4h : Mc47 57 4 = 0 := (hq48.1 57 4 (by decide) (by simp)).trans h4q
      exact R_ireturn hC dX12_count_227 rfl (ret_P ⟨hFh, hTh, by (rw [if_pos hok]; exact h4h), fun _ => by
          refine ⟨?_, ?_, ?_, ?_, ?_, ?_, ?_, ?_, ?_, ?_, ?_, ?_, ?_, ?_, ?_, ?_, ?_, ?_, ?_, ?_, ?_, ?_, ?_, ?_, ?_, ?_, ?_, ?_⟩ <;> intro h <;> first | exact absurd h (by decide) | exact hq48.2.trans (if_pos rfl) | exact hq48.2.trans ((if_neg (by decide)).trans (if_pos rfl)) | exact hq48.2.trans ((if_neg (by decide)).trans (if_neg (by decide)))⟩)
    · skip
      subst hsw2
      refine R_tableIn hC dX12_count_23 (off := 205) (by omega) (by omega) rfl (tgt := 228) (by decide) ?_
      refine R_aload_0 hC dX12_count_228 ?_
      have hG50 : GR Mc1 := (GR.fr (GR.uF hG (by decide +kernel) (by decide)) hq2.1 (by decide +kernel))
      have hk51 : RW Mc1 0 c := (RW.fr (RW.uf hK (by decide)) hq2.1 (by decide +kernel))
      refine R_callVp (as := []) hC dX12_count_229 mo_12_late ml_12_350 (by decide) rfl rfl (c12_late  hG50 hk51 hS) rfl rfl hRm (by decide) (by decide) (Nat.le_of_ble_eq_true rfl) (fun v54 Mc52 hq53 => ?_)
      have hFj : Fr [58, 63, 64, 65, 66, 67, 68, 69, 70, 71, 72, 77, 78, 79, 80] [(57, 4), (57, 22), (57, 23), (57, 30), (57, 47), (57, 48), (57, 49), (57, 52), (57, 53), (57, 54)] M Mc52 := Fr.tt hFa (hq53.1.mo (by simp) (by simp))
      have hTj : TRo M Mc52 := TRo.tr hTa (hq53.2.1)
      have h4j : Mc52 57 4 = 0 := (hq53.1 57 4 (by decide) (by simp)).trans h4q
      exact R_ireturn hC dX12_count_232 rfl (ret_P ⟨hFj, hTj, by (rw [if_pos hok]; exact h4j), fun _ => by
          refine ⟨?_, ?_, ?_, ?_, ?_, ?_, ?_, ?_, ?_, ?_, ?_, ?_, ?_, ?_, ?_, ?_, ?_, ?_, ?_, ?_, ?_, ?_, ?_, ?_, ?_, ?_, ?_, ?_⟩ <;> intro h <;> first | exact absurd h (by decide) | exact hq53.2.2⟩)
    · skip
      subst hsw2
      refine R_tableIn hC dX12_count_23 (off := 210) (by omega) (by omega) rfl (tgt := 233) (by decide) ?_
      refine R_aload_0 hC dX12_count_233 ?_
      refine R_iload_1 hC dX12_count_234 ?_
      refine R_bipush hC dX12_count_235 (by decide +kernel) ⟨by decide, by decide⟩ ?_
      refine R_icmp_ne hC dX12_count_237 (tgt := 244) (by decide) (fun hb237 => ?_) (fun hb237 => ?_)
      · skip
        refine R_iconst hC dX12_count_244 ⟨by decide, by decide⟩ ?_
        have hG55 : GR Mc1 := (GR.fr (GR.uF hG (by decide +kernel) (by decide)) hq2.1 (by decide +kernel))
        have hk56 : RW Mc1 0 c := (RW.fr (RW.uf hK (by decide)) hq2.1 (by decide +kernel))
        refine R_callVp (as := [vI _]) hC dX12_count_245 mo_12_inTheWay ml_12_353 (by decide) rfl rfl (c12_inTheWay  hG55 hk56 hS) rfl rfl hRm (by decide) (by decide) (Nat.le_of_ble_eq_true rfl) (fun v59 Mc57 hq58 => ?_)
        have hFi : Fr [58, 63, 64, 65, 66, 67, 68, 69, 70, 71, 72, 77, 78, 79, 80] [(57, 4), (57, 22), (57, 23), (57, 30), (57, 47), (57, 48), (57, 49), (57, 52), (57, 53), (57, 54)] M Mc57 := Fr.tt hFa (hq58.1.mo (by simp) (by simp))
        have hTi : TRo M Mc57 := TRo.tr hTa (hq58.2.1)
        have h4i : Mc57 57 4 = 0 := (hq58.1 57 4 (by decide) (by simp)).trans h4q
        exact R_ireturn hC dX12_count_248 rfl (ret_P ⟨hFi, hTi, by (rw [if_pos hok]; exact h4i), fun _ => by
            refine ⟨?_, ?_, ?_, ?_, ?_, ?_, ?_, ?_, ?_, ?_, ?_, ?_, ?_, ?_, ?_, ?_, ?_, ?_, ?_, ?_, ?_, ?_, ?_, ?_, ?_, ?_, ?_, ?_⟩ <;> intro h <;> first | exact absurd h (by decide) | exact absurd hb237 (by decide) | exact hq58.2.2⟩)
      · skip
        refine R_iconst hC dX12_count_240 ⟨by decide, by decide⟩ ?_
        refine R_goto hC dX12_count_241 (tgt := 245) (by decide) ?_
        have hG60 : GR Mc1 := (GR.fr (GR.uF hG (by decide +kernel) (by decide)) hq2.1 (by decide +kernel))
        have hk61 : RW Mc1 0 c := (RW.fr (RW.uf hK (by decide)) hq2.1 (by decide +kernel))
        refine R_callVp (as := [vI _]) hC dX12_count_245 mo_12_inTheWay ml_12_353 (by decide) rfl rfl (c12_inTheWay  hG60 hk61 hS) rfl rfl hRm (by decide) (by decide) (Nat.le_of_ble_eq_true rfl) (fun v64 Mc62 hq63 => ?_)
        have hFi : Fr [58, 63, 64, 65, 66, 67, 68, 69, 70, 71, 72, 77, 78, 79, 80] [(57, 4), (57, 22), (57, 23), (57, 30), (57, 47), (57, 48), (57, 49), (57, 52), (57, 53), (57, 54)] M Mc62 := Fr.tt hFa (hq63.1.mo (by simp) (by simp))
        have hTi : TRo M Mc62 := TRo.tr hTa (hq63.2.1)
        have h4i : Mc62 57 4 = 0 := (hq63.1 57 4 (by decide) (by simp)).trans h4q
        exact R_ireturn hC dX12_count_248 rfl (ret_P ⟨hFi, hTi, by (rw [if_pos hok]; exact h4i), fun _ => by
            refine ⟨?_, ?_, ?_, ?_, ?_, ?_, ?_, ?_, ?_, ?_, ?_, ?_, ?_, ?_, ?_, ?_, ?_, ?_, ?_, ?_, ?_, ?_, ?_, ?_, ?_, ?_, ?_, ?_⟩ <;> intro h <;> first | exact absurd h (by decide) | exact absurd hb237 (by decide) | exact hq63.2.2⟩)
    · skip
      subst hsw2
      refine R_tableIn hC dX12_count_23 (off := 210) (by omega) (by omega) rfl (tgt := 233) (by decide) ?_
      refine R_aload_0 hC dX12_count_233 ?_
      refine R_iload_1 hC dX12_count_234 ?_
      refine R_bipush hC dX12_count_235 (by decide +kernel) ⟨by decide, by decide⟩ ?_
      refine R_icmp_ne hC dX12_count_237 (tgt := 244) (by decide) (fun hb237 => ?_) (fun hb237 => ?_)
      · skip
        refine R_iconst hC dX12_count_244 ⟨by decide, by decide⟩ ?_
        have hG65 : GR Mc1 := (GR.fr (GR.uF hG (by decide +kernel) (by decide)) hq2.1 (by decide +kernel))
        have hk66 : RW Mc1 0 c := (RW.fr (RW.uf hK (by decide)) hq2.1 (by decide +kernel))
        refine R_callVp (as := [vI _]) hC dX12_count_245 mo_12_inTheWay ml_12_353 (by decide) rfl rfl (c12_inTheWay  hG65 hk66 hS) rfl rfl hRm (by decide) (by decide) (Nat.le_of_ble_eq_true rfl) (fun v69 Mc67 hq68 => ?_)
        have hFi : Fr [58, 63, 64, 65, 66, 67, 68, 69, 70, 71, 72, 77, 78, 79, 80] [(57, 4), (57, 22), (57, 23), (57, 30), (57, 47), (57, 48), (57, 49), (57, 52), (57, 53), (57, 54)] M Mc67 := Fr.tt hFa (hq68.1.mo (by simp) (by simp))
        have hTi : TRo M Mc67 := TRo.tr hTa (hq68.2.1)
        have h4i : Mc67 57 4 = 0 := (hq68.1 57 4 (by decide) (by simp)).trans h4q
        exact R_ireturn hC dX12_count_248 rfl (ret_P ⟨hFi, hTi, by (rw [if_pos hok]; exact h4i), fun _ => by
            refine ⟨?_, ?_, ?_, ?_, ?_, ?_, ?_, ?_, ?_, ?_, ?_, ?_, ?_, ?_, ?_, ?_, ?_, ?_, ?_, ?_, ?_, ?_, ?_, ?_, ?_, ?_, ?_, ?_⟩ <;> intro h <;> first | exact absurd h (by decide) | exact absurd hb237 (by decide) | exact hq68.2.2⟩)
      · skip
        refine R_iconst hC dX12_count_240 ⟨by decide, by decide⟩ ?_
        refine R_goto hC dX12_count_241 (tgt := 245) (by decide) ?_
        have hG70 : GR Mc1 := (GR.fr (GR.uF hG (by decide +kernel) (by decide)) hq2.1 (by decide +kernel))
        have hk71 : RW Mc1 0 c := (RW.fr (RW.uf hK (by decide)) hq2.1 (by decide +kernel))
        refine R_callVp (as := [vI _]) hC dX12_count_245 mo_12_inTheWay ml_12_353 (by decide) rfl rfl (c12_inTheWay  hG70 hk71 hS) rfl rfl hRm (by decide) (by decide) (Nat.le_of_ble_eq_true rfl) (fun v74 Mc72 hq73 => ?_)
        have hFi : Fr [58, 63, 64, 65, 66, 67, 68, 69, 70, 71, 72, 77, 78, 79, 80] [(57, 4), (57, 22), (57, 23), (57, 30), (57, 47), (57, 48), (57, 49), (57, 52), (57, 53), (57, 54)] M Mc72 := Fr.tt hFa (hq73.1.mo (by simp) (by simp))
        have hTi : TRo M Mc72 := TRo.tr hTa (hq73.2.1)
        have h4i : Mc72 57 4 = 0 := (hq73.1 57 4 (by decide) (by simp)).trans h4q
        exact R_ireturn hC dX12_count_248 rfl (ret_P ⟨hFi, hTi, by (rw [if_pos hok]; exact h4i), fun _ => by
            refine ⟨?_, ?_, ?_, ?_, ?_, ?_, ?_, ?_, ?_, ?_, ?_, ?_, ?_, ?_, ?_, ?_, ?_, ?_, ?_, ?_, ?_, ?_, ?_, ?_, ?_, ?_, ?_, ?_⟩ <;> intro h <;> first | exact absurd h (by decide) | exact absurd hb237 (by decide) | exact hq73.2.2⟩)
    · skip
      subst hsw2
      refine R_tableIn hC dX12_count_23 (off := 226) (by omega) (by omega) rfl (tgt := 249) (by decide) ?_
      refine R_aload_0 hC dX12_count_249 ?_
      have hG75 : GR Mc1 := (GR.fr (GR.uF hG (by decide +kernel) (by decide)) hq2.1 (by decide +kernel))
      have hk76 : RW Mc1 0 c := (RW.fr (RW.uf hK (by decide)) hq2.1 (by decide +kernel))
      refine R_callVq (as := []) hC dX12_count_250 mo_12_lastOnes ml_12_357 (by decide) rfl rfl (c12_lastOnes  hG75 hk76 hS) rfl rfl hRm (by decide) (by decide) (Nat.le_of_ble_eq_true rfl) ?_
      exact R_ireturn hC dX12_count_253 rfl (ret_P ⟨hFa, hTa, by (rw [if_pos hok]; exact h4q), fun _ => by
          refine ⟨?_, ?_, ?_, ?_, ?_, ?_, ?_, ?_, ?_, ?_, ?_, ?_, ?_, ?_, ?_, ?_, ?_, ?_, ?_, ?_, ?_, ?_, ?_, ?_, ?_, ?_, ?_, ?_⟩ <;> intro h <;> first | exact absurd h (by decide) | exact rfl⟩)
    · skip
      subst hsw2
      refine R_tableIn hC dX12_count_23 (off := 231) (by omega) (by omega) rfl (tgt := 254) (by decide) ?_
      refine R_aload_0 hC dX12_count_254 ?_
      have hG77 : GR Mc1 := (GR.fr (GR.uF hG (by decide +kernel) (by decide)) hq2.1 (by decide +kernel))
      have hk78 : RW Mc1 0 c := (RW.fr (RW.uf hK (by decide)) hq2.1 (by decide +kernel))
      refine R_callVq (as := []) hC dX12_count_255 mo_12_shortOnes ml_12_360 (by decide) rfl rfl (c12_shortOnes  hG77 hk78 hS) rfl rfl hRm (by decide) (by decide) (Nat.le_of_ble_eq_true rfl) ?_
      exact R_ireturn hC dX12_count_258 rfl (ret_P ⟨hFa, hTa, by (rw [if_pos hok]; exact h4q), fun _ => by
          refine ⟨?_, ?_, ?_, ?_, ?_, ?_, ?_, ?_, ?_, ?_, ?_, ?_, ?_, ?_, ?_, ?_, ?_, ?_, ?_, ?_, ?_, ?_, ?_, ?_, ?_, ?_, ?_, ?_⟩ <;> intro h <;> first | exact absurd h (by decide) | exact rfl⟩)
    · skip
      subst hsw2
      refine R_tableIn hC dX12_count_23 (off := 236) (by omega) (by omega) rfl (tgt := 259) (by decide) ?_
      refine R_aload_0 hC dX12_count_259 ?_
      refine R_getI hC dX12_count_260 fl_12_287 (by decide) rfl (by decide) (by decide) (fi := 7) rfl ?_
      exact R_ireturn hC dX12_count_263 rfl (ret_P ⟨hFa, hTa, by (rw [if_pos hok]; exact h4q), fun _ => by
          refine ⟨?_, ?_, ?_, ?_, ?_, ?_, ?_, ?_, ?_, ?_, ?_, ?_, ?_, ?_, ?_, ?_, ?_, ?_, ?_, ?_, ?_, ?_, ?_, ?_, ?_, ?_, ?_, ?_⟩ <;> intro h <;> first | exact absurd h (by decide) | exact hFa 57 7 (by decide) (by decide)⟩)
    · skip
      subst hsw2
      refine R_tableIn hC dX12_count_23 (off := 241) (by omega) (by omega) rfl (tgt := 264) (by decide) ?_
      refine R_aload_0 hC dX12_count_264 ?_
      refine R_getI hC dX12_count_265 fl_12_281 (by decide) rfl (by decide) (by decide) (fi := 9) rfl ?_
      exact R_ireturn hC dX12_count_268 rfl (ret_P ⟨hFa, hTa, by (rw [if_pos hok]; exact h4q), fun _ => by
          refine ⟨?_, ?_, ?_, ?_, ?_, ?_, ?_, ?_, ?_, ?_, ?_, ?_, ?_, ?_, ?_, ?_, ?_, ?_, ?_, ?_, ?_, ?_, ?_, ?_, ?_, ?_, ?_, ?_⟩ <;> intro h <;> first | exact absurd h (by decide) | exact hFa 57 9 (by decide) (by decide)⟩)
    · skip
      subst hsw2
      refine R_tableIn hC dX12_count_23 (off := 246) (by omega) (by omega) rfl (tgt := 269) (by decide) ?_
      refine R_aload_0 hC dX12_count_269 ?_
      refine R_getI hC dX12_count_270 fl_12_266 (by decide) rfl (by decide) (by decide) (fi := 16) rfl ?_
      exact R_ireturn hC dX12_count_273 rfl (ret_P ⟨hFa, hTa, by (rw [if_pos hok]; exact h4q), fun _ => by
          refine ⟨?_, ?_, ?_, ?_, ?_, ?_, ?_, ?_, ?_, ?_, ?_, ?_, ?_, ?_, ?_, ?_, ?_, ?_, ?_, ?_, ?_, ?_, ?_, ?_, ?_, ?_, ?_, ?_⟩ <;> intro h <;> first | exact absurd h (by decide) | exact hFa 57 16 (by decide) (by decide)⟩)
    · skip
      subst hsw2
      refine R_tableIn hC dX12_count_23 (off := 287) (by omega) (by omega) rfl (tgt := 310) (by decide) ?_
      refine R_aload_0 hC dX12_count_310 ?_
      have hG79 : GR Mc1 := (GR.fr (GR.uF hG (by decide +kernel) (by decide)) hq2.1 (by decide +kernel))
      refine R_getR hC dX12_count_311 fl_12_19 (by decide) rfl (by decide) (by decide) (fi := 3) rfl (r := 61) (gr_57_3 hG79) ?_
      refine R_iload_1 hC dX12_count_314 ?_
      refine R_bipush hC dX12_count_315 (by decide +kernel) ⟨by decide, by decide⟩ ?_
      refine R_isub hC dX12_count_317 ⟨by omega, by omega⟩ ?_
      refine R_iaload hC dX12_count_318 (by decide) rfl (by omega) (by omega) ?_
      exact R_ireturn hC dX12_count_319 rfl (ret_P ⟨hFa, hTa, by (rw [if_pos hok]; exact h4q), fun _ => by
          first | exact absurd hok (by omega) | refine ⟨?_, ?_, ?_, ?_, ?_, ?_, ?_, ?_, ?_, ?_, ?_, ?_, ?_, ?_, ?_, ?_, ?_, ?_, ?_, ?_, ?_, ?_, ?_, ?_, ?_, ?_, ?_, ?_⟩ <;> intro h <;> first | exact absurd h (by decide) | exact hFa 61 _ (by decide) (by simp)⟩)
    · skip
      subst hsw2
      refine R_tableIn hC dX12_count_23 (off := 287) (by omega) (by omega) rfl (tgt := 310) (by decide) ?_
      refine R_aload_0 hC dX12_count_310 ?_
      have hG80 : GR Mc1 := (GR.fr (GR.uF hG (by decide +kernel) (by decide)) hq2.1 (by decide +kernel))
      refine R_getR hC dX12_count_311 fl_12_19 (by decide) rfl (by decide) (by decide) (fi := 3) rfl (r := 61) (gr_57_3 hG80) ?_
      refine R_iload_1 hC dX12_count_314 ?_
      refine R_bipush hC dX12_count_315 (by decide +kernel) ⟨by decide, by decide⟩ ?_
      refine R_isub hC dX12_count_317 ⟨by omega, by omega⟩ ?_
      refine R_iaload hC dX12_count_318 (by decide) rfl (by omega) (by omega) ?_
      exact R_ireturn hC dX12_count_319 rfl (ret_P ⟨hFa, hTa, by (rw [if_pos hok]; exact h4q), fun _ => by
          first | exact absurd hok (by omega) | refine ⟨?_, ?_, ?_, ?_, ?_, ?_, ?_, ?_, ?_, ?_, ?_, ?_, ?_, ?_, ?_, ?_, ?_, ?_, ?_, ?_, ?_, ?_, ?_, ?_, ?_, ?_, ?_, ?_⟩ <;> intro h <;> first | exact absurd h (by decide) | exact hFa 61 _ (by decide) (by simp)⟩)
    · skip
      subst hsw2
      refine R_tableIn hC dX12_count_23 (off := 287) (by omega) (by omega) rfl (tgt := 310) (by decide) ?_
      refine R_aload_0 hC dX12_count_310 ?_
      have hG81 : GR Mc1 := (GR.fr (GR.uF hG (by decide +kernel) (by decide)) hq2.1 (by decide +kernel))
      refine R_getR hC dX12_count_311 fl_12_19 (by decide) rfl (by decide) (by decide) (fi := 3) rfl (r := 61) (gr_57_3 hG81) ?_
      refine R_iload_1 hC dX12_count_314 ?_
      refine R_bipush hC dX12_count_315 (by decide +kernel) ⟨by decide, by decide⟩ ?_
      refine R_isub hC dX12_count_317 ⟨by omega, by omega⟩ ?_
      refine R_iaload hC dX12_count_318 (by decide) rfl (by omega) (by omega) ?_
      exact R_ireturn hC dX12_count_319 rfl (ret_P ⟨hFa, hTa, by (rw [if_pos hok]; exact h4q), fun _ => by
          first | exact absurd hok (by omega) | refine ⟨?_, ?_, ?_, ?_, ?_, ?_, ?_, ?_, ?_, ?_, ?_, ?_, ?_, ?_, ?_, ?_, ?_, ?_, ?_, ?_, ?_, ?_, ?_, ?_, ?_, ?_, ?_, ?_⟩ <;> intro h <;> first | exact absurd h (by decide) | exact hFa 61 _ (by decide) (by simp)⟩)
    · skip
      subst hsw2
      refine R_tableIn hC dX12_count_23 (off := 251) (by omega) (by omega) rfl (tgt := 274) (by decide) ?_
      refine R_aload_0 hC dX12_count_274 ?_
      refine R_iload_1 hC dX12_count_275 ?_
      refine R_bipush hC dX12_count_276 (by decide +kernel) ⟨by decide, by decide⟩ ?_
      refine R_icmp_ne hC dX12_count_278 (tgt := 285) (by decide) (fun hb278 => ?_) (fun hb278 => ?_)
      · skip
        refine R_iconst hC dX12_count_285 ⟨by decide, by decide⟩ ?_
        have hG82 : GR Mc1 := (GR.fr (GR.uF hG (by decide +kernel) (by decide)) hq2.1 (by decide +kernel))
        have hk83 : RW Mc1 0 c := (RW.fr (RW.uf hK (by decide)) hq2.1 (by decide +kernel))
        refine R_callVp (as := [vI _]) hC dX12_count_286 mo_12_help ml_12_363 (by decide) rfl rfl (c12_help  hG82 hk83 hS) rfl rfl hRm (by decide) (by decide) (Nat.le_of_ble_eq_true rfl) (fun v86 Mc84 hq85 => ?_)
        have hFe : Fr [58, 63, 64, 65, 66, 67, 68, 69, 70, 71, 72, 77, 78, 79, 80] [(57, 4), (57, 22), (57, 23), (57, 30), (57, 47), (57, 48), (57, 49), (57, 52), (57, 53), (57, 54)] M Mc84 := Fr.tt hFa (hq85.1.mo (by simp) (by simp))
        have hTe : TRo M Mc84 := TRo.tr hTa (hq85.2.1)
        have h4e : Mc84 57 4 = 0 := (hq85.1 57 4 (by decide) (by simp)).trans h4q
        exact R_ireturn hC dX12_count_289 rfl (ret_P ⟨hFe, hTe, by (rw [if_pos hok]; exact h4e), fun _ => by
            refine ⟨?_, ?_, ?_, ?_, ?_, ?_, ?_, ?_, ?_, ?_, ?_, ?_, ?_, ?_, ?_, ?_, ?_, ?_, ?_, ?_, ?_, ?_, ?_, ?_, ?_, ?_, ?_, ?_⟩ <;> intro h <;> first | exact absurd h (by decide) | exact absurd hb278 (by decide) | exact hq85.2.2⟩)
      · skip
        refine R_iconst hC dX12_count_281 ⟨by decide, by decide⟩ ?_
        refine R_goto hC dX12_count_282 (tgt := 286) (by decide) ?_
        have hG87 : GR Mc1 := (GR.fr (GR.uF hG (by decide +kernel) (by decide)) hq2.1 (by decide +kernel))
        have hk88 : RW Mc1 0 c := (RW.fr (RW.uf hK (by decide)) hq2.1 (by decide +kernel))
        refine R_callVp (as := [vI _]) hC dX12_count_286 mo_12_help ml_12_363 (by decide) rfl rfl (c12_help  hG87 hk88 hS) rfl rfl hRm (by decide) (by decide) (Nat.le_of_ble_eq_true rfl) (fun v91 Mc89 hq90 => ?_)
        have hFe : Fr [58, 63, 64, 65, 66, 67, 68, 69, 70, 71, 72, 77, 78, 79, 80] [(57, 4), (57, 22), (57, 23), (57, 30), (57, 47), (57, 48), (57, 49), (57, 52), (57, 53), (57, 54)] M Mc89 := Fr.tt hFa (hq90.1.mo (by simp) (by simp))
        have hTe : TRo M Mc89 := TRo.tr hTa (hq90.2.1)
        have h4e : Mc89 57 4 = 0 := (hq90.1 57 4 (by decide) (by simp)).trans h4q
        exact R_ireturn hC dX12_count_289 rfl (ret_P ⟨hFe, hTe, by (rw [if_pos hok]; exact h4e), fun _ => by
            refine ⟨?_, ?_, ?_, ?_, ?_, ?_, ?_, ?_, ?_, ?_, ?_, ?_, ?_, ?_, ?_, ?_, ?_, ?_, ?_, ?_, ?_, ?_, ?_, ?_, ?_, ?_, ?_, ?_⟩ <;> intro h <;> first | exact absurd h (by decide) | exact absurd hb278 (by decide) | exact hq90.2.2⟩)
    · skip
      subst hsw2
      refine R_tableIn hC dX12_count_23 (off := 251) (by omega) (by omega) rfl (tgt := 274) (by decide) ?_
      refine R_aload_0 hC dX12_count_274 ?_
      refine R_iload_1 hC dX12_count_275 ?_
      refine R_bipush hC dX12_count_276 (by decide +kernel) ⟨by decide, by decide⟩ ?_
      refine R_icmp_ne hC dX12_count_278 (tgt := 285) (by decide) (fun hb278 => ?_) (fun hb278 => ?_)
      · skip
        refine R_iconst hC dX12_count_285 ⟨by decide, by decide⟩ ?_
        have hG92 : GR Mc1 := (GR.fr (GR.uF hG (by decide +kernel) (by decide)) hq2.1 (by decide +kernel))
        have hk93 : RW Mc1 0 c := (RW.fr (RW.uf hK (by decide)) hq2.1 (by decide +kernel))
        refine R_callVp (as := [vI _]) hC dX12_count_286 mo_12_help ml_12_363 (by decide) rfl rfl (c12_help  hG92 hk93 hS) rfl rfl hRm (by decide) (by decide) (Nat.le_of_ble_eq_true rfl) (fun v96 Mc94 hq95 => ?_)
        have hFe : Fr [58, 63, 64, 65, 66, 67, 68, 69, 70, 71, 72, 77, 78, 79, 80] [(57, 4), (57, 22), (57, 23), (57, 30), (57, 47), (57, 48), (57, 49), (57, 52), (57, 53), (57, 54)] M Mc94 := Fr.tt hFa (hq95.1.mo (by simp) (by simp))
        have hTe : TRo M Mc94 := TRo.tr hTa (hq95.2.1)
        have h4e : Mc94 57 4 = 0 := (hq95.1 57 4 (by decide) (by simp)).trans h4q
        exact R_ireturn hC dX12_count_289 rfl (ret_P ⟨hFe, hTe, by (rw [if_pos hok]; exact h4e), fun _ => by
            refine ⟨?_, ?_, ?_, ?_, ?_, ?_, ?_, ?_, ?_, ?_, ?_, ?_, ?_, ?_, ?_, ?_, ?_, ?_, ?_, ?_, ?_, ?_, ?_, ?_, ?_, ?_, ?_, ?_⟩ <;> intro h <;> first | exact absurd h (by decide) | exact absurd hb278 (by decide) | exact hq95.2.2⟩)
      · skip
        refine R_iconst hC dX12_count_281 ⟨by decide, by decide⟩ ?_
        refine R_goto hC dX12_count_282 (tgt := 286) (by decide) ?_
        have hG97 : GR Mc1 := (GR.fr (GR.uF hG (by decide +kernel) (by decide)) hq2.1 (by decide +kernel))
        have hk98 : RW Mc1 0 c := (RW.fr (RW.uf hK (by decide)) hq2.1 (by decide +kernel))
        refine R_callVp (as := [vI _]) hC dX12_count_286 mo_12_help ml_12_363 (by decide) rfl rfl (c12_help  hG97 hk98 hS) rfl rfl hRm (by decide) (by decide) (Nat.le_of_ble_eq_true rfl) (fun v101 Mc99 hq100 => ?_)
        have hFe : Fr [58, 63, 64, 65, 66, 67, 68, 69, 70, 71, 72, 77, 78, 79, 80] [(57, 4), (57, 22), (57, 23), (57, 30), (57, 47), (57, 48), (57, 49), (57, 52), (57, 53), (57, 54)] M Mc99 := Fr.tt hFa (hq100.1.mo (by simp) (by simp))
        have hTe : TRo M Mc99 := TRo.tr hTa (hq100.2.1)
        have h4e : Mc99 57 4 = 0 := (hq100.1 57 4 (by decide) (by simp)).trans h4q
        exact R_ireturn hC dX12_count_289 rfl (ret_P ⟨hFe, hTe, by (rw [if_pos hok]; exact h4e), fun _ => by
            refine ⟨?_, ?_, ?_, ?_, ?_, ?_, ?_, ?_, ?_, ?_, ?_, ?_, ?_, ?_, ?_, ?_, ?_, ?_, ?_, ?_, ?_, ?_, ?_, ?_, ?_, ?_, ?_, ?_⟩ <;> intro h <;> first | exact absurd h (by decide) | exact absurd hb278 (by decide) | exact hq100.2.2⟩)
    · skip
      subst hsw2
      refine R_tableIn hC dX12_count_23 (off := 267) (by omega) (by omega) rfl (tgt := 290) (by decide) ?_
      refine R_aload_0 hC dX12_count_290 ?_
      have hk102 : RW Mc1 0 c := (RW.fr (RW.uf hK (by decide)) hq2.1 (by decide +kernel))
      refine R_getIE hC dX12_count_291 fl_12_275 (by decide) rfl (by decide) (by decide) (fi := 14) rfl hk102.o ?_
      exact R_ireturn hC dX12_count_294 rfl (ret_P ⟨hFa, hTa, by (rw [if_pos hok]; exact h4q), fun _ => by
          refine ⟨?_, ?_, ?_, ?_, ?_, ?_, ?_, ?_, ?_, ?_, ?_, ?_, ?_, ?_, ?_, ?_, ?_, ?_, ?_, ?_, ?_, ?_, ?_, ?_, ?_, ?_, ?_, ?_⟩ <;> intro h <;> first | exact absurd h (by decide) | exact rfl⟩)
    · skip
      subst hsw2
      refine R_tableIn hC dX12_count_23 (off := 272) (by omega) (by omega) rfl (tgt := 295) (by decide) ?_
      refine R_aload_0 hC dX12_count_295 ?_
      refine R_iconst hC dX12_count_296 ⟨by decide, by decide⟩ ?_
      have hG103 : GR Mc1 := (GR.fr (GR.uF hG (by decide +kernel) (by decide)) hq2.1 (by decide +kernel))
      have hk104 : RW Mc1 0 c := (RW.fr (RW.uf hK (by decide)) hq2.1 (by decide +kernel))
      refine R_callVq (as := [vI _]) hC dX12_count_297 mo_12_stored ml_12_366 (by decide) rfl rfl (c12_stored  hG103 hk104 (by omega) (by omega) hM) rfl rfl hRm (by decide) (by decide) (Nat.le_of_ble_eq_true rfl) ?_
      exact R_ireturn hC dX12_count_300 rfl (ret_P ⟨hFa, hTa, by (rw [if_pos hok]; exact h4q), fun _ => by
          refine ⟨?_, ?_, ?_, ?_, ?_, ?_, ?_, ?_, ?_, ?_, ?_, ?_, ?_, ?_, ?_, ?_, ?_, ?_, ?_, ?_, ?_, ?_, ?_, ?_, ?_, ?_, ?_, ?_⟩ <;> intro h <;> first | exact absurd h (by decide) | exact rfl⟩)
    · skip
      subst hsw2
      refine R_tableIn hC dX12_count_23 (off := 278) (by omega) (by omega) rfl (tgt := 301) (by decide) ?_
      refine R_aload_0 hC dX12_count_301 ?_
      have hG105 : GR Mc1 := (GR.fr (GR.uF hG (by decide +kernel) (by decide)) hq2.1 (by decide +kernel))
      have hk106 : RW Mc1 0 c := (RW.fr (RW.uf hK (by decide)) hq2.1 (by decide +kernel))
      refine R_callVv (as := []) hC dX12_count_302 mo_12_laysOrders ml_12_369 (by decide) rfl rfl (c12_laysOrders (b := b) hG105 hk106 hS hb) rfl rfl hRm (by decide) (by decide) (Nat.le_of_ble_eq_true rfl) (fun Mc107 hq108 => ?_)
      have hFo : Fr [58, 63, 64, 65, 66, 67, 68, 69, 70, 71, 72, 77, 78, 79, 80] [(57, 4), (57, 22), (57, 23), (57, 30), (57, 47), (57, 48), (57, 49), (57, 52), (57, 53), (57, 54)] M Mc107 := Fr.tt hFa (hq108.1.mo (by simp) (by simp))
      have hTo : TRo M Mc107 := TRo.tr hTa (TRo.of hq108.1 (by decide) (by decide))
      have h4o : Mc107 57 4 = 0 := (hq108.1 57 4 (by decide) (by simp)).trans h4q
      refine R_aload_0 hC dX12_count_305 ?_
      refine R_getI hC dX12_count_306 fl_12_326 (by decide) rfl (by decide) (by decide) (fi := 49) rfl ?_
      exact R_ireturn hC dX12_count_309 rfl (ret_P ⟨hFo, hTo, by (rw [if_pos hok]; exact h4o), fun _ => by
          refine ⟨?_, ?_, ?_, ?_, ?_, ?_, ?_, ?_, ?_, ?_, ?_, ?_, ?_, ?_, ?_, ?_, ?_, ?_, ?_, ?_, ?_, ?_, ?_, ?_, ?_, ?_, ?_, ?_⟩ <;> intro h <;> first | exact absurd h (by decide) | exact hq108.2.2.1⟩)
  · skip
    have hno := rt_n h4a hva hb17
    refine R_iconst hC dX12_count_20 ⟨by decide, by decide⟩ ?_
    exact R_ireturn hC dX12_count_21 rfl (ret_P ⟨hFa, hTa, h4a, fun z => by (rw [if_neg hno] at z; cases z)⟩)
