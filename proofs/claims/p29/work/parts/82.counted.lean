/-! what is counted -/
theorem bits_get (p : Int → Prop) : ∀ (n k : Nat), k < n → bits n p / 2 ^ k % 2 = bP (p k)
  | 0, k, h => absurd h (Nat.not_lt_zero k)
  | n + 1, k, h => by
    have hb := bits_bd p n
    have e : bits (n + 1) p = bits n p + bP (p n) * 2 ^ n := by
      show sm n _ + _ = _
      simp [bits]
    have pp : ∀ m : Nat, (2 : Int) ^ m ≠ 0 := fun m => Int.ne_of_gt (Int.pow_pos (by decide))
    by_cases q : k = n
    · subst q
      rw [e, Int.add_mul_ediv_right _ _ (pp k), Int.ediv_eq_zero_of_lt hb.1 hb.2, Int.zero_add]
      rcases bP_01 (p k) with z | z <;> rw [z] <;> rfl
    · have ih := bits_get p n k (by omega)
      have hm : ∃ m, n = k + (m + 1) := ⟨n - k - 1, by omega⟩
      obtain ⟨m, hm⟩ := hm
      have e2 : bP (p n) * 2 ^ n = bP (p n) * 2 ^ m * 2 * 2 ^ k := by
        rw [hm, Int.pow_add, Int.pow_succ, Int.mul_assoc, Int.mul_assoc, Int.mul_comm (2 ^ k)]
        simp only [Int.mul_assoc]
      rw [e, e2, Int.add_mul_ediv_right _ _ (pp k), Int.add_mul_emod_self_right, ih]
theorem bits_g {p : Int → Prop} {n w : Int} (w0 : 0 ≤ w) (w1 : w < n) : bits n.toNat p / 2 ^ w.toNat % 2 ^ 1 = bP (p w) := by
  have z := bits_get p n.toNat w.toNat (by omega)
  rw [Int.toNat_of_nonneg w0] at z
  exact z

abbrev mW_isCounted : Mt := (yL_isCounted, cL_isCounted, 12, (some FieldType.boolean))
theorem mlW_126 : Cond.methodLink RL 126 Lib.Math.max.name ∈ Ts := Ts_in (in_t6 _ (List.mem_of_getElem? (i := 214) rfl)) rfl
theorem dX14_isCounted_0 : decode cL_isCounted 0 = .ok (.iconst 0, 1) := by decide +kernel
theorem dX14_isCounted_1 : decode cL_isCounted 1 = .ok (.istore_n 2, 1) := by decide +kernel
theorem dX14_isCounted_2 : decode cL_isCounted 2 = .ok (.iconst 0, 1) := by decide +kernel
theorem dX14_isCounted_3 : decode cL_isCounted 3 = .ok (.istore_n 3, 1) := by decide +kernel
theorem dX14_isCounted_4 : decode cL_isCounted 4 = .ok (.iconst 0, 1) := by decide +kernel
theorem dX14_isCounted_5 : decode cL_isCounted 5 = .ok (.istore 4, 2) := by decide +kernel
theorem dX14_isCounted_7 : decode cL_isCounted 7 = .ok (.iload 4, 2) := by decide +kernel
theorem dX14_isCounted_9 : decode cL_isCounted 9 = .ok (.aload_n 0, 1) := by decide +kernel
theorem dX14_isCounted_10 : decode cL_isCounted 10 = .ok (.invokestatic 66, 3) := by decide +kernel
theorem dX14_isCounted_13 : decode cL_isCounted 13 = .ok (.if_icmp .ge 389, 3) := by decide +kernel
theorem dX14_isCounted_16 : decode cL_isCounted 16 = .ok (.iconst 0, 1) := by decide +kernel
theorem dX14_isCounted_17 : decode cL_isCounted 17 = .ok (.istore 5, 2) := by decide +kernel
theorem dX14_isCounted_19 : decode cL_isCounted 19 = .ok (.iconst 0, 1) := by decide +kernel
theorem dX14_isCounted_20 : decode cL_isCounted 20 = .ok (.istore 6, 2) := by decide +kernel
theorem dX14_isCounted_22 : decode cL_isCounted 22 = .ok (.iconst 0, 1) := by decide +kernel
theorem dX14_isCounted_23 : decode cL_isCounted 23 = .ok (.istore 7, 2) := by decide +kernel
theorem dX14_isCounted_25 : decode cL_isCounted 25 = .ok (.iload 7, 2) := by decide +kernel
theorem dX14_isCounted_27 : decode cL_isCounted 27 = .ok (.aload_n 0, 1) := by decide +kernel
theorem dX14_isCounted_28 : decode cL_isCounted 28 = .ok (.invokestatic 40, 3) := by decide +kernel
theorem dX14_isCounted_31 : decode cL_isCounted 31 = .ok (.if_icmp .ge 205, 3) := by decide +kernel
theorem dX14_isCounted_34 : decode cL_isCounted 34 = .ok (.aload_n 1, 1) := by decide +kernel
theorem dX14_isCounted_35 : decode cL_isCounted 35 = .ok (.iload 7, 2) := by decide +kernel
theorem dX14_isCounted_37 : decode cL_isCounted 37 = .ok (.iload 4, 2) := by decide +kernel
theorem dX14_isCounted_39 : decode cL_isCounted 39 = .ok (.iconst 0, 1) := by decide +kernel
theorem dX14_isCounted_40 : decode cL_isCounted 40 = .ok (.invokevirtual 117, 3) := by decide +kernel
theorem dX14_isCounted_43 : decode cL_isCounted 43 = .ok (.istore 8, 2) := by decide +kernel
theorem dX14_isCounted_45 : decode cL_isCounted 45 = .ok (.iload 5, 2) := by decide +kernel
theorem dX14_isCounted_47 : decode cL_isCounted 47 = .ok (.iload 8, 2) := by decide +kernel
theorem dX14_isCounted_49 : decode cL_isCounted 49 = .ok (.iadd, 1) := by decide +kernel
theorem dX14_isCounted_50 : decode cL_isCounted 50 = .ok (.istore 5, 2) := by decide +kernel
theorem dX14_isCounted_52 : decode cL_isCounted 52 = .ok (.iload 8, 2) := by decide +kernel
theorem dX14_isCounted_54 : decode cL_isCounted 54 = .ok (.ifCond .le 12, 3) := by decide +kernel
theorem dX14_isCounted_57 : decode cL_isCounted 57 = .ok (.iload 6, 2) := by decide +kernel
theorem dX14_isCounted_59 : decode cL_isCounted 59 = .ok (.iconst 1, 1) := by decide +kernel
theorem dX14_isCounted_60 : decode cL_isCounted 60 = .ok (.iload 7, 2) := by decide +kernel
theorem dX14_isCounted_62 : decode cL_isCounted 62 = .ok (.ishl, 1) := by decide +kernel
theorem dX14_isCounted_63 : decode cL_isCounted 63 = .ok (.ior, 1) := by decide +kernel
theorem dX14_isCounted_64 : decode cL_isCounted 64 = .ok (.istore 6, 2) := by decide +kernel
theorem dX14_isCounted_66 : decode cL_isCounted 66 = .ok (.aload_n 1, 1) := by decide +kernel
theorem dX14_isCounted_67 : decode cL_isCounted 67 = .ok (.iload 7, 2) := by decide +kernel
theorem dX14_isCounted_69 : decode cL_isCounted 69 = .ok (.iload 4, 2) := by decide +kernel
theorem dX14_isCounted_71 : decode cL_isCounted 71 = .ok (.iconst 1, 1) := by decide +kernel
theorem dX14_isCounted_72 : decode cL_isCounted 72 = .ok (.invokevirtual 117, 3) := by decide +kernel
theorem dX14_isCounted_75 : decode cL_isCounted 75 = .ok (.ifCond .le 24, 3) := by decide +kernel
theorem dX14_isCounted_78 : decode cL_isCounted 78 = .ok (.aload_n 1, 1) := by decide +kernel
theorem dX14_isCounted_79 : decode cL_isCounted 79 = .ok (.iconst 2, 1) := by decide +kernel
theorem dX14_isCounted_80 : decode cL_isCounted 80 = .ok (.invokevirtual 111, 3) := by decide +kernel
theorem dX14_isCounted_83 : decode cL_isCounted 83 = .ok (.aload_n 1, 1) := by decide +kernel
theorem dX14_isCounted_84 : decode cL_isCounted 84 = .ok (.iload 7, 2) := by decide +kernel
theorem dX14_isCounted_86 : decode cL_isCounted 86 = .ok (.iload 4, 2) := by decide +kernel
theorem dX14_isCounted_88 : decode cL_isCounted 88 = .ok (.iconst 2, 1) := by decide +kernel
theorem dX14_isCounted_89 : decode cL_isCounted 89 = .ok (.invokevirtual 117, 3) := by decide +kernel
theorem dX14_isCounted_92 : decode cL_isCounted 92 = .ok (.if_icmp .gt 7, 3) := by decide +kernel
theorem dX14_isCounted_95 : decode cL_isCounted 95 = .ok (.iconst 1, 1) := by decide +kernel
theorem dX14_isCounted_96 : decode cL_isCounted 96 = .ok (.goto 4, 3) := by decide +kernel
theorem dX14_isCounted_99 : decode cL_isCounted 99 = .ok (.iconst 0, 1) := by decide +kernel
theorem dX14_isCounted_100 : decode cL_isCounted 100 = .ok (.istore 9, 2) := by decide +kernel
theorem dX14_isCounted_102 : decode cL_isCounted 102 = .ok (.iconst 0, 1) := by decide +kernel
theorem dX14_isCounted_103 : decode cL_isCounted 103 = .ok (.iload 8, 2) := by decide +kernel
theorem dX14_isCounted_105 : decode cL_isCounted 105 = .ok (.iload 9, 2) := by decide +kernel
theorem dX14_isCounted_107 : decode cL_isCounted 107 = .ok (.ifCond .eq 15, 3) := by decide +kernel
theorem dX14_isCounted_110 : decode cL_isCounted 110 = .ok (.aload_n 1, 1) := by decide +kernel
theorem dX14_isCounted_111 : decode cL_isCounted 111 = .ok (.iload 7, 2) := by decide +kernel
theorem dX14_isCounted_113 : decode cL_isCounted 113 = .ok (.iload 4, 2) := by decide +kernel
theorem dX14_isCounted_115 : decode cL_isCounted 115 = .ok (.iconst 1, 1) := by decide +kernel
theorem dX14_isCounted_116 : decode cL_isCounted 116 = .ok (.invokevirtual 117, 3) := by decide +kernel
theorem dX14_isCounted_119 : decode cL_isCounted 119 = .ok (.goto 4, 3) := by decide +kernel
theorem dX14_isCounted_122 : decode cL_isCounted 122 = .ok (.iconst 0, 1) := by decide +kernel
theorem dX14_isCounted_123 : decode cL_isCounted 123 = .ok (.isub, 1) := by decide +kernel
theorem dX14_isCounted_124 : decode cL_isCounted 124 = .ok (.invokestatic 126, 3) := by decide +kernel
theorem dX14_isCounted_127 : decode cL_isCounted 127 = .ok (.istore 10, 2) := by decide +kernel
theorem dX14_isCounted_129 : decode cL_isCounted 129 = .ok (.iload 8, 2) := by decide +kernel
theorem dX14_isCounted_131 : decode cL_isCounted 131 = .ok (.ifCond .lt 45, 3) := by decide +kernel
theorem dX14_isCounted_134 : decode cL_isCounted 134 = .ok (.iload 8, 2) := by decide +kernel
theorem dX14_isCounted_136 : decode cL_isCounted 136 = .ok (.iconst 3, 1) := by decide +kernel
theorem dX14_isCounted_137 : decode cL_isCounted 137 = .ok (.if_icmp .gt 39, 3) := by decide +kernel
theorem dX14_isCounted_140 : decode cL_isCounted 140 = .ok (.aload_n 1, 1) := by decide +kernel
theorem dX14_isCounted_141 : decode cL_isCounted 141 = .ok (.iload 7, 2) := by decide +kernel
theorem dX14_isCounted_143 : decode cL_isCounted 143 = .ok (.iload 4, 2) := by decide +kernel
theorem dX14_isCounted_145 : decode cL_isCounted 145 = .ok (.iconst 3, 1) := by decide +kernel
theorem dX14_isCounted_146 : decode cL_isCounted 146 = .ok (.invokevirtual 117, 3) := by decide +kernel
theorem dX14_isCounted_149 : decode cL_isCounted 149 = .ok (.iload 9, 2) := by decide +kernel
theorem dX14_isCounted_151 : decode cL_isCounted 151 = .ok (.ifCond .eq 7, 3) := by decide +kernel
theorem dX14_isCounted_154 : decode cL_isCounted 154 = .ok (.iconst 1, 1) := by decide +kernel
theorem dX14_isCounted_155 : decode cL_isCounted 155 = .ok (.goto 4, 3) := by decide +kernel
theorem dX14_isCounted_158 : decode cL_isCounted 158 = .ok (.iconst 0, 1) := by decide +kernel
theorem dX14_isCounted_159 : decode cL_isCounted 159 = .ok (.if_icmp .ne 17, 3) := by decide +kernel
theorem dX14_isCounted_162 : decode cL_isCounted 162 = .ok (.aload_n 1, 1) := by decide +kernel
theorem dX14_isCounted_163 : decode cL_isCounted 163 = .ok (.iload 7, 2) := by decide +kernel
theorem dX14_isCounted_165 : decode cL_isCounted 165 = .ok (.iload 4, 2) := by decide +kernel
theorem dX14_isCounted_167 : decode cL_isCounted 167 = .ok (.iconst 4, 1) := by decide +kernel
theorem dX14_isCounted_168 : decode cL_isCounted 168 = .ok (.invokevirtual 117, 3) := by decide +kernel
theorem dX14_isCounted_171 : decode cL_isCounted 171 = .ok (.iload 10, 2) := by decide +kernel
theorem dX14_isCounted_173 : decode cL_isCounted 173 = .ok (.if_icmp .eq 5, 3) := by decide +kernel
theorem dX14_isCounted_178 : decode cL_isCounted 178 = .ok (.iload 8, 2) := by decide +kernel
theorem dX14_isCounted_180 : decode cL_isCounted 180 = .ok (.ifCond .ne 7, 3) := by decide +kernel
theorem dX14_isCounted_183 : decode cL_isCounted 183 = .ok (.iconst 1, 1) := by decide +kernel
theorem dX14_isCounted_184 : decode cL_isCounted 184 = .ok (.goto 27, 3) := by decide +kernel
theorem dX14_isCounted_187 : decode cL_isCounted 187 = .ok (.iload 10, 2) := by decide +kernel
theorem dX14_isCounted_189 : decode cL_isCounted 189 = .ok (.ifCond .ne 7, 3) := by decide +kernel
theorem dX14_isCounted_192 : decode cL_isCounted 192 = .ok (.iconst 2, 1) := by decide +kernel
theorem dX14_isCounted_193 : decode cL_isCounted 193 = .ok (.goto 18, 3) := by decide +kernel
theorem dX14_isCounted_196 : decode cL_isCounted 196 = .ok (.aload_n 1, 1) := by decide +kernel
theorem dX14_isCounted_197 : decode cL_isCounted 197 = .ok (.iload 4, 2) := by decide +kernel
theorem dX14_isCounted_199 : decode cL_isCounted 199 = .ok (.iconst 3, 1) := by decide +kernel
theorem dX14_isCounted_200 : decode cL_isCounted 200 = .ok (.invokevirtual 120, 3) := by decide +kernel
theorem dX14_isCounted_203 : decode cL_isCounted 203 = .ok (.ifCond .ne 7, 3) := by decide +kernel
theorem dX14_isCounted_206 : decode cL_isCounted 206 = .ok (.iconst 3, 1) := by decide +kernel
theorem dX14_isCounted_207 : decode cL_isCounted 207 = .ok (.goto 4, 3) := by decide +kernel
theorem dX14_isCounted_210 : decode cL_isCounted 210 = .ok (.iconst 0, 1) := by decide +kernel
theorem dX14_isCounted_211 : decode cL_isCounted 211 = .ok (.istore 11, 2) := by decide +kernel
theorem dX14_isCounted_213 : decode cL_isCounted 213 = .ok (.aload_n 1, 1) := by decide +kernel
theorem dX14_isCounted_214 : decode cL_isCounted 214 = .ok (.iload 7, 2) := by decide +kernel
theorem dX14_isCounted_216 : decode cL_isCounted 216 = .ok (.iload 4, 2) := by decide +kernel
theorem dX14_isCounted_218 : decode cL_isCounted 218 = .ok (.bipush 6, 2) := by decide +kernel
theorem dX14_isCounted_220 : decode cL_isCounted 220 = .ok (.invokevirtual 117, 3) := by decide +kernel
theorem dX14_isCounted_223 : decode cL_isCounted 223 = .ok (.iload 11, 2) := by decide +kernel
theorem dX14_isCounted_225 : decode cL_isCounted 225 = .ok (.if_icmp .eq 5, 3) := by decide +kernel
theorem dX14_isCounted_230 : decode cL_isCounted 230 = .ok (.iinc 7 1, 3) := by decide +kernel
theorem dX14_isCounted_233 : decode cL_isCounted 233 = .ok (.goto (-208), 3) := by decide +kernel
theorem dX14_isCounted_236 : decode cL_isCounted 236 = .ok (.iload 5, 2) := by decide +kernel
theorem dX14_isCounted_238 : decode cL_isCounted 238 = .ok (.aload_n 1, 1) := by decide +kernel
theorem dX14_isCounted_239 : decode cL_isCounted 239 = .ok (.iload 4, 2) := by decide +kernel
theorem dX14_isCounted_241 : decode cL_isCounted 241 = .ok (.bipush 8, 2) := by decide +kernel
theorem dX14_isCounted_243 : decode cL_isCounted 243 = .ok (.invokevirtual 120, 3) := by decide +kernel
theorem dX14_isCounted_246 : decode cL_isCounted 246 = .ok (.iadd, 1) := by decide +kernel
theorem dX14_isCounted_247 : decode cL_isCounted 247 = .ok (.istore 7, 2) := by decide +kernel
theorem dX14_isCounted_249 : decode cL_isCounted 249 = .ok (.aload_n 1, 1) := by decide +kernel
theorem dX14_isCounted_250 : decode cL_isCounted 250 = .ok (.iload 4, 2) := by decide +kernel
theorem dX14_isCounted_252 : decode cL_isCounted 252 = .ok (.iconst 2, 1) := by decide +kernel
theorem dX14_isCounted_253 : decode cL_isCounted 253 = .ok (.invokevirtual 120, 3) := by decide +kernel
theorem dX14_isCounted_256 : decode cL_isCounted 256 = .ok (.iload 7, 2) := by decide +kernel
theorem dX14_isCounted_258 : decode cL_isCounted 258 = .ok (.if_icmp .ne 64, 3) := by decide +kernel
theorem dX14_isCounted_261 : decode cL_isCounted 261 = .ok (.aload_n 1, 1) := by decide +kernel
theorem dX14_isCounted_262 : decode cL_isCounted 262 = .ok (.iload 4, 2) := by decide +kernel
theorem dX14_isCounted_264 : decode cL_isCounted 264 = .ok (.bipush 7, 2) := by decide +kernel
theorem dX14_isCounted_266 : decode cL_isCounted 266 = .ok (.invokevirtual 120, 3) := by decide +kernel
theorem dX14_isCounted_269 : decode cL_isCounted 269 = .ok (.iload 6, 2) := by decide +kernel
theorem dX14_isCounted_271 : decode cL_isCounted 271 = .ok (.if_icmp .ne 51, 3) := by decide +kernel
theorem dX14_isCounted_274 : decode cL_isCounted 274 = .ok (.aload_n 1, 1) := by decide +kernel
theorem dX14_isCounted_275 : decode cL_isCounted 275 = .ok (.iload 4, 2) := by decide +kernel
theorem dX14_isCounted_277 : decode cL_isCounted 277 = .ok (.iconst 3, 1) := by decide +kernel
theorem dX14_isCounted_278 : decode cL_isCounted 278 = .ok (.invokevirtual 120, 3) := by decide +kernel
theorem dX14_isCounted_281 : decode cL_isCounted 281 = .ok (.iconst 0, 1) := by decide +kernel
theorem dX14_isCounted_282 : decode cL_isCounted 282 = .ok (.iload 7, 2) := by decide +kernel
theorem dX14_isCounted_284 : decode cL_isCounted 284 = .ok (.aload_n 1, 1) := by decide +kernel
theorem dX14_isCounted_285 : decode cL_isCounted 285 = .ok (.iload 4, 2) := by decide +kernel
theorem dX14_isCounted_287 : decode cL_isCounted 287 = .ok (.iconst 1, 1) := by decide +kernel
theorem dX14_isCounted_288 : decode cL_isCounted 288 = .ok (.invokevirtual 120, 3) := by decide +kernel
theorem dX14_isCounted_291 : decode cL_isCounted 291 = .ok (.isub, 1) := by decide +kernel
theorem dX14_isCounted_292 : decode cL_isCounted 292 = .ok (.invokestatic 126, 3) := by decide +kernel
theorem dX14_isCounted_295 : decode cL_isCounted 295 = .ok (.if_icmp .ne 27, 3) := by decide +kernel
theorem dX14_isCounted_298 : decode cL_isCounted 298 = .ok (.aload_n 1, 1) := by decide +kernel
theorem dX14_isCounted_299 : decode cL_isCounted 299 = .ok (.iload 4, 2) := by decide +kernel
theorem dX14_isCounted_301 : decode cL_isCounted 301 = .ok (.iconst 4, 1) := by decide +kernel
theorem dX14_isCounted_302 : decode cL_isCounted 302 = .ok (.invokevirtual 120, 3) := by decide +kernel
theorem dX14_isCounted_305 : decode cL_isCounted 305 = .ok (.iconst 0, 1) := by decide +kernel
theorem dX14_isCounted_306 : decode cL_isCounted 306 = .ok (.aload_n 1, 1) := by decide +kernel
theorem dX14_isCounted_307 : decode cL_isCounted 307 = .ok (.iload 4, 2) := by decide +kernel
theorem dX14_isCounted_309 : decode cL_isCounted 309 = .ok (.iconst 1, 1) := by decide +kernel
theorem dX14_isCounted_310 : decode cL_isCounted 310 = .ok (.invokevirtual 120, 3) := by decide +kernel
theorem dX14_isCounted_313 : decode cL_isCounted 313 = .ok (.iload 7, 2) := by decide +kernel
theorem dX14_isCounted_315 : decode cL_isCounted 315 = .ok (.isub, 1) := by decide +kernel
theorem dX14_isCounted_316 : decode cL_isCounted 316 = .ok (.invokestatic 126, 3) := by decide +kernel
theorem dX14_isCounted_319 : decode cL_isCounted 319 = .ok (.if_icmp .eq 5, 3) := by decide +kernel
theorem dX14_isCounted_324 : decode cL_isCounted 324 = .ok (.aload_n 1, 1) := by decide +kernel
theorem dX14_isCounted_325 : decode cL_isCounted 325 = .ok (.bipush 15, 2) := by decide +kernel
theorem dX14_isCounted_327 : decode cL_isCounted 327 = .ok (.invokevirtual 111, 3) := by decide +kernel
theorem dX14_isCounted_330 : decode cL_isCounted 330 = .ok (.iload 4, 2) := by decide +kernel
theorem dX14_isCounted_332 : decode cL_isCounted 332 = .ok (.ishr, 1) := by decide +kernel
theorem dX14_isCounted_333 : decode cL_isCounted 333 = .ok (.iconst 1, 1) := by decide +kernel
theorem dX14_isCounted_334 : decode cL_isCounted 334 = .ok (.iand, 1) := by decide +kernel
theorem dX14_isCounted_335 : decode cL_isCounted 335 = .ok (.iload 7, 2) := by decide +kernel
theorem dX14_isCounted_337 : decode cL_isCounted 337 = .ok (.iconst 1, 1) := by decide +kernel
theorem dX14_isCounted_338 : decode cL_isCounted 338 = .ok (.if_icmp .ne 7, 3) := by decide +kernel
theorem dX14_isCounted_341 : decode cL_isCounted 341 = .ok (.iconst 1, 1) := by decide +kernel
theorem dX14_isCounted_342 : decode cL_isCounted 342 = .ok (.goto 4, 3) := by decide +kernel
theorem dX14_isCounted_345 : decode cL_isCounted 345 = .ok (.iconst 0, 1) := by decide +kernel
theorem dX14_isCounted_346 : decode cL_isCounted 346 = .ok (.if_icmp .ne 32, 3) := by decide +kernel
theorem dX14_isCounted_349 : decode cL_isCounted 349 = .ok (.aload_n 1, 1) := by decide +kernel
theorem dX14_isCounted_350 : decode cL_isCounted 350 = .ok (.bipush 16, 2) := by decide +kernel
theorem dX14_isCounted_352 : decode cL_isCounted 352 = .ok (.invokevirtual 111, 3) := by decide +kernel
theorem dX14_isCounted_355 : decode cL_isCounted 355 = .ok (.iload 4, 2) := by decide +kernel
theorem dX14_isCounted_357 : decode cL_isCounted 357 = .ok (.ishr, 1) := by decide +kernel
theorem dX14_isCounted_358 : decode cL_isCounted 358 = .ok (.iconst 1, 1) := by decide +kernel
theorem dX14_isCounted_359 : decode cL_isCounted 359 = .ok (.iand, 1) := by decide +kernel
theorem dX14_isCounted_360 : decode cL_isCounted 360 = .ok (.aload_n 1, 1) := by decide +kernel
theorem dX14_isCounted_361 : decode cL_isCounted 361 = .ok (.iload 4, 2) := by decide +kernel
theorem dX14_isCounted_363 : decode cL_isCounted 363 = .ok (.iconst 4, 1) := by decide +kernel
theorem dX14_isCounted_364 : decode cL_isCounted 364 = .ok (.invokevirtual 120, 3) := by decide +kernel
theorem dX14_isCounted_367 : decode cL_isCounted 367 = .ok (.ifCond .le 7, 3) := by decide +kernel
theorem dX14_isCounted_370 : decode cL_isCounted 370 = .ok (.iconst 1, 1) := by decide +kernel
theorem dX14_isCounted_371 : decode cL_isCounted 371 = .ok (.goto 4, 3) := by decide +kernel
theorem dX14_isCounted_374 : decode cL_isCounted 374 = .ok (.iconst 0, 1) := by decide +kernel
theorem dX14_isCounted_375 : decode cL_isCounted 375 = .ok (.if_icmp .eq 5, 3) := by decide +kernel
theorem dX14_isCounted_380 : decode cL_isCounted 380 = .ok (.iload_n 2, 1) := by decide +kernel
theorem dX14_isCounted_381 : decode cL_isCounted 381 = .ok (.iload 5, 2) := by decide +kernel
theorem dX14_isCounted_383 : decode cL_isCounted 383 = .ok (.iadd, 1) := by decide +kernel
theorem dX14_isCounted_384 : decode cL_isCounted 384 = .ok (.istore_n 2, 1) := by decide +kernel
theorem dX14_isCounted_385 : decode cL_isCounted 385 = .ok (.iload_n 3, 1) := by decide +kernel
theorem dX14_isCounted_386 : decode cL_isCounted 386 = .ok (.aload_n 1, 1) := by decide +kernel
theorem dX14_isCounted_387 : decode cL_isCounted 387 = .ok (.iload 4, 2) := by decide +kernel
theorem dX14_isCounted_389 : decode cL_isCounted 389 = .ok (.bipush 8, 2) := by decide +kernel
theorem dX14_isCounted_391 : decode cL_isCounted 391 = .ok (.invokevirtual 120, 3) := by decide +kernel
theorem dX14_isCounted_394 : decode cL_isCounted 394 = .ok (.iadd, 1) := by decide +kernel
theorem dX14_isCounted_395 : decode cL_isCounted 395 = .ok (.istore_n 3, 1) := by decide +kernel
theorem dX14_isCounted_396 : decode cL_isCounted 396 = .ok (.iinc 4 1, 3) := by decide +kernel
theorem dX14_isCounted_399 : decode cL_isCounted 399 = .ok (.goto (-392), 3) := by decide +kernel
theorem dX14_isCounted_402 : decode cL_isCounted 402 = .ok (.aload_n 1, 1) := by decide +kernel
theorem dX14_isCounted_403 : decode cL_isCounted 403 = .ok (.iconst 3, 1) := by decide +kernel
theorem dX14_isCounted_404 : decode cL_isCounted 404 = .ok (.invokevirtual 111, 3) := by decide +kernel
theorem dX14_isCounted_407 : decode cL_isCounted 407 = .ok (.iload_n 2, 1) := by decide +kernel
theorem dX14_isCounted_408 : decode cL_isCounted 408 = .ok (.if_icmp .ne 27, 3) := by decide +kernel
theorem dX14_isCounted_411 : decode cL_isCounted 411 = .ok (.aload_n 1, 1) := by decide +kernel
theorem dX14_isCounted_412 : decode cL_isCounted 412 = .ok (.bipush 26, 2) := by decide +kernel
theorem dX14_isCounted_414 : decode cL_isCounted 414 = .ok (.invokevirtual 111, 3) := by decide +kernel
theorem dX14_isCounted_417 : decode cL_isCounted 417 = .ok (.iload_n 3, 1) := by decide +kernel
theorem dX14_isCounted_418 : decode cL_isCounted 418 = .ok (.if_icmp .ne 17, 3) := by decide +kernel
theorem dX14_isCounted_421 : decode cL_isCounted 421 = .ok (.iload_n 3, 1) := by decide +kernel
theorem dX14_isCounted_422 : decode cL_isCounted 422 = .ok (.aload_n 1, 1) := by decide +kernel
theorem dX14_isCounted_423 : decode cL_isCounted 423 = .ok (.bipush 25, 2) := by decide +kernel
theorem dX14_isCounted_425 : decode cL_isCounted 425 = .ok (.invokevirtual 111, 3) := by decide +kernel
theorem dX14_isCounted_428 : decode cL_isCounted 428 = .ok (.if_icmp .gt 7, 3) := by decide +kernel
theorem dX14_isCounted_431 : decode cL_isCounted 431 = .ok (.iconst 1, 1) := by decide +kernel
theorem dX14_isCounted_432 : decode cL_isCounted 432 = .ok (.goto 4, 3) := by decide +kernel
theorem dX14_isCounted_436 : decode cL_isCounted 436 = .ok (.ireturn, 1) := by decide +kernel
set_option maxHeartbeats 1000000 in
theorem c14_isCounted {G : Gl} {l : Launch}  {g0 : Nat → Nat} {M M0 : Mem} {d : Int → Int} (ga : KA g0 G.1) (hI : WI M0 d M) (hS : SP d) (hL : d 121 = libsN g0) (hW : d 122 = worksN g0) (hso : stor d ≤ d 120) : Ct G LY 57 l 10 mW_isCounted [vR 1030, vR 0] M (RP (fun v M' => WI M0 d M' ∧ v = 1)) := by
  refine R_start (by decide +kernel) (Nat.le_of_ble_eq_true rfl) (fun C hC hRm hlau => ?_)
  show RZ G LY C (Zn G LY 57 C (RP (fun v M' => WI M0 d M' ∧ v = 1))) 0 0 57 0 [some (vR 1030), some (vR 0), none, none, none, none, none, none, none, none, none, none] [] M
  have hlb := libsN_b g0
  have hwb := worksN_b g0
  have hBB := hS.B
  refine R_iconst hC dX14_isCounted_0 ⟨by decide, by decide⟩ ?_
  refine R_istore_2 hC dX14_isCounted_1 rfl ?_
  refine R_iconst hC dX14_isCounted_2 ⟨by decide, by decide⟩ ?_
  refine R_istore_3 hC dX14_isCounted_3 rfl ?_
  refine R_iconst hC dX14_isCounted_4 ⟨by decide, by decide⟩ ?_
  refine R_istore_4 hC dX14_isCounted_5 rfl ?_
  have L7 : ∀ (mq : Nat) (a : Int) (so : Int) (w : Int) (M1 : Mem), (0 ≤ w) → (w ≤ worksN g0) → (WI M0 d M1) → (a = sm w.toNat (fun w => sm (libsN g0).toNat (fun k => d (28 + k * 6 + w)))) → (so = sm w.toNat (fun w => d (22 + w))) → (0 ≤ a ∧ a ≤ 9 * w) → (0 ≤ so ∧ so ≤ 20 * w) → (worksN g0 - w).toNat < mq → RZ G LY C (Zn G LY 57 C (RP (fun v M' => WI M0 d M' ∧ v = 1))) 0 0 57 7 [some (vR 1030), some (vR 0), some (vI a), some (vI so), some (vI w), none, none, none, none, none, none, none] [] M1 := by
    intro mq
    induction mq with
    | zero =>
      intro a so w M1 w0 w1 hI ha hso1 ab sb hm
      exact absurd hm (Nat.not_lt_zero _)
    | succ mq ih7 =>
      intro a so w M1 w0 w1 hI ha hso1 ab sb hm7
      refine R_iload_4 hC dX14_isCounted_7 ?_
      refine R_aload_0 hC dX14_isCounted_9 ?_
      refine R_callSq (as := [vR _]) hC dX14_isCounted_10 momW_works mlW_66 (l_works  ga) rfl rfl hRm (by decide) (by decide) (Nat.le_of_ble_eq_true rfl) ?_
      refine R_icmp_ge hC dX14_isCounted_13 (tgt := 402) (by decide) (fun hb13 => ?_) (fun hb13 => ?_)
      · skip
        have ew : w = worksN g0 := by omega
        rw [ew] at ha hso1
        refine R_aload_1 hC dX14_isCounted_402 ?_
        refine R_iconst hC dX14_isCounted_403 ⟨by decide, by decide⟩ ?_
        refine R_callVp (as := [vI _]) hC dX14_isCounted_404 mo_11_count mlW_111 (by decide) rfl rfl (k_count_3  hI hS) rfl rfl hRm (by decide) (by decide) (Nat.le_of_ble_eq_true rfl) (fun v3 Mc1 hq2 => ?_)
        obtain ⟨hI4, rfl⟩ := hq2
        refine R_iload_2 hC dX14_isCounted_407 ?_
        refine R_icmp_ne hC dX14_isCounted_408 (tgt := 435) (by decide) (fun hb408 => ?_) (fun hb408 => ?_)
        · skip
          exact absurd (by rw [ha, sm_swap]; unfold heldAll inAll; rw [hL, hW]) hb408
        · skip
          refine R_aload_1 hC dX14_isCounted_411 ?_
          refine R_bipush hC dX14_isCounted_412 (by decide +kernel) ⟨by decide, by decide⟩ ?_
          refine R_callVp (as := [vI _]) hC dX14_isCounted_414 mo_11_count mlW_111 (by decide) rfl rfl (k_count_26  hI4 hS) rfl rfl hRm (by decide) (by decide) (Nat.le_of_ble_eq_true rfl) (fun v7 Mc5 hq6 => ?_)
          obtain ⟨hI8, rfl⟩ := hq6
          refine R_iload_3 hC dX14_isCounted_417 ?_
          refine R_icmp_ne hC dX14_isCounted_418 (tgt := 435) (by decide) (fun hb418 => ?_) (fun hb418 => ?_)
          · skip
            exact absurd (by rw [hso1]; unfold stor; rw [hW]) hb418
          · skip
            refine R_iload_3 hC dX14_isCounted_421 ?_
            refine R_aload_1 hC dX14_isCounted_422 ?_
            refine R_bipush hC dX14_isCounted_423 (by decide +kernel) ⟨by decide, by decide⟩ ?_
            refine R_callVp (as := [vI _]) hC dX14_isCounted_425 mo_11_count mlW_111 (by decide) rfl rfl (k_count_25  hI8 hS) rfl rfl hRm (by decide) (by decide) (Nat.le_of_ble_eq_true rfl) (fun v11 Mc9 hq10 => ?_)
            obtain ⟨hI12, rfl⟩ := hq10
            refine R_icmp_gt hC dX14_isCounted_428 (tgt := 435) (by decide) (fun hb428 => ?_) (fun hb428 => ?_)
            · skip
              exact absurd hso (by rw [show stor d = so by rw [hso1]; unfold stor; rw [hW]]; omega)
            · skip
              refine R_iconst hC dX14_isCounted_431 ⟨by decide, by decide⟩ ?_
              refine R_goto hC dX14_isCounted_432 (tgt := 436) (by decide) ?_
              exact R_zreturn hC dX14_isCounted_436 rfl (.inr rfl) (ret_P ⟨hI12, rfl⟩)
      · skip
        refine R_iconst hC dX14_isCounted_16 ⟨by decide, by decide⟩ ?_
        refine R_istore_5 hC dX14_isCounted_17 rfl ?_
        refine R_iconst hC dX14_isCounted_19 ⟨by decide, by decide⟩ ?_
        refine R_istore_6 hC dX14_isCounted_20 rfl ?_
        refine R_iconst hC dX14_isCounted_22 ⟨by decide, by decide⟩ ?_
        refine R_istore_7 hC dX14_isCounted_23 rfl ?_
        have L25 : ∀ (mq : Nat) (x : Int) (it : Int) (se : Int) (M2 : Mem), (0 ≤ x) → (x ≤ libsN g0) → (WI M0 d M2) → (it = sm x.toNat (fun k => d (28 + k * 6 + w))) → (se = bits x.toNat (fun k => 0 < d (28 + k * 6 + w))) → (0 ≤ it ∧ it ≤ 3 * x) → (libsN g0 - x).toNat < mq → RZ G LY C (Zn G LY 57 C (RP (fun v M' => WI M0 d M' ∧ v = 1))) 0 0 57 25 [some (vR 1030), some (vR 0), some (vI a), some (vI so), some (vI w), some (vI it), some (vI se), some (vI x), none, none, none, none] [] M2 := by
          intro mq
          induction mq with
          | zero =>
            intro x it se M2 x0 x1 hI hit hse ib hm
            exact absurd hm (Nat.not_lt_zero _)
          | succ mq ih25 =>
            intro x it se M2 x0 x1 hI hit hse ib hm25
            refine R_iload_7 hC dX14_isCounted_25 ?_
            refine R_aload_0 hC dX14_isCounted_27 ?_
            refine R_callSq (as := [vR _]) hC dX14_isCounted_28 momW_libraries mlW_40 (l_libs  ga) rfl rfl hRm (by decide) (by decide) (Nat.le_of_ble_eq_true rfl) ?_
            refine R_icmp_ge hC dX14_isCounted_31 (tgt := 236) (by decide) (fun hb31 => ?_) (fun hb31 => ?_)
            · skip
              have ex : x = libsN g0 := by omega
              rw [ex] at hit hse
              have hw20 := hS.2.2.1 w w0 (by omega)
              have hall : allOf d w = it + d (22 + w) := by unfold allOf; rw [hL, ← hit]; omega
              refine R_iload_5 hC dX14_isCounted_236 ?_
              refine R_aload_1 hC dX14_isCounted_238 ?_
              refine R_iload_4 hC dX14_isCounted_239 ?_
              refine R_bipush hC dX14_isCounted_241 (by decide +kernel) ⟨by decide, by decide⟩ ?_
              refine R_callVp (as := [vI _, vI _]) hC dX14_isCounted_243 mo_11_work mlW_120 (by decide) rfl rfl (k_work_8  hI hS (by omega) (by omega)) rfl rfl hRm (by decide) (by decide) (Nat.le_of_ble_eq_true rfl) (fun v15 Mc13 hq14 => ?_)
              obtain ⟨hI16, rfl⟩ := hq14
              refine R_iadd hC dX14_isCounted_246 ⟨by omega, by omega⟩ ?_
              refine R_istore_7 hC dX14_isCounted_247 rfl ?_
              refine R_aload_1 hC dX14_isCounted_249 ?_
              refine R_iload_4 hC dX14_isCounted_250 ?_
              refine R_iconst hC dX14_isCounted_252 ⟨by decide, by decide⟩ ?_
              refine R_callVp (as := [vI _, vI _]) hC dX14_isCounted_253 mo_11_work mlW_120 (by decide) rfl rfl (k_work_2  hI16 hS (by omega) (by omega)) rfl rfl hRm (by decide) (by decide) (Nat.le_of_ble_eq_true rfl) (fun v19 Mc17 hq18 => ?_)
              obtain ⟨hI20, rfl⟩ := hq18
              refine R_iload_7 hC dX14_isCounted_256 ?_
              refine R_icmp_ne hC dX14_isCounted_258 (tgt := 322) (by decide) (fun hb258 => ?_) (fun hb258 => ?_)
              · skip
                exact absurd hall hb258
              · skip
                refine R_aload_1 hC dX14_isCounted_261 ?_
                refine R_iload_4 hC dX14_isCounted_262 ?_
                refine R_bipush hC dX14_isCounted_264 (by decide +kernel) ⟨by decide, by decide⟩ ?_
                refine R_callVp (as := [vI _, vI _]) hC dX14_isCounted_266 mo_11_work mlW_120 (by decide) rfl rfl (k_work_7  hI20 hS (by omega) (by omega)) rfl rfl hRm (by decide) (by decide) (Nat.le_of_ble_eq_true rfl) (fun v23 Mc21 hq22 => ?_)
                obtain ⟨hI24, rfl⟩ := hq22
                refine R_iload_6 hC dX14_isCounted_269 ?_
                refine R_icmp_ne hC dX14_isCounted_271 (tgt := 322) (by decide) (fun hb271 => ?_) (fun hb271 => ?_)
                · skip
                  exact absurd (by rw [hse, hL]) hb271
                · skip
                  refine R_aload_1 hC dX14_isCounted_274 ?_
                  refine R_iload_4 hC dX14_isCounted_275 ?_
                  refine R_iconst hC dX14_isCounted_277 ⟨by decide, by decide⟩ ?_
                  refine R_callVp (as := [vI _, vI _]) hC dX14_isCounted_278 mo_11_work mlW_120 (by decide) rfl rfl (k_work_3  hI24 hS (by omega) (by omega)) rfl rfl hRm (by decide) (by decide) (Nat.le_of_ble_eq_true rfl) (fun v27 Mc25 hq26 => ?_)
                  obtain ⟨hI28, rfl⟩ := hq26
                  refine R_iconst hC dX14_isCounted_281 ⟨by decide, by decide⟩ ?_
                  refine R_iload_7 hC dX14_isCounted_282 ?_
                  refine R_aload_1 hC dX14_isCounted_284 ?_
                  refine R_iload_4 hC dX14_isCounted_285 ?_
                  refine R_iconst hC dX14_isCounted_287 ⟨by decide, by decide⟩ ?_
                  refine R_callVp (as := [vI _, vI _]) hC dX14_isCounted_288 mo_11_work mlW_120 (by decide) rfl rfl (k_work_1  hI28 hS (by omega) (by omega)) rfl rfl hRm (by decide) (by decide) (Nat.le_of_ble_eq_true rfl) (fun v31 Mc29 hq30 => ?_)
                  obtain ⟨hI32, rfl⟩ := hq30
                  refine R_isub hC dX14_isCounted_291 ⟨by omega, by omega⟩ ?_
                  refine R_max hC dX14_isCounted_292 mlW_126 hRm (by decide) (Nat.le_of_ble_eq_true rfl) ?_
                  refine R_icmp_ne hC dX14_isCounted_295 (tgt := 322) (by decide) (fun hb295 => ?_) (fun hb295 => ?_)
                  · skip
                    exact absurd (by unfold spr; rw [hall]) hb295
                  · skip
                    refine R_aload_1 hC dX14_isCounted_298 ?_
                    refine R_iload_4 hC dX14_isCounted_299 ?_
                    refine R_iconst hC dX14_isCounted_301 ⟨by decide, by decide⟩ ?_
                    refine R_callVp (as := [vI _, vI _]) hC dX14_isCounted_302 mo_11_work mlW_120 (by decide) rfl rfl (k_work_4  hI32 hS (by omega) (by omega)) rfl rfl hRm (by decide) (by decide) (Nat.le_of_ble_eq_true rfl) (fun v35 Mc33 hq34 => ?_)
                    obtain ⟨hI36, rfl⟩ := hq34
                    refine R_iconst hC dX14_isCounted_305 ⟨by decide, by decide⟩ ?_
                    refine R_aload_1 hC dX14_isCounted_306 ?_
                    refine R_iload_4 hC dX14_isCounted_307 ?_
                    refine R_iconst hC dX14_isCounted_309 ⟨by decide, by decide⟩ ?_
                    refine R_callVp (as := [vI _, vI _]) hC dX14_isCounted_310 mo_11_work mlW_120 (by decide) rfl rfl (k_work_1  hI36 hS (by omega) (by omega)) rfl rfl hRm (by decide) (by decide) (Nat.le_of_ble_eq_true rfl) (fun v39 Mc37 hq38 => ?_)
                    obtain ⟨hI40, rfl⟩ := hq38
                    refine R_iload_7 hC dX14_isCounted_313 ?_
                    refine R_isub hC dX14_isCounted_315 ⟨by omega, by omega⟩ ?_
                    refine R_max hC dX14_isCounted_316 mlW_126 hRm (by decide) (Nat.le_of_ble_eq_true rfl) ?_
                    refine R_icmp_eq hC dX14_isCounted_319 (tgt := 324) (by decide) (fun hb319 => ?_) (fun hb319 => ?_)
                    · skip
                      refine R_aload_1 hC dX14_isCounted_324 ?_
                      refine R_bipush hC dX14_isCounted_325 (by decide +kernel) ⟨by decide, by decide⟩ ?_
                      refine R_callVp (as := [vI _]) hC dX14_isCounted_327 mo_11_count mlW_111 (by decide) rfl rfl (k_count_15  hI40 hS) rfl rfl hRm (by decide) (by decide) (Nat.le_of_ble_eq_true rfl) (fun v43 Mc41 hq42 => ?_)
                      obtain ⟨hI44, rfl⟩ := hq42
                      refine R_iload_4 hC dX14_isCounted_330 ?_
                      refine R_ishr hC dX14_isCounted_332 (by omega) (by omega) ?_
                      refine R_iconst hC dX14_isCounted_333 ⟨by decide, by decide⟩ ?_
                      refine R_iandm hC dX14_isCounted_334 (m := 1) (by decide) (by decide) ?_
                      refine R_iload_7 hC dX14_isCounted_335 ?_
                      refine R_iconst hC dX14_isCounted_337 ⟨by decide, by decide⟩ ?_
                      refine R_icmp_ne hC dX14_isCounted_338 (tgt := 345) (by decide) (fun hb338 => ?_) (fun hb338 => ?_)
                      · skip
                        refine R_iconst hC dX14_isCounted_345 ⟨by decide, by decide⟩ ?_
                        refine R_icmp_ne hC dX14_isCounted_346 (tgt := 378) (by decide) (fun hb346 => ?_) (fun hb346 => ?_)
                        · skip
                          rw [bits_g (p := fun k => allOf d k = 1) w0 (by omega)] at hb346
                          first
                            | exact absurd (bP_pos (by show allOf d w = 1; omega)) hb346
                            | exact absurd (bP_neg (by show ¬ allOf d w = 1; omega)) hb346
                        · skip
                          refine R_aload_1 hC dX14_isCounted_349 ?_
                          refine R_bipush hC dX14_isCounted_350 (by decide +kernel) ⟨by decide, by decide⟩ ?_
                          refine R_callVp (as := [vI _]) hC dX14_isCounted_352 mo_11_count mlW_111 (by decide) rfl rfl (k_count_16  hI44 hS) rfl rfl hRm (by decide) (by decide) (Nat.le_of_ble_eq_true rfl) (fun v47 Mc45 hq46 => ?_)
                          obtain ⟨hI48, rfl⟩ := hq46
                          refine R_iload_4 hC dX14_isCounted_355 ?_
                          refine R_ishr hC dX14_isCounted_357 (by omega) (by omega) ?_
                          refine R_iconst hC dX14_isCounted_358 ⟨by decide, by decide⟩ ?_
                          refine R_iandm hC dX14_isCounted_359 (m := 1) (by decide) (by decide) ?_
                          refine R_aload_1 hC dX14_isCounted_360 ?_
                          refine R_iload_4 hC dX14_isCounted_361 ?_
                          refine R_iconst hC dX14_isCounted_363 ⟨by decide, by decide⟩ ?_
                          refine R_callVp (as := [vI _, vI _]) hC dX14_isCounted_364 mo_11_work mlW_120 (by decide) rfl rfl (k_work_4  hI48 hS (by omega) (by omega)) rfl rfl hRm (by decide) (by decide) (Nat.le_of_ble_eq_true rfl) (fun v51 Mc49 hq50 => ?_)
                          obtain ⟨hI52, rfl⟩ := hq50
                          refine R_if_le hC dX14_isCounted_367 (tgt := 374) (by decide) (fun hb367 => ?_) (fun hb367 => ?_)
                          · skip
                            refine R_iconst hC dX14_isCounted_374 ⟨by decide, by decide⟩ ?_
                            refine R_icmp_eq hC dX14_isCounted_375 (tgt := 380) (by decide) (fun hb375 => ?_) (fun hb375 => ?_)
                            · skip
                              refine R_iload_2 hC dX14_isCounted_380 ?_
                              refine R_iload_5 hC dX14_isCounted_381 ?_
                              refine R_iadd hC dX14_isCounted_383 ⟨by omega, by omega⟩ ?_
                              refine R_istore_2 hC dX14_isCounted_384 rfl ?_
                              refine R_iload_3 hC dX14_isCounted_385 ?_
                              refine R_aload_1 hC dX14_isCounted_386 ?_
                              refine R_iload_4 hC dX14_isCounted_387 ?_
                              refine R_bipush hC dX14_isCounted_389 (by decide +kernel) ⟨by decide, by decide⟩ ?_
                              refine R_callVp (as := [vI _, vI _]) hC dX14_isCounted_391 mo_11_work mlW_120 (by decide) rfl rfl (k_work_8  hI52 hS (by omega) (by omega)) rfl rfl hRm (by decide) (by decide) (Nat.le_of_ble_eq_true rfl) (fun v55 Mc53 hq54 => ?_)
                              obtain ⟨hI56, rfl⟩ := hq54
                              refine R_iadd hC dX14_isCounted_394 ⟨by omega, by omega⟩ ?_
                              refine R_istore_3 hC dX14_isCounted_395 rfl ?_
                              refine R_iinc_4 hC dX14_isCounted_396 rfl ⟨by omega, by omega⟩ ?_
                              refine R_goto hC dX14_isCounted_399 (tgt := 7) (by decide) ?_
                              refine R_weak (subL_c (subL_c (subL_c (subL_c (subL_c (subL_d (subL_d (subL_d (subL_c (subL_c (subL_c (subL_c subL_n)))))))))))) ?_
                              exact ih7 _ _ _ _ (by omega) (by omega) hI56 (by rw [sm_to w0 rfl, ← ha, ← hit]) (by rw [sm_to w0 rfl, ← hso1]) (by omega) (by omega) (by omega)
                            · skip
                              rw [bits_g (p := fun k => 0 < shrt d k) w0 (by omega)] at hb375
                              first
                                | exact absurd (bP_pos (by show 0 < shrt d w; omega)) hb375
                                | exact absurd (bP_neg (by show ¬ 0 < shrt d w; omega)) hb375
                          · skip
                            refine R_iconst hC dX14_isCounted_370 ⟨by decide, by decide⟩ ?_
                            refine R_goto hC dX14_isCounted_371 (tgt := 375) (by decide) ?_
                            refine R_icmp_eq hC dX14_isCounted_375 (tgt := 380) (by decide) (fun hb375 => ?_) (fun hb375 => ?_)
                            · skip
                              refine R_iload_2 hC dX14_isCounted_380 ?_
                              refine R_iload_5 hC dX14_isCounted_381 ?_
                              refine R_iadd hC dX14_isCounted_383 ⟨by omega, by omega⟩ ?_
                              refine R_istore_2 hC dX14_isCounted_384 rfl ?_
                              refine R_iload_3 hC dX14_isCounted_385 ?_
                              refine R_aload_1 hC dX14_isCounted_386 ?_
                              refine R_iload_4 hC dX14_isCounted_387 ?_
                              refine R_bipush hC dX14_isCounted_389 (by decide +kernel) ⟨by decide, by decide⟩ ?_
                              refine R_callVp (as := [vI _, vI _]) hC dX14_isCounted_391 mo_11_work mlW_120 (by decide) rfl rfl (k_work_8  hI52 hS (by omega) (by omega)) rfl rfl hRm (by decide) (by decide) (Nat.le_of_ble_eq_true rfl) (fun v59 Mc57 hq58 => ?_)
                              obtain ⟨hI60, rfl⟩ := hq58
                              refine R_iadd hC dX14_isCounted_394 ⟨by omega, by omega⟩ ?_
                              refine R_istore_3 hC dX14_isCounted_395 rfl ?_
                              refine R_iinc_4 hC dX14_isCounted_396 rfl ⟨by omega, by omega⟩ ?_
                              refine R_goto hC dX14_isCounted_399 (tgt := 7) (by decide) ?_
                              refine R_weak (subL_c (subL_c (subL_c (subL_c (subL_c (subL_d (subL_d (subL_d (subL_c (subL_c (subL_c (subL_c subL_n)))))))))))) ?_
                              exact ih7 _ _ _ _ (by omega) (by omega) hI60 (by rw [sm_to w0 rfl, ← ha, ← hit]) (by rw [sm_to w0 rfl, ← hso1]) (by omega) (by omega) (by omega)
                            · skip
                              rw [bits_g (p := fun k => 0 < shrt d k) w0 (by omega)] at hb375
                              first
                                | exact absurd (bP_pos (by show 0 < shrt d w; omega)) hb375
                                | exact absurd (bP_neg (by show ¬ 0 < shrt d w; omega)) hb375
                      · skip
                        refine R_iconst hC dX14_isCounted_341 ⟨by decide, by decide⟩ ?_
                        refine R_goto hC dX14_isCounted_342 (tgt := 346) (by decide) ?_
                        refine R_icmp_ne hC dX14_isCounted_346 (tgt := 378) (by decide) (fun hb346 => ?_) (fun hb346 => ?_)
                        · skip
                          rw [bits_g (p := fun k => allOf d k = 1) w0 (by omega)] at hb346
                          first
                            | exact absurd (bP_pos (by show allOf d w = 1; omega)) hb346
                            | exact absurd (bP_neg (by show ¬ allOf d w = 1; omega)) hb346
                        · skip
                          refine R_aload_1 hC dX14_isCounted_349 ?_
                          refine R_bipush hC dX14_isCounted_350 (by decide +kernel) ⟨by decide, by decide⟩ ?_
                          refine R_callVp (as := [vI _]) hC dX14_isCounted_352 mo_11_count mlW_111 (by decide) rfl rfl (k_count_16  hI44 hS) rfl rfl hRm (by decide) (by decide) (Nat.le_of_ble_eq_true rfl) (fun v63 Mc61 hq62 => ?_)
                          obtain ⟨hI64, rfl⟩ := hq62
                          refine R_iload_4 hC dX14_isCounted_355 ?_
                          refine R_ishr hC dX14_isCounted_357 (by omega) (by omega) ?_
                          refine R_iconst hC dX14_isCounted_358 ⟨by decide, by decide⟩ ?_
                          refine R_iandm hC dX14_isCounted_359 (m := 1) (by decide) (by decide) ?_
                          refine R_aload_1 hC dX14_isCounted_360 ?_
                          refine R_iload_4 hC dX14_isCounted_361 ?_
                          refine R_iconst hC dX14_isCounted_363 ⟨by decide, by decide⟩ ?_
                          refine R_callVp (as := [vI _, vI _]) hC dX14_isCounted_364 mo_11_work mlW_120 (by decide) rfl rfl (k_work_4  hI64 hS (by omega) (by omega)) rfl rfl hRm (by decide) (by decide) (Nat.le_of_ble_eq_true rfl) (fun v67 Mc65 hq66 => ?_)
                          obtain ⟨hI68, rfl⟩ := hq66
                          refine R_if_le hC dX14_isCounted_367 (tgt := 374) (by decide) (fun hb367 => ?_) (fun hb367 => ?_)
                          · skip
                            refine R_iconst hC dX14_isCounted_374 ⟨by decide, by decide⟩ ?_
                            refine R_icmp_eq hC dX14_isCounted_375 (tgt := 380) (by decide) (fun hb375 => ?_) (fun hb375 => ?_)
                            · skip
                              refine R_iload_2 hC dX14_isCounted_380 ?_
                              refine R_iload_5 hC dX14_isCounted_381 ?_
                              refine R_iadd hC dX14_isCounted_383 ⟨by omega, by omega⟩ ?_
                              refine R_istore_2 hC dX14_isCounted_384 rfl ?_
                              refine R_iload_3 hC dX14_isCounted_385 ?_
                              refine R_aload_1 hC dX14_isCounted_386 ?_
                              refine R_iload_4 hC dX14_isCounted_387 ?_
                              refine R_bipush hC dX14_isCounted_389 (by decide +kernel) ⟨by decide, by decide⟩ ?_
                              refine R_callVp (as := [vI _, vI _]) hC dX14_isCounted_391 mo_11_work mlW_120 (by decide) rfl rfl (k_work_8  hI68 hS (by omega) (by omega)) rfl rfl hRm (by decide) (by decide) (Nat.le_of_ble_eq_true rfl) (fun v71 Mc69 hq70 => ?_)
                              obtain ⟨hI72, rfl⟩ := hq70
                              refine R_iadd hC dX14_isCounted_394 ⟨by omega, by omega⟩ ?_
                              refine R_istore_3 hC dX14_isCounted_395 rfl ?_
                              refine R_iinc_4 hC dX14_isCounted_396 rfl ⟨by omega, by omega⟩ ?_
                              refine R_goto hC dX14_isCounted_399 (tgt := 7) (by decide) ?_
                              refine R_weak (subL_c (subL_c (subL_c (subL_c (subL_c (subL_d (subL_d (subL_d (subL_c (subL_c (subL_c (subL_c subL_n)))))))))))) ?_
                              exact ih7 _ _ _ _ (by omega) (by omega) hI72 (by rw [sm_to w0 rfl, ← ha, ← hit]) (by rw [sm_to w0 rfl, ← hso1]) (by omega) (by omega) (by omega)
                            · skip
                              rw [bits_g (p := fun k => 0 < shrt d k) w0 (by omega)] at hb375
                              first
                                | exact absurd (bP_pos (by show 0 < shrt d w; omega)) hb375
                                | exact absurd (bP_neg (by show ¬ 0 < shrt d w; omega)) hb375
                          · skip
                            refine R_iconst hC dX14_isCounted_370 ⟨by decide, by decide⟩ ?_
                            refine R_goto hC dX14_isCounted_371 (tgt := 375) (by decide) ?_
                            refine R_icmp_eq hC dX14_isCounted_375 (tgt := 380) (by decide) (fun hb375 => ?_) (fun hb375 => ?_)
                            · skip
                              refine R_iload_2 hC dX14_isCounted_380 ?_
                              refine R_iload_5 hC dX14_isCounted_381 ?_
                              refine R_iadd hC dX14_isCounted_383 ⟨by omega, by omega⟩ ?_
                              refine R_istore_2 hC dX14_isCounted_384 rfl ?_
                              refine R_iload_3 hC dX14_isCounted_385 ?_
                              refine R_aload_1 hC dX14_isCounted_386 ?_
                              refine R_iload_4 hC dX14_isCounted_387 ?_
                              refine R_bipush hC dX14_isCounted_389 (by decide +kernel) ⟨by decide, by decide⟩ ?_
                              refine R_callVp (as := [vI _, vI _]) hC dX14_isCounted_391 mo_11_work mlW_120 (by decide) rfl rfl (k_work_8  hI68 hS (by omega) (by omega)) rfl rfl hRm (by decide) (by decide) (Nat.le_of_ble_eq_true rfl) (fun v75 Mc73 hq74 => ?_)
                              obtain ⟨hI76, rfl⟩ := hq74
                              refine R_iadd hC dX14_isCounted_394 ⟨by omega, by omega⟩ ?_
                              refine R_istore_3 hC dX14_isCounted_395 rfl ?_
                              refine R_iinc_4 hC dX14_isCounted_396 rfl ⟨by omega, by omega⟩ ?_
                              refine R_goto hC dX14_isCounted_399 (tgt := 7) (by decide) ?_
                              refine R_weak (subL_c (subL_c (subL_c (subL_c (subL_c (subL_d (subL_d (subL_d (subL_c (subL_c (subL_c (subL_c subL_n)))))))))))) ?_
                              exact ih7 _ _ _ _ (by omega) (by omega) hI76 (by rw [sm_to w0 rfl, ← ha, ← hit]) (by rw [sm_to w0 rfl, ← hso1]) (by omega) (by omega) (by omega)
                            · skip
                              rw [bits_g (p := fun k => 0 < shrt d k) w0 (by omega)] at hb375
                              first
                                | exact absurd (bP_pos (by show 0 < shrt d w; omega)) hb375
                                | exact absurd (bP_neg (by show ¬ 0 < shrt d w; omega)) hb375
                    · skip
                      exact absurd (by unfold shrt; rw [hall]) hb319
            · skip
              have hh := hS.h x0 (by omega) w0 (show w < 6 by omega)
              refine R_aload_1 hC dX14_isCounted_34 ?_
              refine R_iload_7 hC dX14_isCounted_35 ?_
              refine R_iload_4 hC dX14_isCounted_37 ?_
              refine R_iconst hC dX14_isCounted_39 ⟨by decide, by decide⟩ ?_
              refine R_callVp (as := [vI _, vI _, vI _]) hC dX14_isCounted_40 mo_11_held mlW_117 (by decide) rfl rfl (k_held_0  hI hS (by omega) (by omega) (by omega) (by omega)) rfl rfl hRm (by decide) (by decide) (Nat.le_of_ble_eq_true rfl) (fun v79 Mc77 hq78 => ?_)
              obtain ⟨hI80, rfl⟩ := hq78
              refine R_istore_8 hC dX14_isCounted_43 rfl ?_
              refine R_iload_5 hC dX14_isCounted_45 ?_
              refine R_iload_8 hC dX14_isCounted_47 ?_
              refine R_iadd hC dX14_isCounted_49 ⟨by omega, by omega⟩ ?_
              refine R_istore_5 hC dX14_isCounted_50 rfl ?_
              have L66 : ∀ (s2 : Int), (s2 = bits (x + 1).toNat (fun k => 0 < d (28 + k * 6 + w))) → RZ G LY C (Zn G LY 57 C (RP (fun v M' => WI M0 d M' ∧ v = 1))) 0 0 57 66 [some (vR 1030), some (vR 0), some (vI a), some (vI so), some (vI w), some (vI (it + (d (28 + x * 6 + w)))), some (vI s2), some (vI x), some (vI (d (28 + x * 6 + w))), none, none, none] [] Mc77 := by
                intro s2 hs2
                refine R_aload_1 hC dX14_isCounted_66 ?_
                have L102 : ∀ (c : Int) (M3 : Mem), (c = bP (0 < d (58 + x * 6 + w) ∧ d 118 ≤ d (88 + x * 6 + w))) → (WI M0 d M3) → RZ G LY C (Zn G LY 57 C (RP (fun v M' => WI M0 d M' ∧ v = 1))) 0 0 57 102 [some (vR 1030), some (vR 0), some (vI a), some (vI so), some (vI w), some (vI (it + (d (28 + x * 6 + w)))), some (vI s2), some (vI x), some (vI (d (28 + x * 6 + w))), some (vI c), none, none] [] M3 := by
                  intro c M3 hc hI
                  have hoff : offr d x w = max 0 (d (28 + x * 6 + w) - (if (0 < d (58 + x * 6 + w) ∧ d 118 ≤ d (88 + x * 6 + w)) then d (58 + x * 6 + w) else 0)) := rfl
                  refine R_iconst hC dX14_isCounted_102 ⟨by decide, by decide⟩ ?_
                  have L129 : ∀ (of : Int) (M4 : Mem), (of = offr d x w) → (WI M0 d M4) → RZ G LY C (Zn G LY 57 C (RP (fun v M' => WI M0 d M' ∧ v = 1))) 0 0 57 129 [some (vR 1030), some (vR 0), some (vI a), some (vI so), some (vI w), some (vI (it + (d (28 + x * 6 + w)))), some (vI s2), some (vI x), some (vI (d (28 + x * 6 + w))), some (vI c), some (vI of), none] [] M4 := by
                    intro of M4 hof hI
                    refine R_iload_8 hC dX14_isCounted_129 ?_
                    refine R_if_lt hC dX14_isCounted_131 (tgt := 176) (by decide) (fun hb131 => ?_) (fun hb131 => ?_)
                    · skip
                      exact absurd hb131 (by omega)
                    · skip
                      refine R_iload_8 hC dX14_isCounted_134 ?_
                      refine R_iconst hC dX14_isCounted_136 ⟨by decide, by decide⟩ ?_
                      refine R_icmp_gt hC dX14_isCounted_137 (tgt := 176) (by decide) (fun hb137 => ?_) (fun hb137 => ?_)
                      · skip
                        exact absurd hb137 (by omega)
                      · skip
                        refine R_aload_1 hC dX14_isCounted_140 ?_
                        refine R_iload_7 hC dX14_isCounted_141 ?_
                        refine R_iload_4 hC dX14_isCounted_143 ?_
                        refine R_iconst hC dX14_isCounted_145 ⟨by decide, by decide⟩ ?_
                        refine R_callVp (as := [vI _, vI _, vI _]) hC dX14_isCounted_146 mo_11_held mlW_117 (by decide) rfl rfl (k_held_3  hI hS (by omega) (by omega) (by omega) (by omega)) rfl rfl hRm (by decide) (by decide) (Nat.le_of_ble_eq_true rfl) (fun v83 Mc81 hq82 => ?_)
                        obtain ⟨hI84, rfl⟩ := hq82
                        refine R_iload_9 hC dX14_isCounted_149 ?_
                        refine R_if_eq hC dX14_isCounted_151 (tgt := 158) (by decide) (fun hb151 => ?_) (fun hb151 => ?_)
                        · skip
                          refine R_iconst hC dX14_isCounted_158 ⟨by decide, by decide⟩ ?_
                          refine R_icmp_ne hC dX14_isCounted_159 (tgt := 176) (by decide) (fun hb159 => ?_) (fun hb159 => ?_)
                          · skip
                            replace hb159 := bP_nz hb159
                            first
                              | exact absurd (bP_nz (fun y => hb151 (hc.trans y))) hb159
                              | exact absurd hb159 (bP_z (hc.symm.trans hb151))
                          · skip
                            replace hb159 := bP_z hb159
                            refine R_aload_1 hC dX14_isCounted_162 ?_
                            refine R_iload_7 hC dX14_isCounted_163 ?_
                            refine R_iload_4 hC dX14_isCounted_165 ?_
                            refine R_iconst hC dX14_isCounted_167 ⟨by decide, by decide⟩ ?_
                            refine R_callVp (as := [vI _, vI _, vI _]) hC dX14_isCounted_168 mo_11_held mlW_117 (by decide) rfl rfl (k_held_4  hI84 hS (by omega) (by omega) (by omega) (by omega)) rfl rfl hRm (by decide) (by decide) (Nat.le_of_ble_eq_true rfl) (fun v87 Mc85 hq86 => ?_)
                            obtain ⟨hI88, rfl⟩ := hq86
                            refine R_iload_10 hC dX14_isCounted_171 ?_
                            refine R_icmp_eq hC dX14_isCounted_173 (tgt := 178) (by decide) (fun hb173 => ?_) (fun hb173 => ?_)
                            · skip
                              refine R_iload_8 hC dX14_isCounted_178 ?_
                              have L213 : ∀ (wy : Int) (M5 : Mem), (wy = whyN d x w) → (WI M0 d M5) → RZ G LY C (Zn G LY 57 C (RP (fun v M' => WI M0 d M' ∧ v = 1))) 0 0 57 213 [some (vR 1030), some (vR 0), some (vI a), some (vI so), some (vI w), some (vI (it + (d (28 + x * 6 + w)))), some (vI s2), some (vI x), some (vI (d (28 + x * 6 + w))), some (vI c), some (vI of), some (vI wy)] [] M5 := by
                                intro wy M5 hwy hI
                                refine R_aload_1 hC dX14_isCounted_213 ?_
                                refine R_iload_7 hC dX14_isCounted_214 ?_
                                refine R_iload_4 hC dX14_isCounted_216 ?_
                                refine R_bipush hC dX14_isCounted_218 (by decide +kernel) ⟨by decide, by decide⟩ ?_
                                refine R_callVp (as := [vI _, vI _, vI _]) hC dX14_isCounted_220 mo_11_held mlW_117 (by decide) rfl rfl (k_held_6  hI hS (by omega) (by omega) (by omega) (by omega)) rfl rfl hRm (by decide) (by decide) (Nat.le_of_ble_eq_true rfl) (fun v91 Mc89 hq90 => ?_)
                                obtain ⟨hI92, rfl⟩ := hq90
                                refine R_iload_11 hC dX14_isCounted_223 ?_
                                refine R_icmp_eq hC dX14_isCounted_225 (tgt := 230) (by decide) (fun hb225 => ?_) (fun hb225 => ?_)
                                · skip
                                  refine R_iinc_7 hC dX14_isCounted_230 rfl ⟨by omega, by omega⟩ ?_
                                  refine R_goto hC dX14_isCounted_233 (tgt := 25) (by decide) ?_
                                  refine R_weak (subL_c (subL_c (subL_c (subL_c (subL_c (subL_c (subL_c (subL_c (subL_d (subL_d (subL_d (subL_d subL_n)))))))))))) ?_
                                  exact ih25 _ _ _ _ (by omega) (by omega) hI92 (by rw [sm_to x0 rfl, ← hit]) hs2 (by omega) (by omega)
                                · skip
                                  exact absurd hwy.symm hb225
                              refine R_if_ne hC dX14_isCounted_180 (tgt := 187) (by decide) (fun hb180 => ?_) (fun hb180 => ?_)
                              · skip
                                refine R_iload_10 hC dX14_isCounted_187 ?_
                                refine R_if_ne hC dX14_isCounted_189 (tgt := 196) (by decide) (fun hb189 => ?_) (fun hb189 => ?_)
                                · skip
                                  refine R_aload_1 hC dX14_isCounted_196 ?_
                                  refine R_iload_4 hC dX14_isCounted_197 ?_
                                  refine R_iconst hC dX14_isCounted_199 ⟨by decide, by decide⟩ ?_
                                  refine R_callVp (as := [vI _, vI _]) hC dX14_isCounted_200 mo_11_work mlW_120 (by decide) rfl rfl (k_work_3  hI88 hS (by omega) (by omega)) rfl rfl hRm (by decide) (by decide) (Nat.le_of_ble_eq_true rfl) (fun v95 Mc93 hq94 => ?_)
                                  obtain ⟨hI96, rfl⟩ := hq94
                                  refine R_if_ne hC dX14_isCounted_203 (tgt := 210) (by decide) (fun hb203 => ?_) (fun hb203 => ?_)
                                  · skip
                                    refine R_iconst hC dX14_isCounted_210 ⟨by decide, by decide⟩ ?_
                                    refine R_istore_11 hC dX14_isCounted_211 rfl ?_
                                    exact L213 _ _ (by
                                      unfold whyN
                                      rw [← hof]
                                      split <;> (try split) <;> (try split) <;> first | rfl | omega) hI96
                                  · skip
                                    refine R_iconst hC dX14_isCounted_206 ⟨by decide, by decide⟩ ?_
                                    refine R_goto hC dX14_isCounted_207 (tgt := 211) (by decide) ?_
                                    refine R_istore_11 hC dX14_isCounted_211 rfl ?_
                                    exact L213 _ _ (by
                                      unfold whyN
                                      rw [← hof]
                                      split <;> (try split) <;> (try split) <;> first | rfl | omega) hI96
                                · skip
                                  refine R_iconst hC dX14_isCounted_192 ⟨by decide, by decide⟩ ?_
                                  refine R_goto hC dX14_isCounted_193 (tgt := 211) (by decide) ?_
                                  refine R_istore_11 hC dX14_isCounted_211 rfl ?_
                                  exact L213 _ _ (by
                                    unfold whyN
                                    rw [← hof]
                                    split <;> (try split) <;> (try split) <;> first | rfl | omega) hI88
                              · skip
                                refine R_iconst hC dX14_isCounted_183 ⟨by decide, by decide⟩ ?_
                                refine R_goto hC dX14_isCounted_184 (tgt := 211) (by decide) ?_
                                refine R_istore_11 hC dX14_isCounted_211 rfl ?_
                                exact L213 _ _ (by
                                  unfold whyN
                                  rw [← hof]
                                  split <;> (try split) <;> (try split) <;> first | rfl | omega) hI88
                            · skip
                              exact absurd hof.symm hb173
                        · skip
                          refine R_iconst hC dX14_isCounted_154 ⟨by decide, by decide⟩ ?_
                          refine R_goto hC dX14_isCounted_155 (tgt := 159) (by decide) ?_
                          refine R_icmp_ne hC dX14_isCounted_159 (tgt := 176) (by decide) (fun hb159 => ?_) (fun hb159 => ?_)
                          · skip
                            replace hb159 := bP_no hb159
                            first
                              | exact absurd (bP_nz (fun y => hb151 (hc.trans y))) hb159
                              | exact absurd hb159 (bP_z (hc.symm.trans hb151))
                          · skip
                            replace hb159 := bP_o hb159
                            refine R_aload_1 hC dX14_isCounted_162 ?_
                            refine R_iload_7 hC dX14_isCounted_163 ?_
                            refine R_iload_4 hC dX14_isCounted_165 ?_
                            refine R_iconst hC dX14_isCounted_167 ⟨by decide, by decide⟩ ?_
                            refine R_callVp (as := [vI _, vI _, vI _]) hC dX14_isCounted_168 mo_11_held mlW_117 (by decide) rfl rfl (k_held_4  hI84 hS (by omega) (by omega) (by omega) (by omega)) rfl rfl hRm (by decide) (by decide) (Nat.le_of_ble_eq_true rfl) (fun v99 Mc97 hq98 => ?_)
                            obtain ⟨hI100, rfl⟩ := hq98
                            refine R_iload_10 hC dX14_isCounted_171 ?_
                            refine R_icmp_eq hC dX14_isCounted_173 (tgt := 178) (by decide) (fun hb173 => ?_) (fun hb173 => ?_)
                            · skip
                              refine R_iload_8 hC dX14_isCounted_178 ?_
                              have L213 : ∀ (wy : Int) (M5 : Mem), (wy = whyN d x w) → (WI M0 d M5) → RZ G LY C (Zn G LY 57 C (RP (fun v M' => WI M0 d M' ∧ v = 1))) 0 0 57 213 [some (vR 1030), some (vR 0), some (vI a), some (vI so), some (vI w), some (vI (it + (d (28 + x * 6 + w)))), some (vI s2), some (vI x), some (vI (d (28 + x * 6 + w))), some (vI c), some (vI of), some (vI wy)] [] M5 := by
                                intro wy M5 hwy hI
                                refine R_aload_1 hC dX14_isCounted_213 ?_
                                refine R_iload_7 hC dX14_isCounted_214 ?_
                                refine R_iload_4 hC dX14_isCounted_216 ?_
                                refine R_bipush hC dX14_isCounted_218 (by decide +kernel) ⟨by decide, by decide⟩ ?_
                                refine R_callVp (as := [vI _, vI _, vI _]) hC dX14_isCounted_220 mo_11_held mlW_117 (by decide) rfl rfl (k_held_6  hI hS (by omega) (by omega) (by omega) (by omega)) rfl rfl hRm (by decide) (by decide) (Nat.le_of_ble_eq_true rfl) (fun v103 Mc101 hq102 => ?_)
                                obtain ⟨hI104, rfl⟩ := hq102
                                refine R_iload_11 hC dX14_isCounted_223 ?_
                                refine R_icmp_eq hC dX14_isCounted_225 (tgt := 230) (by decide) (fun hb225 => ?_) (fun hb225 => ?_)
                                · skip
                                  refine R_iinc_7 hC dX14_isCounted_230 rfl ⟨by omega, by omega⟩ ?_
                                  refine R_goto hC dX14_isCounted_233 (tgt := 25) (by decide) ?_
                                  refine R_weak (subL_c (subL_c (subL_c (subL_c (subL_c (subL_c (subL_c (subL_c (subL_d (subL_d (subL_d (subL_d subL_n)))))))))))) ?_
                                  exact ih25 _ _ _ _ (by omega) (by omega) hI104 (by rw [sm_to x0 rfl, ← hit]) hs2 (by omega) (by omega)
                                · skip
                                  exact absurd hwy.symm hb225
                              refine R_if_ne hC dX14_isCounted_180 (tgt := 187) (by decide) (fun hb180 => ?_) (fun hb180 => ?_)
                              · skip
                                refine R_iload_10 hC dX14_isCounted_187 ?_
                                refine R_if_ne hC dX14_isCounted_189 (tgt := 196) (by decide) (fun hb189 => ?_) (fun hb189 => ?_)
                                · skip
                                  refine R_aload_1 hC dX14_isCounted_196 ?_
                                  refine R_iload_4 hC dX14_isCounted_197 ?_
                                  refine R_iconst hC dX14_isCounted_199 ⟨by decide, by decide⟩ ?_
                                  refine R_callVp (as := [vI _, vI _]) hC dX14_isCounted_200 mo_11_work mlW_120 (by decide) rfl rfl (k_work_3  hI100 hS (by omega) (by omega)) rfl rfl hRm (by decide) (by decide) (Nat.le_of_ble_eq_true rfl) (fun v107 Mc105 hq106 => ?_)
                                  obtain ⟨hI108, rfl⟩ := hq106
                                  refine R_if_ne hC dX14_isCounted_203 (tgt := 210) (by decide) (fun hb203 => ?_) (fun hb203 => ?_)
                                  · skip
                                    refine R_iconst hC dX14_isCounted_210 ⟨by decide, by decide⟩ ?_
                                    refine R_istore_11 hC dX14_isCounted_211 rfl ?_
                                    exact L213 _ _ (by
                                      unfold whyN
                                      rw [← hof]
                                      split <;> (try split) <;> (try split) <;> first | rfl | omega) hI108
                                  · skip
                                    refine R_iconst hC dX14_isCounted_206 ⟨by decide, by decide⟩ ?_
                                    refine R_goto hC dX14_isCounted_207 (tgt := 211) (by decide) ?_
                                    refine R_istore_11 hC dX14_isCounted_211 rfl ?_
                                    exact L213 _ _ (by
                                      unfold whyN
                                      rw [← hof]
                                      split <;> (try split) <;> (try split) <;> first | rfl | omega) hI108
                                · skip
                                  refine R_iconst hC dX14_isCounted_192 ⟨by decide, by decide⟩ ?_
                                  refine R_goto hC dX14_isCounted_193 (tgt := 211) (by decide) ?_
                                  refine R_istore_11 hC dX14_isCounted_211 rfl ?_
                                  exact L213 _ _ (by
                                    unfold whyN
                                    rw [← hof]
                                    split <;> (try split) <;> (try split) <;> first | rfl | omega) hI100
                              · skip
                                refine R_iconst hC dX14_isCounted_183 ⟨by decide, by decide⟩ ?_
                                refine R_goto hC dX14_isCounted_184 (tgt := 211) (by decide) ?_
                                refine R_istore_11 hC dX14_isCounted_211 rfl ?_
                                exact L213 _ _ (by
                                  unfold whyN
                                  rw [← hof]
                                  split <;> (try split) <;> (try split) <;> first | rfl | omega) hI100
                            · skip
                              exact absurd hof.symm hb173
                  refine R_iload_8 hC dX14_isCounted_103 ?_
                  refine R_iload_9 hC dX14_isCounted_105 ?_
                  refine R_if_eq hC dX14_isCounted_107 (tgt := 122) (by decide) (fun hb107 => ?_) (fun hb107 => ?_)
                  · skip
                    refine R_iconst hC dX14_isCounted_122 ⟨by decide, by decide⟩ ?_
                    refine R_isub hC dX14_isCounted_123 ⟨by omega, by omega⟩ ?_
                    refine R_max hC dX14_isCounted_124 mlW_126 hRm (by decide) (Nat.le_of_ble_eq_true rfl) ?_
                    refine R_istore_10 hC dX14_isCounted_127 rfl ?_
                    exact L129 _ _ (by
                      rw [hoff]
                      first
                        | (rw [if_neg (bP_z (hc.symm.trans hb107))])
                        | (rw [if_pos (bP_nz (fun y => hb107 (hc.trans y)))])) hI
                  · skip
                    refine R_aload_1 hC dX14_isCounted_110 ?_
                    refine R_iload_7 hC dX14_isCounted_111 ?_
                    refine R_iload_4 hC dX14_isCounted_113 ?_
                    refine R_iconst hC dX14_isCounted_115 ⟨by decide, by decide⟩ ?_
                    refine R_callVp (as := [vI _, vI _, vI _]) hC dX14_isCounted_116 mo_11_held mlW_117 (by decide) rfl rfl (k_held_1  hI hS (by omega) (by omega) (by omega) (by omega)) rfl rfl hRm (by decide) (by decide) (Nat.le_of_ble_eq_true rfl) (fun v111 Mc109 hq110 => ?_)
                    obtain ⟨hI112, rfl⟩ := hq110
                    refine R_goto hC dX14_isCounted_119 (tgt := 123) (by decide) ?_
                    refine R_isub hC dX14_isCounted_123 ⟨by omega, by omega⟩ ?_
                    refine R_max hC dX14_isCounted_124 mlW_126 hRm (by decide) (Nat.le_of_ble_eq_true rfl) ?_
                    refine R_istore_10 hC dX14_isCounted_127 rfl ?_
                    exact L129 _ _ (by
                      rw [hoff]
                      first
                        | (rw [if_neg (bP_z (hc.symm.trans hb107))])
                        | (rw [if_pos (bP_nz (fun y => hb107 (hc.trans y)))])) hI112
                refine R_iload_7 hC dX14_isCounted_67 ?_
                refine R_iload_4 hC dX14_isCounted_69 ?_
                refine R_iconst hC dX14_isCounted_71 ⟨by decide, by decide⟩ ?_
                refine R_callVp (as := [vI _, vI _, vI _]) hC dX14_isCounted_72 mo_11_held mlW_117 (by decide) rfl rfl (k_held_1  hI80 hS (by omega) (by omega) (by omega) (by omega)) rfl rfl hRm (by decide) (by decide) (Nat.le_of_ble_eq_true rfl) (fun v115 Mc113 hq114 => ?_)
                obtain ⟨hI116, rfl⟩ := hq114
                refine R_if_le hC dX14_isCounted_75 (tgt := 99) (by decide) (fun hb75 => ?_) (fun hb75 => ?_)
                · skip
                  refine R_iconst hC dX14_isCounted_99 ⟨by decide, by decide⟩ ?_
                  refine R_istore_9 hC dX14_isCounted_100 rfl ?_
                  exact L102 _ _ (by
                    first
                      | exact (bP_pos ⟨by omega, by rw [if_neg (by omega)] at hb92; omega⟩).symm
                      | exact (bP_neg (fun z => by rw [if_neg (by omega)] at hb92; omega)).symm
                      | exact (bP_neg (fun z => by omega)).symm) hI116
                · skip
                  refine R_aload_1 hC dX14_isCounted_78 ?_
                  refine R_iconst hC dX14_isCounted_79 ⟨by decide, by decide⟩ ?_
                  refine R_callVp (as := [vI _]) hC dX14_isCounted_80 mo_11_count mlW_111 (by decide) rfl rfl (k_count_2  hI116 hS) rfl rfl hRm (by decide) (by decide) (Nat.le_of_ble_eq_true rfl) (fun v119 Mc117 hq118 => ?_)
                  obtain ⟨hI120, rfl⟩ := hq118
                  refine R_aload_1 hC dX14_isCounted_83 ?_
                  refine R_iload_7 hC dX14_isCounted_84 ?_
                  refine R_iload_4 hC dX14_isCounted_86 ?_
                  refine R_iconst hC dX14_isCounted_88 ⟨by decide, by decide⟩ ?_
                  refine R_callVp (as := [vI _, vI _, vI _]) hC dX14_isCounted_89 mo_11_held mlW_117 (by decide) rfl rfl (k_held_2  hI120 hS (by omega) (by omega) (by omega) (by omega)) rfl rfl hRm (by decide) (by decide) (Nat.le_of_ble_eq_true rfl) (fun v123 Mc121 hq122 => ?_)
                  obtain ⟨hI124, rfl⟩ := hq122
                  refine R_icmp_gt hC dX14_isCounted_92 (tgt := 99) (by decide) (fun hb92 => ?_) (fun hb92 => ?_)
                  · skip
                    refine R_iconst hC dX14_isCounted_99 ⟨by decide, by decide⟩ ?_
                    refine R_istore_9 hC dX14_isCounted_100 rfl ?_
                    exact L102 _ _ (by
                      first
                        | exact (bP_pos ⟨by omega, by rw [if_neg (by omega)] at hb92; omega⟩).symm
                        | exact (bP_neg (fun z => by rw [if_neg (by omega)] at hb92; omega)).symm
                        | exact (bP_neg (fun z => by omega)).symm) hI124
                  · skip
                    refine R_iconst hC dX14_isCounted_95 ⟨by decide, by decide⟩ ?_
                    refine R_goto hC dX14_isCounted_96 (tgt := 100) (by decide) ?_
                    refine R_istore_9 hC dX14_isCounted_100 rfl ?_
                    exact L102 _ _ (by
                      first
                        | exact (bP_pos ⟨by omega, by rw [if_neg (by omega)] at hb92; omega⟩).symm
                        | exact (bP_neg (fun z => by rw [if_neg (by omega)] at hb92; omega)).symm
                        | exact (bP_neg (fun z => by omega)).symm) hI124
              refine R_iload_8 hC dX14_isCounted_52 ?_
              refine R_if_le hC dX14_isCounted_54 (tgt := 66) (by decide) (fun hb54 => ?_) (fun hb54 => ?_)
              · skip
                exact L66 _ (by
                  first
                    | (rw [hse]; exact bits_t (p := fun k => 0 < d (28 + k * 6 + w)) x0 rfl hb54)
                    | (rw [hse]; exact bits_f (p := fun k => 0 < d (28 + k * 6 + w)) x0 rfl (by show ¬ 0 < d (28 + x * 6 + w); omega)))
              · skip
                refine R_iload_6 hC dX14_isCounted_57 ?_
                refine R_iconst hC dX14_isCounted_59 ⟨by decide, by decide⟩ ?_
                refine R_iload_7 hC dX14_isCounted_60 ?_
                refine R_shl1 hC dX14_isCounted_62 (by omega) (by omega) ?_
                refine R_ior hC dX14_isCounted_63 (by rw [hse]; exact (bits_bd _ _).1) (Int.le_of_lt (Int.pow_pos (by decide))) ?_
                refine R_istore_6 hC dX14_isCounted_64 rfl ?_
                exact L66 _ (by
                  first
                    | (rw [hse]; exact bits_t (p := fun k => 0 < d (28 + k * 6 + w)) x0 rfl hb54)
                    | (rw [hse]; exact bits_f (p := fun k => 0 < d (28 + k * 6 + w)) x0 rfl (by show ¬ 0 < d (28 + x * 6 + w); omega)))
        exact L25 _ 0 0 0 _ (by omega) (by omega) hI rfl rfl (by decide) (Nat.lt_succ_self _)
  exact L7 _ 0 0 0 _ (by omega) (by omega) hI rfl rfl (by decide) (by decide) (Nat.lt_succ_self _)
