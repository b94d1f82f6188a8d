/-! the law's text, statement by statement -/
theorem sl_5 : (sL 5).length = 0 := rfl
theorem sl_6 : (sL 6).length = 8 := rfl
theorem sl_7 : (sL 7).length = 1 := rfl
theorem sl_8 : (sL 8).length = 1 := rfl
theorem sl_9 : (sL 9).length = 6 := rfl
theorem sl_10 : (sL 10).length = 5 := rfl
theorem sl_11 : (sL 11).length = 6 := rfl
theorem sl_12 : (sL 12).length = 8 := rfl
theorem dcL_2 (v : Int) : (dcL v).length ≤ 2 := by
  unfold dcL
  split <;> simp
/-- the statements' texts: a library's clause, the store's, a work's, what is held, what is promised -/
def ytA (g0 : Nat → Nat) (x : Int) (τ : List Int) : List Int := τ ++ sL 6 ++ dcL (frI (scK g0 (4 + x)) 0 8) ++ (if scK g0 (4 + x) / 2 ^ 5 % 2 ^ 1 = 0 then [] else sL 7 ++ dcL (frI (scK g0 (4 + x) / 2 ^ 6) 0 6)) ++ sL 8
def ytB (g0 : Nat → Nat) (τ : List Int) : List Int := if scK g0 9 / 2 ^ 12 % 2 ^ 1 = 1 then τ ++ sL 9 ++ dcL (frI (scK g0 9 / 2 ^ 13) 0 20) ++ sL 8 else τ
def ytC (g0 : Nat → Nat) (w : Int) (τ : List Int) : List Int := τ ++ sL 10 ++ dcL (frI (scK g0 7 / 2 ^ (8 * w).toNat) 1 9) ++ sL 7 ++ dcL (frI (scK g0 8 / 2 ^ (7 * w).toNat) 0 5) ++ sL 8
def ytH (g0 : Nat → Nat) (x w : Int) (τ : List Int) : List Int := if 0 < holdsN g0 x w then τ ++ sL 11 ++ dcL x ++ sL 7 ++ dcL w ++ sL 7 ++ dcL (holdsN g0 x w) ++ sL 8 else τ
def ytP (g0 : Nat → Nat) (x w : Int) (τ : List Int) : List Int := if 0 < muchN g0 x w then τ ++ sL 12 ++ dcL x ++ sL 7 ++ dcL w ++ sL 7 ++ dcL (muchN g0 x w) ++ sL 7 ++ dcL (frI (scK g0 9 / 2 ^ (3 * w + x).toNat) 0 20) ++ sL 8 else τ
section TXS
variable {g0 g : Nat → Nat} {q : Gq} {S0 S : Sh} {C : Cx} {Z : State → Prop} {k w n0 n : Nat} {pc : Nat} {ls : List (Option V)} {st : List V} {M0 M : Mem} {kc kw : Nat}
theorem T_call {d na idx : Nat} {z : Mt} {as : List V} {st0 : List V} {v : V} (hC : CxOK (g, q) mW_text C) (hRm : C.2.2.2.1 = rmN 8 kc kw) (hk : k ≤ kc) (hw : w ≤ kw) (hd : decode cL_text pc = .ok (.invokestatic idx, 3)) (hz : MO z na true) (hlk : Cond.methodLink RL idx z.1 ∈ Ts)
    (hct : Ct (g, q) S n C.2.1 d z as M (Ret v M)) (hst : st0 = as.reverse ++ st) (hna : as.length = na) (hdd : d ≤ 6) (hmx : z.2.2.1 ≤ 21) (hcat : (st.map vcat).sum ≤ 8)
    (kk : RZ (g, q) S C Z k w n (pc + 3) ls (v :: st) M) : RZ (g, q) S C Z k w n pc ls st0 M :=
  R_callS hC hd hz hlk hct hst hna (by rw [hRm]; exact ⟨by show d + 1 ≤ 8; omega, by show 8 + (z.2.2.1 + 11) + (40 * d + 40) ≤ 40 * 8 + 40; omega, hk, hw⟩) hcat (fun r M' h => by rw [h.1, h.2]; exact kk)
/-- the text so far is a String of the world's -/
def TS (S : Sh) (M : Mem) (n0 n t : Nat) (τ : List Int) : Prop := ∃ r, (n0 ≤ t ∧ t < n) ∧ (n0 ≤ r ∧ r < n) ∧ STG S M t r τ
theorem TS.src {S1 : Sh} {M1 : Mem} {t : Nat} {τ : List Int} (h : TS S M n0 n t τ) (hS : ∀ h, h < n → S1.1 h = S.1 h) (hM : ∀ h, h < n → M1 h = M h) : (∃ i, i < 13 ∧ t = 1000 + i ∧ τ = sL i) ∨ ∃ r2, t < n + 2 ∧ r2 < n + 2 ∧ r2 ≠ n + 1 ∧ STG S1 M1 t r2 τ := by
  obtain ⟨r, a, b, c⟩ := h
  exact .inr ⟨r, by omega, by omega, by omega, c.keep a.2 b.2 hS (hM t a.2) (hM r b.2)⟩
theorem TS.ok {t : Nat} {τ : List Int} (h : TS S M n0 n t τ) : hOK n (vR t) := by
  obtain ⟨r, a, b, c⟩ := h
  exact .inl a.2
/-- .. or, at first, the constant "" -/
def TS0 (S : Sh) (M : Mem) (n0 n t : Nat) (x : Int) (τ : List Int) : Prop := (x = 0 ∧ t = 1005 ∧ τ = []) ∨ TS S M n0 n t τ
theorem TS0.src {S1 : Sh} {M1 : Mem} {t : Nat} {x : Int} {τ : List Int} (h : TS0 S M n0 n t x τ) (hS : ∀ h, h < n → S1.1 h = S.1 h) (hM : ∀ h, h < n → M1 h = M h) : (∃ i, i < 13 ∧ t = 1000 + i ∧ τ = sL i) ∨ ∃ r2, t < n + 2 ∧ r2 < n + 2 ∧ r2 ≠ n + 1 ∧ STG S1 M1 t r2 τ := by
  rcases h with ⟨_, rfl, rfl⟩ | h
  · exact .inl ⟨5, by decide, rfl, rfl⟩
  · exact h.src hS hM
theorem TS0.ok {t : Nat} {x : Int} {τ : List Int} (h : TS0 S M n0 n t x τ) : hOK n (vR t) := by
  rcases h with ⟨_, rfl, rfl⟩ | h
  · exact .inr (by decide)
  · exact h.ok
theorem BLD.keep2 {S1 : Sh} {M1 : Mem} {b r m k : Nat} {τ : List Int} (h : BLD S M b r m τ) (hb : b < k) (hr : r < k) (hS : ∀ h, h < k → S1.1 h = S.1 h) (hM : ∀ h, h < k → M1 h = M h) : BLD S1 M1 b r m τ := h.keep hb hr hS (hM b hb) (hM r hr)

theorem dW_text_21 : decode cL_text 21 = .ok (.new 44, 3) := by decide +kernel
theorem dW_text_24 : decode cL_text 24 = .ok (.dup, 1) := by decide +kernel
theorem dW_text_25 : decode cL_text 25 = .ok (.invokespecial 46, 3) := by decide +kernel
theorem dW_text_28 : decode cL_text 28 = .ok (.aload_n 1, 1) := by decide +kernel
theorem dW_text_29 : decode cL_text 29 = .ok (.invokevirtual 47, 3) := by decide +kernel
theorem dW_text_32 : decode cL_text 32 = .ok (.ldc 51, 2) := by decide +kernel
theorem dW_text_34 : decode cL_text 34 = .ok (.invokevirtual 47, 3) := by decide +kernel
theorem dW_text_37 : decode cL_text 37 = .ok (.iload_n 3, 1) := by decide +kernel
theorem dW_text_38 : decode cL_text 38 = .ok (.iconst 0, 1) := by decide +kernel
theorem dW_text_39 : decode cL_text 39 = .ok (.bipush 8, 2) := by decide +kernel
theorem dW_text_41 : decode cL_text 41 = .ok (.invokestatic 34, 3) := by decide +kernel
theorem dW_text_44 : decode cL_text 44 = .ok (.invokevirtual 53, 3) := by decide +kernel
theorem dW_text_47 : decode cL_text 47 = .ok (.iload_n 3, 1) := by decide +kernel
theorem dW_text_48 : decode cL_text 48 = .ok (.iconst 5, 1) := by decide +kernel
theorem dW_text_49 : decode cL_text 49 = .ok (.ishr, 1) := by decide +kernel
theorem dW_text_50 : decode cL_text 50 = .ok (.iconst 1, 1) := by decide +kernel
theorem dW_text_51 : decode cL_text 51 = .ok (.iand, 1) := by decide +kernel
theorem dW_text_52 : decode cL_text 52 = .ok (.ifCond .ne 8, 3) := by decide +kernel
theorem dW_text_60 : decode cL_text 60 = .ok (.new 44, 3) := by decide +kernel
theorem dW_text_63 : decode cL_text 63 = .ok (.dup, 1) := by decide +kernel
theorem dW_text_64 : decode cL_text 64 = .ok (.invokespecial 46, 3) := by decide +kernel
theorem dW_text_67 : decode cL_text 67 = .ok (.ldc 56, 2) := by decide +kernel
theorem dW_text_69 : decode cL_text 69 = .ok (.invokevirtual 47, 3) := by decide +kernel
theorem dW_text_72 : decode cL_text 72 = .ok (.iload_n 3, 1) := by decide +kernel
theorem dW_text_73 : decode cL_text 73 = .ok (.bipush 6, 2) := by decide +kernel
theorem dW_text_75 : decode cL_text 75 = .ok (.ishr, 1) := by decide +kernel
theorem dW_text_76 : decode cL_text 76 = .ok (.iconst 0, 1) := by decide +kernel
theorem dW_text_77 : decode cL_text 77 = .ok (.bipush 6, 2) := by decide +kernel
theorem dW_text_79 : decode cL_text 79 = .ok (.invokestatic 34, 3) := by decide +kernel
theorem dW_text_82 : decode cL_text 82 = .ok (.invokevirtual 53, 3) := by decide +kernel
theorem dW_text_85 : decode cL_text 85 = .ok (.invokevirtual 58, 3) := by decide +kernel
theorem dW_text_88 : decode cL_text 88 = .ok (.invokevirtual 47, 3) := by decide +kernel
theorem dW_text_91 : decode cL_text 91 = .ok (.ldc 62, 2) := by decide +kernel
theorem dW_text_93 : decode cL_text 93 = .ok (.invokevirtual 47, 3) := by decide +kernel
theorem dW_text_96 : decode cL_text 96 = .ok (.invokevirtual 58, 3) := by decide +kernel
theorem dW_text_99 : decode cL_text 99 = .ok (.astore_n 1, 1) := by decide +kernel
theorem dW_text_55 : decode cL_text 55 = .ok (.ldc 38, 2) := by decide +kernel
theorem dW_text_57 : decode cL_text 57 = .ok (.goto 31, 3) := by decide +kernel
theorem dW_text_121 : decode cL_text 121 = .ok (.new 44, 3) := by decide +kernel
theorem dW_text_124 : decode cL_text 124 = .ok (.dup, 1) := by decide +kernel
theorem dW_text_125 : decode cL_text 125 = .ok (.invokespecial 46, 3) := by decide +kernel
theorem dW_text_128 : decode cL_text 128 = .ok (.aload_n 1, 1) := by decide +kernel
theorem dW_text_129 : decode cL_text 129 = .ok (.invokevirtual 47, 3) := by decide +kernel
theorem dW_text_132 : decode cL_text 132 = .ok (.ldc 64, 2) := by decide +kernel
theorem dW_text_134 : decode cL_text 134 = .ok (.invokevirtual 47, 3) := by decide +kernel
theorem dW_text_137 : decode cL_text 137 = .ok (.aload_n 0, 1) := by decide +kernel
theorem dW_text_138 : decode cL_text 138 = .ok (.bipush 9, 2) := by decide +kernel
theorem dW_text_140 : decode cL_text 140 = .ok (.invokestatic 28, 3) := by decide +kernel
theorem dW_text_143 : decode cL_text 143 = .ok (.bipush 13, 2) := by decide +kernel
theorem dW_text_145 : decode cL_text 145 = .ok (.ishr, 1) := by decide +kernel
theorem dW_text_146 : decode cL_text 146 = .ok (.iconst 0, 1) := by decide +kernel
theorem dW_text_147 : decode cL_text 147 = .ok (.bipush 20, 2) := by decide +kernel
theorem dW_text_149 : decode cL_text 149 = .ok (.invokestatic 34, 3) := by decide +kernel
theorem dW_text_152 : decode cL_text 152 = .ok (.invokevirtual 53, 3) := by decide +kernel
theorem dW_text_155 : decode cL_text 155 = .ok (.ldc 62, 2) := by decide +kernel
theorem dW_text_157 : decode cL_text 157 = .ok (.invokevirtual 47, 3) := by decide +kernel
theorem dW_text_160 : decode cL_text 160 = .ok (.invokevirtual 58, 3) := by decide +kernel
theorem dW_text_163 : decode cL_text 163 = .ok (.astore_n 1, 1) := by decide +kernel
theorem dW_text_174 : decode cL_text 174 = .ok (.new 44, 3) := by decide +kernel
theorem dW_text_177 : decode cL_text 177 = .ok (.dup, 1) := by decide +kernel
theorem dW_text_178 : decode cL_text 178 = .ok (.invokespecial 46, 3) := by decide +kernel
theorem dW_text_181 : decode cL_text 181 = .ok (.aload_n 1, 1) := by decide +kernel
theorem dW_text_182 : decode cL_text 182 = .ok (.invokevirtual 47, 3) := by decide +kernel
theorem dW_text_185 : decode cL_text 185 = .ok (.ldc 69, 2) := by decide +kernel
theorem dW_text_187 : decode cL_text 187 = .ok (.invokevirtual 47, 3) := by decide +kernel
theorem dW_text_190 : decode cL_text 190 = .ok (.aload_n 0, 1) := by decide +kernel
theorem dW_text_191 : decode cL_text 191 = .ok (.bipush 7, 2) := by decide +kernel
theorem dW_text_193 : decode cL_text 193 = .ok (.invokestatic 28, 3) := by decide +kernel
theorem dW_text_196 : decode cL_text 196 = .ok (.bipush 8, 2) := by decide +kernel
theorem dW_text_198 : decode cL_text 198 = .ok (.iload_n 2, 1) := by decide +kernel
theorem dW_text_199 : decode cL_text 199 = .ok (.imul, 1) := by decide +kernel
theorem dW_text_200 : decode cL_text 200 = .ok (.ishr, 1) := by decide +kernel
theorem dW_text_201 : decode cL_text 201 = .ok (.iconst 1, 1) := by decide +kernel
theorem dW_text_202 : decode cL_text 202 = .ok (.bipush 9, 2) := by decide +kernel
theorem dW_text_204 : decode cL_text 204 = .ok (.invokestatic 34, 3) := by decide +kernel
theorem dW_text_207 : decode cL_text 207 = .ok (.invokevirtual 53, 3) := by decide +kernel
theorem dW_text_210 : decode cL_text 210 = .ok (.ldc 56, 2) := by decide +kernel
theorem dW_text_212 : decode cL_text 212 = .ok (.invokevirtual 47, 3) := by decide +kernel
theorem dW_text_215 : decode cL_text 215 = .ok (.aload_n 0, 1) := by decide +kernel
theorem dW_text_216 : decode cL_text 216 = .ok (.bipush 8, 2) := by decide +kernel
theorem dW_text_218 : decode cL_text 218 = .ok (.invokestatic 28, 3) := by decide +kernel
theorem dW_text_221 : decode cL_text 221 = .ok (.bipush 7, 2) := by decide +kernel
theorem dW_text_223 : decode cL_text 223 = .ok (.iload_n 2, 1) := by decide +kernel
theorem dW_text_224 : decode cL_text 224 = .ok (.imul, 1) := by decide +kernel
theorem dW_text_225 : decode cL_text 225 = .ok (.ishr, 1) := by decide +kernel
theorem dW_text_226 : decode cL_text 226 = .ok (.iconst 0, 1) := by decide +kernel
theorem dW_text_227 : decode cL_text 227 = .ok (.iconst 5, 1) := by decide +kernel
theorem dW_text_228 : decode cL_text 228 = .ok (.invokestatic 34, 3) := by decide +kernel
theorem dW_text_231 : decode cL_text 231 = .ok (.invokevirtual 53, 3) := by decide +kernel
theorem dW_text_234 : decode cL_text 234 = .ok (.ldc 62, 2) := by decide +kernel
theorem dW_text_236 : decode cL_text 236 = .ok (.invokevirtual 47, 3) := by decide +kernel
theorem dW_text_239 : decode cL_text 239 = .ok (.invokevirtual 58, 3) := by decide +kernel
theorem dW_text_242 : decode cL_text 242 = .ok (.astore_n 1, 1) := by decide +kernel
theorem dW_text_278 : decode cL_text 278 = .ok (.new 44, 3) := by decide +kernel
theorem dW_text_281 : decode cL_text 281 = .ok (.dup, 1) := by decide +kernel
theorem dW_text_282 : decode cL_text 282 = .ok (.invokespecial 46, 3) := by decide +kernel
theorem dW_text_285 : decode cL_text 285 = .ok (.aload_n 1, 1) := by decide +kernel
theorem dW_text_286 : decode cL_text 286 = .ok (.invokevirtual 47, 3) := by decide +kernel
theorem dW_text_289 : decode cL_text 289 = .ok (.ldc 75, 2) := by decide +kernel
theorem dW_text_291 : decode cL_text 291 = .ok (.invokevirtual 47, 3) := by decide +kernel
theorem dW_text_294 : decode cL_text 294 = .ok (.iload_n 2, 1) := by decide +kernel
theorem dW_text_295 : decode cL_text 295 = .ok (.invokevirtual 53, 3) := by decide +kernel
theorem dW_text_298 : decode cL_text 298 = .ok (.ldc 56, 2) := by decide +kernel
theorem dW_text_300 : decode cL_text 300 = .ok (.invokevirtual 47, 3) := by decide +kernel
theorem dW_text_303 : decode cL_text 303 = .ok (.iload_n 3, 1) := by decide +kernel
theorem dW_text_304 : decode cL_text 304 = .ok (.invokevirtual 53, 3) := by decide +kernel
theorem dW_text_307 : decode cL_text 307 = .ok (.ldc 56, 2) := by decide +kernel
theorem dW_text_309 : decode cL_text 309 = .ok (.invokevirtual 47, 3) := by decide +kernel
theorem dW_text_312 : decode cL_text 312 = .ok (.aload_n 0, 1) := by decide +kernel
theorem dW_text_313 : decode cL_text 313 = .ok (.iload_n 2, 1) := by decide +kernel
theorem dW_text_314 : decode cL_text 314 = .ok (.iload_n 3, 1) := by decide +kernel
theorem dW_text_315 : decode cL_text 315 = .ok (.invokestatic 71, 3) := by decide +kernel
theorem momW_holds : MO mW_holds 3 true := ⟨Ts_in (in_t6 _ (List.mem_of_getElem? (i := 19) rfl)) rfl, Ts_in (in_t1 _ (List.mem_of_getElem? (i := 0) rfl)) rfl, ⟨by decide +kernel, by decide +kernel, by decide +kernel⟩, Ts_in (in_t6 _ (List.mem_of_getElem? (i := 18) rfl)) rfl⟩
theorem mlW_71 : Cond.methodLink RL 71 mW_holds.1 ∈ Ts := Ts_in (in_t6 _ (List.mem_of_getElem? (i := 17) rfl)) rfl
theorem dW_text_318 : decode cL_text 318 = .ok (.invokevirtual 53, 3) := by decide +kernel
theorem dW_text_321 : decode cL_text 321 = .ok (.ldc 62, 2) := by decide +kernel
theorem dW_text_323 : decode cL_text 323 = .ok (.invokevirtual 47, 3) := by decide +kernel
theorem dW_text_326 : decode cL_text 326 = .ok (.invokevirtual 58, 3) := by decide +kernel
theorem dW_text_329 : decode cL_text 329 = .ok (.astore_n 1, 1) := by decide +kernel
theorem dW_text_339 : decode cL_text 339 = .ok (.new 44, 3) := by decide +kernel
theorem dW_text_342 : decode cL_text 342 = .ok (.dup, 1) := by decide +kernel
theorem dW_text_343 : decode cL_text 343 = .ok (.invokespecial 46, 3) := by decide +kernel
theorem dW_text_346 : decode cL_text 346 = .ok (.aload_n 1, 1) := by decide +kernel
theorem dW_text_347 : decode cL_text 347 = .ok (.invokevirtual 47, 3) := by decide +kernel
theorem dW_text_350 : decode cL_text 350 = .ok (.ldc 80, 2) := by decide +kernel
theorem dW_text_352 : decode cL_text 352 = .ok (.invokevirtual 47, 3) := by decide +kernel
theorem dW_text_355 : decode cL_text 355 = .ok (.iload_n 2, 1) := by decide +kernel
theorem dW_text_356 : decode cL_text 356 = .ok (.invokevirtual 53, 3) := by decide +kernel
theorem dW_text_359 : decode cL_text 359 = .ok (.ldc 56, 2) := by decide +kernel
theorem dW_text_361 : decode cL_text 361 = .ok (.invokevirtual 47, 3) := by decide +kernel
theorem dW_text_364 : decode cL_text 364 = .ok (.iload_n 3, 1) := by decide +kernel
theorem dW_text_365 : decode cL_text 365 = .ok (.invokevirtual 53, 3) := by decide +kernel
theorem dW_text_368 : decode cL_text 368 = .ok (.ldc 56, 2) := by decide +kernel
theorem dW_text_370 : decode cL_text 370 = .ok (.invokevirtual 47, 3) := by decide +kernel
theorem dW_text_373 : decode cL_text 373 = .ok (.aload_n 0, 1) := by decide +kernel
theorem dW_text_374 : decode cL_text 374 = .ok (.iload_n 2, 1) := by decide +kernel
theorem dW_text_375 : decode cL_text 375 = .ok (.iload_n 3, 1) := by decide +kernel
theorem dW_text_376 : decode cL_text 376 = .ok (.invokestatic 77, 3) := by decide +kernel
theorem momW_much : MO mW_much 3 true := ⟨Ts_in (in_t6 _ (List.mem_of_getElem? (i := 23) rfl)) rfl, Ts_in (in_t1 _ (List.mem_of_getElem? (i := 0) rfl)) rfl, ⟨by decide +kernel, by decide +kernel, by decide +kernel⟩, Ts_in (in_t6 _ (List.mem_of_getElem? (i := 22) rfl)) rfl⟩
theorem mlW_77 : Cond.methodLink RL 77 mW_much.1 ∈ Ts := Ts_in (in_t6 _ (List.mem_of_getElem? (i := 21) rfl)) rfl
theorem dW_text_379 : decode cL_text 379 = .ok (.invokevirtual 53, 3) := by decide +kernel
theorem dW_text_382 : decode cL_text 382 = .ok (.ldc 56, 2) := by decide +kernel
theorem dW_text_384 : decode cL_text 384 = .ok (.invokevirtual 47, 3) := by decide +kernel
theorem dW_text_387 : decode cL_text 387 = .ok (.aload_n 0, 1) := by decide +kernel
theorem dW_text_388 : decode cL_text 388 = .ok (.bipush 9, 2) := by decide +kernel
theorem dW_text_390 : decode cL_text 390 = .ok (.invokestatic 28, 3) := by decide +kernel
theorem dW_text_393 : decode cL_text 393 = .ok (.iconst 3, 1) := by decide +kernel
theorem dW_text_394 : decode cL_text 394 = .ok (.iload_n 3, 1) := by decide +kernel
theorem dW_text_395 : decode cL_text 395 = .ok (.imul, 1) := by decide +kernel
theorem dW_text_396 : decode cL_text 396 = .ok (.iload_n 2, 1) := by decide +kernel
theorem dW_text_397 : decode cL_text 397 = .ok (.iadd, 1) := by decide +kernel
theorem dW_text_398 : decode cL_text 398 = .ok (.ishr, 1) := by decide +kernel
theorem dW_text_399 : decode cL_text 399 = .ok (.iconst 0, 1) := by decide +kernel
theorem dW_text_400 : decode cL_text 400 = .ok (.bipush 20, 2) := by decide +kernel
theorem dW_text_402 : decode cL_text 402 = .ok (.invokestatic 34, 3) := by decide +kernel
theorem dW_text_405 : decode cL_text 405 = .ok (.invokevirtual 53, 3) := by decide +kernel
theorem dW_text_408 : decode cL_text 408 = .ok (.ldc 62, 2) := by decide +kernel
theorem dW_text_410 : decode cL_text 410 = .ok (.invokevirtual 47, 3) := by decide +kernel
theorem dW_text_413 : decode cL_text 413 = .ok (.invokevirtual 58, 3) := by decide +kernel
theorem dW_text_416 : decode cL_text 416 = .ok (.astore_n 1, 1) := by decide +kernel
set_option maxRecDepth 100000 in
set_option maxHeartbeats 4000000 in
theorem tx_A {t : Nat} {τ : List Int} {x v : Int} (hC : CxOK (g, q) mW_text C) (hRm : C.2.2.2.1 = rmN 8 kc kw) (W : WG g0 S0 n0 M0 g S n M) (hn : n + 17 < 1000) (hk : k + 15 ≤ kc) (hw : w + 12666 ≤ kw) (hv : v = scK g0 (4 + x)) (hT : TS0 S M n0 n t x τ) (h9 : τ.length + 14 ≤ 600)
    (kk : ∀ (g1 : Nat → Nat) (S1 : Sh) (n1 k1 w1 : Nat) (M1 : Mem) (t1 : Nat), CxOK (g1, q) mW_text C → WG g0 S0 n0 M0 g1 S1 n1 M1 → n1 ≤ n + 15 → k1 ≤ k + 15 → w1 ≤ w + 12666 → TS S1 M1 n0 n1 t1 (ytA g0 x τ) → RZ (g1, q) S1 C Z k1 w1 n1 100 [some (vR 1030), some (vR t1), some (vI x), some (vI v)] [] M1) : RZ (g, q) S C Z k w n 21 [some (vR 1030), some (vR t), some (vI x), some (vI v)] [] M := by
  have hWn := W.2.1
  have hvi : inI v := by rw [hv]; exact scK_in _ _
  refine T_new hC hRm W (by omega) (by omega) (by omega) dW_text_21 dW_text_24 dW_text_25 (hls_K (by decide) (hls_V (hT.ok.up (by omega)) (hls_I (hls_I hls_0)))) hst_0 (Nat.le_of_ble_eq_true rfl) (fun g1 S1 M1 hC1 ga1 W1 B1 hS1 hM1 => ?_)
  refine R_aload_1 hC1 dW_text_28 ?_
  refine T_app hC1 hRm W1 (by omega) (by omega) (by omega) (by omega) (by omega) (by omega) (by omega) B1 (hT.src hS1 hM1) (by simp only [List.length_append, List.length_nil, sl_5, sl_6, sl_7, sl_8, sl_9, sl_10, sl_11, sl_12]; omega) dW_text_29 (hls_K (by decide) (hls_V (hT.ok.up (by omega)) (hls_I (hls_I hls_0)))) hst_0 (Nat.le_of_ble_eq_true rfl) (fun g2 S2 n2 M2 r2 m2 hC2 ga2 W2 hn2 hS2 hr2 B2 hM2 => ?_)
  refine R_ldcS hC2 dW_text_32 (List.mem_of_getElem? (i := 6) rfl) ?_
  refine T_app hC2 hRm W2 (by omega) (by omega) (by omega) (by omega) (by omega) (by omega) (by omega) B2 (.inl ⟨6, by decide, rfl, rfl⟩) (by simp only [List.length_append, List.length_nil, sl_5, sl_6, sl_7, sl_8, sl_9, sl_10, sl_11, sl_12]; omega) dW_text_34 (hls_K (by decide) (hls_V (hT.ok.up (by omega)) (hls_I (hls_I hls_0)))) hst_0 (Nat.le_of_ble_eq_true rfl) (fun g3 S3 n3 M3 r3 m3 hC3 ga3 W3 hn3 hS3 hr3 B3 hM3 => ?_)
  refine R_iload_3 hC3 dW_text_37 ?_
  refine R_iconst hC3 dW_text_38 ⟨by decide, by decide⟩ ?_
  refine R_bipush hC3 dW_text_39 (by decide +kernel) ⟨by decide, by decide⟩ ?_
  refine T_call (as := [vI (v), vI 0, vI 8]) hC3 hRm (by omega) (by omega) dW_text_41 momW_from mlW_34 (l_from (G := (g3, q)) W3.ka hvi (by decide) (by decide) (by decide)) rfl rfl (by decide) (Nat.le_of_ble_eq_true rfl) (Nat.le_of_ble_eq_true rfl) ?_
  refine T_appI hC3 hRm W3 (by omega) (by omega) (by omega) (by omega) (by omega) (by omega) (by omega) B3 (frI_b (by decide)).1 (by have := (frI_b (v := v) (a := 0) (b := 8) (by decide)).2; omega) (by simp only [List.length_append, List.length_nil, sl_5, sl_6, sl_7, sl_8, sl_9, sl_10, sl_11, sl_12]; omega) dW_text_44 (hls_K (by decide) (hls_V (hT.ok.up (by omega)) (hls_I (hls_I hls_0)))) hst_0 (Nat.le_of_ble_eq_true rfl) (fun g4 S4 n4 M4 r4 m4 hC4 ga4 W4 hn4 hS4 hr4 B4 hM4 => ?_)
  refine R_iload_3 hC4 dW_text_47 ?_
  refine R_iconst hC4 dW_text_48 ⟨by decide, by decide⟩ ?_
  refine R_ishr hC4 dW_text_49 (by decide) (by decide) ?_
  refine R_iconst hC4 dW_text_50 ⟨by decide, by decide⟩ ?_
  refine R_iandm hC4 dW_text_51 (m := 1) (by decide) (by decide) ?_
  refine R_if_ne hC4 dW_text_52 (tgt := 60) (by decide) (fun hj => ?_) (fun hj => ?_)
  · replace hj : ¬ v / 2 ^ 5 % 2 ^ 1 = 0 := hj
    refine T_new hC4 hRm W4 (by omega) (by omega) (by omega) dW_text_60 dW_text_63 dW_text_64 (hls_K (by decide) (hls_V (hT.ok.up (by omega)) (hls_I (hls_I hls_0)))) (hst_R (by omega) hst_0) (Nat.le_of_ble_eq_true rfl) (fun g5 S5 M5 hC5 ga5 W5 B5 hS5 hM5 => ?_)
    have Bo5 := B4.keep2 (k := n4) (by omega) (by omega) hS5 hM5
    refine R_ldcS hC5 dW_text_67 (List.mem_of_getElem? (i := 7) rfl) ?_
    refine T_app hC5 hRm W5 (by omega) (by omega) (by omega) (by omega) (by omega) (by omega) (by omega) B5 (.inl ⟨7, by decide, rfl, rfl⟩) (by have := dcL_2 (frI v 0 8); simp only [List.length_append, List.length_nil, sl_5, sl_6, sl_7, sl_8, sl_9, sl_10, sl_11, sl_12]; omega) dW_text_69 (hls_K (by decide) (hls_V (hT.ok.up (by omega)) (hls_I (hls_I hls_0)))) (hst_R (by omega) hst_0) (Nat.le_of_ble_eq_true rfl) (fun g6 S6 n6 M6 r6 m6 hC6 ga6 W6 hn6 hS6 hr6 B6 hM6 => ?_)
    have Bo6 := Bo5.keep2 (k := n4) (by omega) (by omega) (fun h hh => hS6 h (by omega)) (fun h hh => hM6 h (by omega) (by omega) (by omega))
    refine R_iload_3 hC6 dW_text_72 ?_
    refine R_bipush hC6 dW_text_73 (by decide +kernel) ⟨by decide, by decide⟩ ?_
    refine R_ishr hC6 dW_text_75 (by decide) (by decide) ?_
    refine R_iconst hC6 dW_text_76 ⟨by decide, by decide⟩ ?_
    refine R_bipush hC6 dW_text_77 (by decide +kernel) ⟨by decide, by decide⟩ ?_
    refine T_call (as := [vI (v / 2 ^ 6), vI 0, vI 6]) hC6 hRm (by omega) (by omega) dW_text_79 momW_from mlW_34 (l_from (G := (g6, q)) W6.ka (inI_shr hvi 6) (by decide) (by decide) (by decide)) rfl rfl (by decide) (Nat.le_of_ble_eq_true rfl) (Nat.le_of_ble_eq_true rfl) ?_
    refine T_appI hC6 hRm W6 (by omega) (by omega) (by omega) (by omega) (by omega) (by omega) (by omega) B6 (frI_b (by decide)).1 (by have := (frI_b (v := v / 2 ^ 6) (a := 0) (b := 6) (by decide)).2; omega) (by have := dcL_2 (frI v 0 8); simp only [List.length_append, List.length_nil, sl_5, sl_6, sl_7, sl_8, sl_9, sl_10, sl_11, sl_12]; omega) dW_text_82 (hls_K (by decide) (hls_V (hT.ok.up (by omega)) (hls_I (hls_I hls_0)))) (hst_R (by omega) hst_0) (Nat.le_of_ble_eq_true rfl) (fun g7 S7 n7 M7 r7 m7 hC7 ga7 W7 hn7 hS7 hr7 B7 hM7 => ?_)
    have Bo7 := Bo6.keep2 (k := n4) (by omega) (by omega) (fun h hh => hS7 h (by omega)) (fun h hh => hM7 h (by omega) (by omega) (by omega))
    refine T_str hC7 hRm W7 (by omega) (by omega) (by omega) (by omega) (by omega) B7 dW_text_85 (hls_K (by decide) (hls_V (hT.ok.up (by omega)) (hls_I (hls_I hls_0)))) (hst_R (by omega) hst_0) (Nat.le_of_ble_eq_true rfl) (fun g8 S8 M8 hC8 ga8 W8 hS8 G8 hM8 => ?_)
    have Bo8 := Bo7.keep2 (k := n4) (by omega) (by omega) (fun h hh => hS8 h (by omega)) (fun h hh => hM8 h (by omega))
    refine T_app hC8 hRm W8 (by omega) (by omega) (by omega) (by omega) (by omega) (by omega) (by omega) Bo8 (.inr ⟨_, by omega, by omega, by omega, G8⟩) (by have := dcL_2 (frI v 0 8); have := dcL_2 (frI (v / 2 ^ 6) 0 6); simp only [List.length_append, List.length_nil, sl_5, sl_6, sl_7, sl_8, sl_9, sl_10, sl_11, sl_12]; omega) dW_text_88 (hls_K (by decide) (hls_V (hT.ok.up (by omega)) (hls_I (hls_I hls_0)))) hst_0 (Nat.le_of_ble_eq_true rfl) (fun g9 S9 n9 M9 r9 m9 hC9 ga9 W9 hn9 hS9 hr9 B9 hM9 => ?_)
    refine R_ldcS hC9 dW_text_91 (List.mem_of_getElem? (i := 8) rfl) ?_
    refine T_app hC9 hRm W9 (by omega) (by omega) (by omega) (by omega) (by omega) (by omega) (by omega) B9 (.inl ⟨8, by decide, rfl, rfl⟩) (by have := dcL_2 (frI v 0 8); have := dcL_2 (frI (v / 2 ^ 6) 0 6); simp only [List.length_append, List.length_nil, sl_5, sl_6, sl_7, sl_8, sl_9, sl_10, sl_11, sl_12]; omega) dW_text_93 (hls_K (by decide) (hls_V (hT.ok.up (by omega)) (hls_I (hls_I hls_0)))) hst_0 (Nat.le_of_ble_eq_true rfl) (fun g10 S10 n10 M10 r10 m10 hC10 ga10 W10 hn10 hS10 hr10 B10 hM10 => ?_)
    refine T_str hC10 hRm W10 (by omega) (by omega) (by omega) (by omega) (by omega) B10 dW_text_96 (hls_K (by decide) (hls_V (hT.ok.up (by omega)) (hls_I (hls_I hls_0)))) hst_0 (Nat.le_of_ble_eq_true rfl) (fun g11 S11 M11 hC11 ga11 W11 hS11 G11 hM11 => ?_)
    refine R_astore_1 hC11 dW_text_99 rfl ?_
    exact kk g11 S11 _ _ _ M11 _ hC11 W11 (by omega) (by omega) (by omega) ⟨n10 + 1, ⟨by omega, by omega⟩, ⟨by omega, by omega⟩, by
      have z := G11
      simp only [List.nil_append] at z
      unfold ytA; rw [← hv, if_neg hj]
      exact z⟩
  · replace hj : v / 2 ^ 5 % 2 ^ 1 = 0 := hj
    refine R_ldcS hC4 dW_text_55 (List.mem_of_getElem? (i := 5) rfl) ?_
    refine R_goto hC4 dW_text_57 (tgt := 88) (by decide) ?_
    refine T_app hC4 hRm W4 (by omega) (by omega) (by omega) (by omega) (by omega) (by omega) (by omega) B4 (.inl ⟨5, by decide, rfl, rfl⟩) (by have := dcL_2 (frI v 0 8); simp only [List.length_append, List.length_nil, sl_5, sl_6, sl_7, sl_8, sl_9, sl_10, sl_11, sl_12]; omega) dW_text_88 (hls_K (by decide) (hls_V (hT.ok.up (by omega)) (hls_I (hls_I hls_0)))) hst_0 (Nat.le_of_ble_eq_true rfl) (fun g12 S12 n12 M12 r12 m12 hC12 ga12 W12 hn12 hS12 hr12 B12 hM12 => ?_)
    refine R_ldcS hC12 dW_text_91 (List.mem_of_getElem? (i := 8) rfl) ?_
    refine T_app hC12 hRm W12 (by omega) (by omega) (by omega) (by omega) (by omega) (by omega) (by omega) B12 (.inl ⟨8, by decide, rfl, rfl⟩) (by have := dcL_2 (frI v 0 8); simp only [List.length_append, List.length_nil, sl_5, sl_6, sl_7, sl_8, sl_9, sl_10, sl_11, sl_12]; omega) dW_text_93 (hls_K (by decide) (hls_V (hT.ok.up (by omega)) (hls_I (hls_I hls_0)))) hst_0 (Nat.le_of_ble_eq_true rfl) (fun g13 S13 n13 M13 r13 m13 hC13 ga13 W13 hn13 hS13 hr13 B13 hM13 => ?_)
    refine T_str hC13 hRm W13 (by omega) (by omega) (by omega) (by omega) (by omega) B13 dW_text_96 (hls_K (by decide) (hls_V (hT.ok.up (by omega)) (hls_I (hls_I hls_0)))) hst_0 (Nat.le_of_ble_eq_true rfl) (fun g14 S14 M14 hC14 ga14 W14 hS14 G14 hM14 => ?_)
    refine R_astore_1 hC14 dW_text_99 rfl ?_
    exact kk g14 S14 _ _ _ M14 _ hC14 W14 (by omega) (by omega) (by omega) ⟨n13 + 1, ⟨by omega, by omega⟩, ⟨by omega, by omega⟩, by
      have z := G14
      simp only [List.nil_append] at z
      unfold ytA; rw [← hv, if_pos hj]
      exact z⟩
set_option maxRecDepth 100000 in
set_option maxHeartbeats 4000000 in
theorem tx_B {t : Nat} {τ : List Int}  (hC : CxOK (g, q) mW_text C) (hRm : C.2.2.2.1 = rmN 8 kc kw) (W : WG g0 S0 n0 M0 g S n M) (hn : n + 10 < 1000) (hk : k + 8 ≤ kc) (hw : w + 7034 ≤ kw) (hT : TS S M n0 n t τ) (h9 : τ.length + 9 ≤ 600)
    (kk : ∀ (g1 : Nat → Nat) (S1 : Sh) (n1 k1 w1 : Nat) (M1 : Mem) (t1 : Nat), CxOK (g1, q) mW_text C → WG g0 S0 n0 M0 g1 S1 n1 M1 → n1 ≤ n + 8 → k1 ≤ k + 8 → w1 ≤ w + 7034 → TS S1 M1 n0 n1 t1 (τ ++ sL 9 ++ dcL (frI (scK g0 9 / 2 ^ 13) 0 20) ++ sL 8) → RZ (g1, q) S1 C Z k1 w1 n1 164 [some (vR 1030), some (vR t1), none, none] [] M1) : RZ (g, q) S C Z k w n 121 [some (vR 1030), some (vR t), none, none] [] M := by
  have hWn := W.2.1
  refine T_new hC hRm W (by omega) (by omega) (by omega) dW_text_121 dW_text_124 dW_text_125 (hls_K (by decide) (hls_V (hT.ok.up (by omega)) (hls_N (hls_N hls_0)))) hst_0 (Nat.le_of_ble_eq_true rfl) (fun g1 S1 M1 hC1 ga1 W1 B1 hS1 hM1 => ?_)
  refine R_aload_1 hC1 dW_text_128 ?_
  refine T_app hC1 hRm W1 (by omega) (by omega) (by omega) (by omega) (by omega) (by omega) (by omega) B1 (hT.src hS1 hM1) (by simp only [List.length_append, List.length_nil, sl_5, sl_6, sl_7, sl_8, sl_9, sl_10, sl_11, sl_12]; omega) dW_text_129 (hls_K (by decide) (hls_V (hT.ok.up (by omega)) (hls_N (hls_N hls_0)))) hst_0 (Nat.le_of_ble_eq_true rfl) (fun g2 S2 n2 M2 r2 m2 hC2 ga2 W2 hn2 hS2 hr2 B2 hM2 => ?_)
  refine R_ldcS hC2 dW_text_132 (List.mem_of_getElem? (i := 9) rfl) ?_
  refine T_app hC2 hRm W2 (by omega) (by omega) (by omega) (by omega) (by omega) (by omega) (by omega) B2 (.inl ⟨9, by decide, rfl, rfl⟩) (by simp only [List.length_append, List.length_nil, sl_5, sl_6, sl_7, sl_8, sl_9, sl_10, sl_11, sl_12]; omega) dW_text_134 (hls_K (by decide) (hls_V (hT.ok.up (by omega)) (hls_N (hls_N hls_0)))) hst_0 (Nat.le_of_ble_eq_true rfl) (fun g3 S3 n3 M3 r3 m3 hC3 ga3 W3 hn3 hS3 hr3 B3 hM3 => ?_)
  refine R_aload_0 hC3 dW_text_137 ?_
  refine R_bipush hC3 dW_text_138 (by decide +kernel) ⟨by decide, by decide⟩ ?_
  refine T_call (as := [vR 1030, vI (9)]) hC3 hRm (by omega) (by omega) dW_text_140 momW_cell mlW_28 (l_cell (G := (g3, q)) W3.ka (by omega)) rfl rfl (by decide) (Nat.le_of_ble_eq_true rfl) (Nat.le_of_ble_eq_true rfl) ?_
  refine R_bipush hC3 dW_text_143 (by decide +kernel) ⟨by decide, by decide⟩ ?_
  refine R_ishr hC3 dW_text_145 (by decide) (by decide) ?_
  refine R_iconst hC3 dW_text_146 ⟨by decide, by decide⟩ ?_
  refine R_bipush hC3 dW_text_147 (by decide +kernel) ⟨by decide, by decide⟩ ?_
  refine T_call (as := [vI (scK g0 9 / 2 ^ 13), vI 0, vI 20]) hC3 hRm (by omega) (by omega) dW_text_149 momW_from mlW_34 (l_from (G := (g3, q)) W3.ka (inI_shr (scK_in _ _) 13) (by decide) (by decide) (by decide)) rfl rfl (by decide) (Nat.le_of_ble_eq_true rfl) (Nat.le_of_ble_eq_true rfl) ?_
  refine T_appI hC3 hRm W3 (by omega) (by omega) (by omega) (by omega) (by omega) (by omega) (by omega) B3 (frI_b (by decide)).1 (by have := (frI_b (v := scK g0 9 / 2 ^ 13) (a := 0) (b := 20) (by decide)).2; omega) (by simp only [List.length_append, List.length_nil, sl_5, sl_6, sl_7, sl_8, sl_9, sl_10, sl_11, sl_12]; omega) dW_text_152 (hls_K (by decide) (hls_V (hT.ok.up (by omega)) (hls_N (hls_N hls_0)))) hst_0 (Nat.le_of_ble_eq_true rfl) (fun g4 S4 n4 M4 r4 m4 hC4 ga4 W4 hn4 hS4 hr4 B4 hM4 => ?_)
  refine R_ldcS hC4 dW_text_155 (List.mem_of_getElem? (i := 8) rfl) ?_
  refine T_app hC4 hRm W4 (by omega) (by omega) (by omega) (by omega) (by omega) (by omega) (by omega) B4 (.inl ⟨8, by decide, rfl, rfl⟩) (by have := dcL_2 (frI (scK g0 9 / 2 ^ 13) 0 20); simp only [List.length_append, List.length_nil, sl_5, sl_6, sl_7, sl_8, sl_9, sl_10, sl_11, sl_12]; omega) dW_text_157 (hls_K (by decide) (hls_V (hT.ok.up (by omega)) (hls_N (hls_N hls_0)))) hst_0 (Nat.le_of_ble_eq_true rfl) (fun g5 S5 n5 M5 r5 m5 hC5 ga5 W5 hn5 hS5 hr5 B5 hM5 => ?_)
  refine T_str hC5 hRm W5 (by omega) (by omega) (by omega) (by omega) (by omega) B5 dW_text_160 (hls_K (by decide) (hls_V (hT.ok.up (by omega)) (hls_N (hls_N hls_0)))) hst_0 (Nat.le_of_ble_eq_true rfl) (fun g6 S6 M6 hC6 ga6 W6 hS6 G6 hM6 => ?_)
  refine R_astore_1 hC6 dW_text_163 rfl ?_
  exact kk g6 S6 _ _ _ M6 _ hC6 W6 (by omega) (by omega) (by omega) ⟨n5 + 1, ⟨by omega, by omega⟩, ⟨by omega, by omega⟩, by
    have z := G6
    simp only [List.nil_append] at z
    skip
    exact z⟩
set_option maxRecDepth 100000 in
set_option maxHeartbeats 4000000 in
theorem tx_C {t : Nat} {τ : List Int} {x : Int} (hC : CxOK (g, q) mW_text C) (hRm : C.2.2.2.1 = rmN 8 kc kw) (W : WG g0 S0 n0 M0 g S n M) (hn : n + 12 < 1000) (hk : k + 10 ≤ kc) (hw : w + 9838 ≤ kw) (x0 : 0 ≤ x) (x1 : x < 3) (hT : TS S M n0 n t τ) (h9 : τ.length + 11 ≤ 600)
    (kk : ∀ (g1 : Nat → Nat) (S1 : Sh) (n1 k1 w1 : Nat) (M1 : Mem) (t1 : Nat), CxOK (g1, q) mW_text C → WG g0 S0 n0 M0 g1 S1 n1 M1 → n1 ≤ n + 10 → k1 ≤ k + 10 → w1 ≤ w + 9838 → TS S1 M1 n0 n1 t1 (ytC g0 x τ) → RZ (g1, q) S1 C Z k1 w1 n1 243 [some (vR 1030), some (vR t1), some (vI x), none] [] M1) : RZ (g, q) S C Z k w n 174 [some (vR 1030), some (vR t), some (vI x), none] [] M := by
  have hWn := W.2.1
  refine T_new hC hRm W (by omega) (by omega) (by omega) dW_text_174 dW_text_177 dW_text_178 (hls_K (by decide) (hls_V (hT.ok.up (by omega)) (hls_I (hls_N hls_0)))) hst_0 (Nat.le_of_ble_eq_true rfl) (fun g1 S1 M1 hC1 ga1 W1 B1 hS1 hM1 => ?_)
  refine R_aload_1 hC1 dW_text_181 ?_
  refine T_app hC1 hRm W1 (by omega) (by omega) (by omega) (by omega) (by omega) (by omega) (by omega) B1 (hT.src hS1 hM1) (by simp only [List.length_append, List.length_nil, sl_5, sl_6, sl_7, sl_8, sl_9, sl_10, sl_11, sl_12]; omega) dW_text_182 (hls_K (by decide) (hls_V (hT.ok.up (by omega)) (hls_I (hls_N hls_0)))) hst_0 (Nat.le_of_ble_eq_true rfl) (fun g2 S2 n2 M2 r2 m2 hC2 ga2 W2 hn2 hS2 hr2 B2 hM2 => ?_)
  refine R_ldcS hC2 dW_text_185 (List.mem_of_getElem? (i := 10) rfl) ?_
  refine T_app hC2 hRm W2 (by omega) (by omega) (by omega) (by omega) (by omega) (by omega) (by omega) B2 (.inl ⟨10, by decide, rfl, rfl⟩) (by simp only [List.length_append, List.length_nil, sl_5, sl_6, sl_7, sl_8, sl_9, sl_10, sl_11, sl_12]; omega) dW_text_187 (hls_K (by decide) (hls_V (hT.ok.up (by omega)) (hls_I (hls_N hls_0)))) hst_0 (Nat.le_of_ble_eq_true rfl) (fun g3 S3 n3 M3 r3 m3 hC3 ga3 W3 hn3 hS3 hr3 B3 hM3 => ?_)
  refine R_aload_0 hC3 dW_text_190 ?_
  refine R_bipush hC3 dW_text_191 (by decide +kernel) ⟨by decide, by decide⟩ ?_
  refine T_call (as := [vR 1030, vI (7)]) hC3 hRm (by omega) (by omega) dW_text_193 momW_cell mlW_28 (l_cell (G := (g3, q)) W3.ka (by omega)) rfl rfl (by decide) (Nat.le_of_ble_eq_true rfl) (Nat.le_of_ble_eq_true rfl) ?_
  refine R_bipush hC3 dW_text_196 (by decide +kernel) ⟨by decide, by decide⟩ ?_
  refine R_iload_2 hC3 dW_text_198 ?_
  refine R_imul hC3 dW_text_199 ⟨by omega, by omega⟩ ?_
  refine R_ishr hC3 dW_text_200 (by omega) (by omega) ?_
  refine R_iconst hC3 dW_text_201 ⟨by decide, by decide⟩ ?_
  refine R_bipush hC3 dW_text_202 (by decide +kernel) ⟨by decide, by decide⟩ ?_
  refine T_call (as := [vI (scK g0 7 / 2 ^ (8 * x).toNat), vI 1, vI 9]) hC3 hRm (by omega) (by omega) dW_text_204 momW_from mlW_34 (l_from (G := (g3, q)) W3.ka (inI_shr (scK_in _ _) _) (by decide) (by decide) (by decide)) rfl rfl (by decide) (Nat.le_of_ble_eq_true rfl) (Nat.le_of_ble_eq_true rfl) ?_
  refine T_appI hC3 hRm W3 (by omega) (by omega) (by omega) (by omega) (by omega) (by omega) (by omega) B3 (by have := (frI_b (v := scK g0 7 / 2 ^ (8 * x).toNat) (a := 1) (b := 9) (by decide)).1; omega) (by have := (frI_b (v := scK g0 7 / 2 ^ (8 * x).toNat) (a := 1) (b := 9) (by decide)).2; omega) (by simp only [List.length_append, List.length_nil, sl_5, sl_6, sl_7, sl_8, sl_9, sl_10, sl_11, sl_12]; omega) dW_text_207 (hls_K (by decide) (hls_V (hT.ok.up (by omega)) (hls_I (hls_N hls_0)))) hst_0 (Nat.le_of_ble_eq_true rfl) (fun g4 S4 n4 M4 r4 m4 hC4 ga4 W4 hn4 hS4 hr4 B4 hM4 => ?_)
  refine R_ldcS hC4 dW_text_210 (List.mem_of_getElem? (i := 7) rfl) ?_
  refine T_app hC4 hRm W4 (by omega) (by omega) (by omega) (by omega) (by omega) (by omega) (by omega) B4 (.inl ⟨7, by decide, rfl, rfl⟩) (by have := dcL_2 (frI (scK g0 7 / 2 ^ (8 * x).toNat) 1 9); simp only [List.length_append, List.length_nil, sl_5, sl_6, sl_7, sl_8, sl_9, sl_10, sl_11, sl_12]; omega) dW_text_212 (hls_K (by decide) (hls_V (hT.ok.up (by omega)) (hls_I (hls_N hls_0)))) hst_0 (Nat.le_of_ble_eq_true rfl) (fun g5 S5 n5 M5 r5 m5 hC5 ga5 W5 hn5 hS5 hr5 B5 hM5 => ?_)
  refine R_aload_0 hC5 dW_text_215 ?_
  refine R_bipush hC5 dW_text_216 (by decide +kernel) ⟨by decide, by decide⟩ ?_
  refine T_call (as := [vR 1030, vI (8)]) hC5 hRm (by omega) (by omega) dW_text_218 momW_cell mlW_28 (l_cell (G := (g5, q)) W5.ka (by omega)) rfl rfl (by decide) (Nat.le_of_ble_eq_true rfl) (Nat.le_of_ble_eq_true rfl) ?_
  refine R_bipush hC5 dW_text_221 (by decide +kernel) ⟨by decide, by decide⟩ ?_
  refine R_iload_2 hC5 dW_text_223 ?_
  refine R_imul hC5 dW_text_224 ⟨by omega, by omega⟩ ?_
  refine R_ishr hC5 dW_text_225 (by omega) (by omega) ?_
  refine R_iconst hC5 dW_text_226 ⟨by decide, by decide⟩ ?_
  refine R_iconst hC5 dW_text_227 ⟨by decide, by decide⟩ ?_
  refine T_call (as := [vI (scK g0 8 / 2 ^ (7 * x).toNat), vI 0, vI 5]) hC5 hRm (by omega) (by omega) dW_text_228 momW_from mlW_34 (l_from (G := (g5, q)) W5.ka (inI_shr (scK_in _ _) _) (by decide) (by decide) (by decide)) rfl rfl (by decide) (Nat.le_of_ble_eq_true rfl) (Nat.le_of_ble_eq_true rfl) ?_
  refine T_appI hC5 hRm W5 (by omega) (by omega) (by omega) (by omega) (by omega) (by omega) (by omega) B5 (frI_b (by decide)).1 (by have := (frI_b (v := scK g0 8 / 2 ^ (7 * x).toNat) (a := 0) (b := 5) (by decide)).2; omega) (by have := dcL_2 (frI (scK g0 7 / 2 ^ (8 * x).toNat) 1 9); simp only [List.length_append, List.length_nil, sl_5, sl_6, sl_7, sl_8, sl_9, sl_10, sl_11, sl_12]; omega) dW_text_231 (hls_K (by decide) (hls_V (hT.ok.up (by omega)) (hls_I (hls_N hls_0)))) hst_0 (Nat.le_of_ble_eq_true rfl) (fun g6 S6 n6 M6 r6 m6 hC6 ga6 W6 hn6 hS6 hr6 B6 hM6 => ?_)
  refine R_ldcS hC6 dW_text_234 (List.mem_of_getElem? (i := 8) rfl) ?_
  refine T_app hC6 hRm W6 (by omega) (by omega) (by omega) (by omega) (by omega) (by omega) (by omega) B6 (.inl ⟨8, by decide, rfl, rfl⟩) (by have := dcL_2 (frI (scK g0 7 / 2 ^ (8 * x).toNat) 1 9); have := dcL_2 (frI (scK g0 8 / 2 ^ (7 * x).toNat) 0 5); simp only [List.length_append, List.length_nil, sl_5, sl_6, sl_7, sl_8, sl_9, sl_10, sl_11, sl_12]; omega) dW_text_236 (hls_K (by decide) (hls_V (hT.ok.up (by omega)) (hls_I (hls_N hls_0)))) hst_0 (Nat.le_of_ble_eq_true rfl) (fun g7 S7 n7 M7 r7 m7 hC7 ga7 W7 hn7 hS7 hr7 B7 hM7 => ?_)
  refine T_str hC7 hRm W7 (by omega) (by omega) (by omega) (by omega) (by omega) B7 dW_text_239 (hls_K (by decide) (hls_V (hT.ok.up (by omega)) (hls_I (hls_N hls_0)))) hst_0 (Nat.le_of_ble_eq_true rfl) (fun g8 S8 M8 hC8 ga8 W8 hS8 G8 hM8 => ?_)
  refine R_astore_1 hC8 dW_text_242 rfl ?_
  exact kk g8 S8 _ _ _ M8 _ hC8 W8 (by omega) (by omega) (by omega) ⟨n7 + 1, ⟨by omega, by omega⟩, ⟨by omega, by omega⟩, by
    have z := G8
    simp only [List.nil_append] at z
    skip
    exact z⟩
set_option maxRecDepth 100000 in
set_option maxHeartbeats 4000000 in
theorem tx_H {t : Nat} {τ : List Int} {x y : Int} (hC : CxOK (g, q) mW_text C) (hRm : C.2.2.2.1 = rmN 8 kc kw) (W : WG g0 S0 n0 M0 g S n M) (hn : n + 14 < 1000) (hk : k + 12 ≤ kc) (hw : w + 12642 ≤ kw) (x0 : 0 ≤ x) (x1 : x < 3) (y0 : 0 ≤ y) (y1 : y < 3) (hT : TS S M n0 n t τ) (h9 : τ.length + 15 ≤ 600)
    (kk : ∀ (g1 : Nat → Nat) (S1 : Sh) (n1 k1 w1 : Nat) (M1 : Mem) (t1 : Nat), CxOK (g1, q) mW_text C → WG g0 S0 n0 M0 g1 S1 n1 M1 → n1 ≤ n + 12 → k1 ≤ k + 12 → w1 ≤ w + 12642 → TS S1 M1 n0 n1 t1 (τ ++ sL 11 ++ dcL x ++ sL 7 ++ dcL y ++ sL 7 ++ dcL (holdsN g0 x y) ++ sL 8) → RZ (g1, q) S1 C Z k1 w1 n1 330 [some (vR 1030), some (vR t1), some (vI x), some (vI y)] [] M1) : RZ (g, q) S C Z k w n 278 [some (vR 1030), some (vR t), some (vI x), some (vI y)] [] M := by
  have hWn := W.2.1
  have hhb := holdsN_b g0 x y
  refine T_new hC hRm W (by omega) (by omega) (by omega) dW_text_278 dW_text_281 dW_text_282 (hls_K (by decide) (hls_V (hT.ok.up (by omega)) (hls_I (hls_I hls_0)))) hst_0 (Nat.le_of_ble_eq_true rfl) (fun g1 S1 M1 hC1 ga1 W1 B1 hS1 hM1 => ?_)
  refine R_aload_1 hC1 dW_text_285 ?_
  refine T_app hC1 hRm W1 (by omega) (by omega) (by omega) (by omega) (by omega) (by omega) (by omega) B1 (hT.src hS1 hM1) (by simp only [List.length_append, List.length_nil, sl_5, sl_6, sl_7, sl_8, sl_9, sl_10, sl_11, sl_12]; omega) dW_text_286 (hls_K (by decide) (hls_V (hT.ok.up (by omega)) (hls_I (hls_I hls_0)))) hst_0 (Nat.le_of_ble_eq_true rfl) (fun g2 S2 n2 M2 r2 m2 hC2 ga2 W2 hn2 hS2 hr2 B2 hM2 => ?_)
  refine R_ldcS hC2 dW_text_289 (List.mem_of_getElem? (i := 11) rfl) ?_
  refine T_app hC2 hRm W2 (by omega) (by omega) (by omega) (by omega) (by omega) (by omega) (by omega) B2 (.inl ⟨11, by decide, rfl, rfl⟩) (by simp only [List.length_append, List.length_nil, sl_5, sl_6, sl_7, sl_8, sl_9, sl_10, sl_11, sl_12]; omega) dW_text_291 (hls_K (by decide) (hls_V (hT.ok.up (by omega)) (hls_I (hls_I hls_0)))) hst_0 (Nat.le_of_ble_eq_true rfl) (fun g3 S3 n3 M3 r3 m3 hC3 ga3 W3 hn3 hS3 hr3 B3 hM3 => ?_)
  refine R_iload_2 hC3 dW_text_294 ?_
  refine T_appI hC3 hRm W3 (by omega) (by omega) (by omega) (by omega) (by omega) (by omega) (by omega) B3 x0 (by omega) (by simp only [List.length_append, List.length_nil, sl_5, sl_6, sl_7, sl_8, sl_9, sl_10, sl_11, sl_12]; omega) dW_text_295 (hls_K (by decide) (hls_V (hT.ok.up (by omega)) (hls_I (hls_I hls_0)))) hst_0 (Nat.le_of_ble_eq_true rfl) (fun g4 S4 n4 M4 r4 m4 hC4 ga4 W4 hn4 hS4 hr4 B4 hM4 => ?_)
  refine R_ldcS hC4 dW_text_298 (List.mem_of_getElem? (i := 7) rfl) ?_
  refine T_app hC4 hRm W4 (by omega) (by omega) (by omega) (by omega) (by omega) (by omega) (by omega) B4 (.inl ⟨7, by decide, rfl, rfl⟩) (by have := dcL_2 (x); simp only [List.length_append, List.length_nil, sl_5, sl_6, sl_7, sl_8, sl_9, sl_10, sl_11, sl_12]; omega) dW_text_300 (hls_K (by decide) (hls_V (hT.ok.up (by omega)) (hls_I (hls_I hls_0)))) hst_0 (Nat.le_of_ble_eq_true rfl) (fun g5 S5 n5 M5 r5 m5 hC5 ga5 W5 hn5 hS5 hr5 B5 hM5 => ?_)
  refine R_iload_3 hC5 dW_text_303 ?_
  refine T_appI hC5 hRm W5 (by omega) (by omega) (by omega) (by omega) (by omega) (by omega) (by omega) B5 y0 (by omega) (by have := dcL_2 (x); simp only [List.length_append, List.length_nil, sl_5, sl_6, sl_7, sl_8, sl_9, sl_10, sl_11, sl_12]; omega) dW_text_304 (hls_K (by decide) (hls_V (hT.ok.up (by omega)) (hls_I (hls_I hls_0)))) hst_0 (Nat.le_of_ble_eq_true rfl) (fun g6 S6 n6 M6 r6 m6 hC6 ga6 W6 hn6 hS6 hr6 B6 hM6 => ?_)
  refine R_ldcS hC6 dW_text_307 (List.mem_of_getElem? (i := 7) rfl) ?_
  refine T_app hC6 hRm W6 (by omega) (by omega) (by omega) (by omega) (by omega) (by omega) (by omega) B6 (.inl ⟨7, by decide, rfl, rfl⟩) (by have := dcL_2 (x); have := dcL_2 (y); simp only [List.length_append, List.length_nil, sl_5, sl_6, sl_7, sl_8, sl_9, sl_10, sl_11, sl_12]; omega) dW_text_309 (hls_K (by decide) (hls_V (hT.ok.up (by omega)) (hls_I (hls_I hls_0)))) hst_0 (Nat.le_of_ble_eq_true rfl) (fun g7 S7 n7 M7 r7 m7 hC7 ga7 W7 hn7 hS7 hr7 B7 hM7 => ?_)
  refine R_aload_0 hC7 dW_text_312 ?_
  refine R_iload_2 hC7 dW_text_313 ?_
  refine R_iload_3 hC7 dW_text_314 ?_
  refine T_call (as := [vR 1030, vI x, vI y]) hC7 hRm (by omega) (by omega) dW_text_315 momW_holds mlW_71 (lx_holds (G := (g7, q)) W7.ka x0 x1 y0 y1) rfl rfl (by decide) (Nat.le_of_ble_eq_true rfl) (Nat.le_of_ble_eq_true rfl) ?_
  refine T_appI hC7 hRm W7 (by omega) (by omega) (by omega) (by omega) (by omega) (by omega) (by omega) B7 hhb.1 (by omega) (by have := dcL_2 (x); have := dcL_2 (y); simp only [List.length_append, List.length_nil, sl_5, sl_6, sl_7, sl_8, sl_9, sl_10, sl_11, sl_12]; omega) dW_text_318 (hls_K (by decide) (hls_V (hT.ok.up (by omega)) (hls_I (hls_I hls_0)))) hst_0 (Nat.le_of_ble_eq_true rfl) (fun g8 S8 n8 M8 r8 m8 hC8 ga8 W8 hn8 hS8 hr8 B8 hM8 => ?_)
  refine R_ldcS hC8 dW_text_321 (List.mem_of_getElem? (i := 8) rfl) ?_
  refine T_app hC8 hRm W8 (by omega) (by omega) (by omega) (by omega) (by omega) (by omega) (by omega) B8 (.inl ⟨8, by decide, rfl, rfl⟩) (by have := dcL_2 (x); have := dcL_2 (y); have := dcL_2 (holdsN g0 x y); simp only [List.length_append, List.length_nil, sl_5, sl_6, sl_7, sl_8, sl_9, sl_10, sl_11, sl_12]; omega) dW_text_323 (hls_K (by decide) (hls_V (hT.ok.up (by omega)) (hls_I (hls_I hls_0)))) hst_0 (Nat.le_of_ble_eq_true rfl) (fun g9 S9 n9 M9 r9 m9 hC9 ga9 W9 hn9 hS9 hr9 B9 hM9 => ?_)
  refine T_str hC9 hRm W9 (by omega) (by omega) (by omega) (by omega) (by omega) B9 dW_text_326 (hls_K (by decide) (hls_V (hT.ok.up (by omega)) (hls_I (hls_I hls_0)))) hst_0 (Nat.le_of_ble_eq_true rfl) (fun g10 S10 M10 hC10 ga10 W10 hS10 G10 hM10 => ?_)
  refine R_astore_1 hC10 dW_text_329 rfl ?_
  exact kk g10 S10 _ _ _ M10 _ hC10 W10 (by omega) (by omega) (by omega) ⟨n9 + 1, ⟨by omega, by omega⟩, ⟨by omega, by omega⟩, by
    have z := G10
    simp only [List.nil_append] at z
    skip
    exact z⟩
set_option maxRecDepth 100000 in
set_option maxHeartbeats 4000000 in
theorem tx_P {t : Nat} {τ : List Int} {x y : Int} (hC : CxOK (g, q) mW_text C) (hRm : C.2.2.2.1 = rmN 8 kc kw) (W : WG g0 S0 n0 M0 g S n M) (hn : n + 16 < 1000) (hk : k + 14 ≤ kc) (hw : w + 15446 ≤ kw) (x0 : 0 ≤ x) (x1 : x < 3) (y0 : 0 ≤ y) (y1 : y < 3) (hT : TS S M n0 n t τ) (h9 : τ.length + 20 ≤ 600)
    (kk : ∀ (g1 : Nat → Nat) (S1 : Sh) (n1 k1 w1 : Nat) (M1 : Mem) (t1 : Nat), CxOK (g1, q) mW_text C → WG g0 S0 n0 M0 g1 S1 n1 M1 → n1 ≤ n + 14 → k1 ≤ k + 14 → w1 ≤ w + 15446 → TS S1 M1 n0 n1 t1 (τ ++ sL 12 ++ dcL x ++ sL 7 ++ dcL y ++ sL 7 ++ dcL (muchN g0 x y) ++ sL 7 ++ dcL (frI (scK g0 9 / 2 ^ (3 * y + x).toNat) 0 20) ++ sL 8) → RZ (g1, q) S1 C Z k1 w1 n1 417 [some (vR 1030), some (vR t1), some (vI x), some (vI y)] [] M1) : RZ (g, q) S C Z k w n 339 [some (vR 1030), some (vR t), some (vI x), some (vI y)] [] M := by
  have hWn := W.2.1
  have hhb := muchN_b g0 x y
  refine T_new hC hRm W (by omega) (by omega) (by omega) dW_text_339 dW_text_342 dW_text_343 (hls_K (by decide) (hls_V (hT.ok.up (by omega)) (hls_I (hls_I hls_0)))) hst_0 (Nat.le_of_ble_eq_true rfl) (fun g1 S1 M1 hC1 ga1 W1 B1 hS1 hM1 => ?_)
  refine R_aload_1 hC1 dW_text_346 ?_
  refine T_app hC1 hRm W1 (by omega) (by omega) (by omega) (by omega) (by omega) (by omega) (by omega) B1 (hT.src hS1 hM1) (by simp only [List.length_append, List.length_nil, sl_5, sl_6, sl_7, sl_8, sl_9, sl_10, sl_11, sl_12]; omega) dW_text_347 (hls_K (by decide) (hls_V (hT.ok.up (by omega)) (hls_I (hls_I hls_0)))) hst_0 (Nat.le_of_ble_eq_true rfl) (fun g2 S2 n2 M2 r2 m2 hC2 ga2 W2 hn2 hS2 hr2 B2 hM2 => ?_)
  refine R_ldcS hC2 dW_text_350 (List.mem_of_getElem? (i := 12) rfl) ?_
  refine T_app hC2 hRm W2 (by omega) (by omega) (by omega) (by omega) (by omega) (by omega) (by omega) B2 (.inl ⟨12, by decide, rfl, rfl⟩) (by simp only [List.length_append, List.length_nil, sl_5, sl_6, sl_7, sl_8, sl_9, sl_10, sl_11, sl_12]; omega) dW_text_352 (hls_K (by decide) (hls_V (hT.ok.up (by omega)) (hls_I (hls_I hls_0)))) hst_0 (Nat.le_of_ble_eq_true rfl) (fun g3 S3 n3 M3 r3 m3 hC3 ga3 W3 hn3 hS3 hr3 B3 hM3 => ?_)
  refine R_iload_2 hC3 dW_text_355 ?_
  refine T_appI hC3 hRm W3 (by omega) (by omega) (by omega) (by omega) (by omega) (by omega) (by omega) B3 x0 (by omega) (by simp only [List.length_append, List.length_nil, sl_5, sl_6, sl_7, sl_8, sl_9, sl_10, sl_11, sl_12]; omega) dW_text_356 (hls_K (by decide) (hls_V (hT.ok.up (by omega)) (hls_I (hls_I hls_0)))) hst_0 (Nat.le_of_ble_eq_true rfl) (fun g4 S4 n4 M4 r4 m4 hC4 ga4 W4 hn4 hS4 hr4 B4 hM4 => ?_)
  refine R_ldcS hC4 dW_text_359 (List.mem_of_getElem? (i := 7) rfl) ?_
  refine T_app hC4 hRm W4 (by omega) (by omega) (by omega) (by omega) (by omega) (by omega) (by omega) B4 (.inl ⟨7, by decide, rfl, rfl⟩) (by have := dcL_2 (x); simp only [List.length_append, List.length_nil, sl_5, sl_6, sl_7, sl_8, sl_9, sl_10, sl_11, sl_12]; omega) dW_text_361 (hls_K (by decide) (hls_V (hT.ok.up (by omega)) (hls_I (hls_I hls_0)))) hst_0 (Nat.le_of_ble_eq_true rfl) (fun g5 S5 n5 M5 r5 m5 hC5 ga5 W5 hn5 hS5 hr5 B5 hM5 => ?_)
  refine R_iload_3 hC5 dW_text_364 ?_
  refine T_appI hC5 hRm W5 (by omega) (by omega) (by omega) (by omega) (by omega) (by omega) (by omega) B5 y0 (by omega) (by have := dcL_2 (x); simp only [List.length_append, List.length_nil, sl_5, sl_6, sl_7, sl_8, sl_9, sl_10, sl_11, sl_12]; omega) dW_text_365 (hls_K (by decide) (hls_V (hT.ok.up (by omega)) (hls_I (hls_I hls_0)))) hst_0 (Nat.le_of_ble_eq_true rfl) (fun g6 S6 n6 M6 r6 m6 hC6 ga6 W6 hn6 hS6 hr6 B6 hM6 => ?_)
  refine R_ldcS hC6 dW_text_368 (List.mem_of_getElem? (i := 7) rfl) ?_
  refine T_app hC6 hRm W6 (by omega) (by omega) (by omega) (by omega) (by omega) (by omega) (by omega) B6 (.inl ⟨7, by decide, rfl, rfl⟩) (by have := dcL_2 (x); have := dcL_2 (y); simp only [List.length_append, List.length_nil, sl_5, sl_6, sl_7, sl_8, sl_9, sl_10, sl_11, sl_12]; omega) dW_text_370 (hls_K (by decide) (hls_V (hT.ok.up (by omega)) (hls_I (hls_I hls_0)))) hst_0 (Nat.le_of_ble_eq_true rfl) (fun g7 S7 n7 M7 r7 m7 hC7 ga7 W7 hn7 hS7 hr7 B7 hM7 => ?_)
  refine R_aload_0 hC7 dW_text_373 ?_
  refine R_iload_2 hC7 dW_text_374 ?_
  refine R_iload_3 hC7 dW_text_375 ?_
  refine T_call (as := [vR 1030, vI x, vI y]) hC7 hRm (by omega) (by omega) dW_text_376 momW_much mlW_77 (l_much (G := (g7, q)) W7.ka x0 x1 y0 y1) rfl rfl (by decide) (Nat.le_of_ble_eq_true rfl) (Nat.le_of_ble_eq_true rfl) ?_
  refine T_appI hC7 hRm W7 (by omega) (by omega) (by omega) (by omega) (by omega) (by omega) (by omega) B7 hhb.1 (by omega) (by have := dcL_2 (x); have := dcL_2 (y); simp only [List.length_append, List.length_nil, sl_5, sl_6, sl_7, sl_8, sl_9, sl_10, sl_11, sl_12]; omega) dW_text_379 (hls_K (by decide) (hls_V (hT.ok.up (by omega)) (hls_I (hls_I hls_0)))) hst_0 (Nat.le_of_ble_eq_true rfl) (fun g8 S8 n8 M8 r8 m8 hC8 ga8 W8 hn8 hS8 hr8 B8 hM8 => ?_)
  refine R_ldcS hC8 dW_text_382 (List.mem_of_getElem? (i := 7) rfl) ?_
  refine T_app hC8 hRm W8 (by omega) (by omega) (by omega) (by omega) (by omega) (by omega) (by omega) B8 (.inl ⟨7, by decide, rfl, rfl⟩) (by have := dcL_2 (x); have := dcL_2 (y); have := dcL_2 (muchN g0 x y); simp only [List.length_append, List.length_nil, sl_5, sl_6, sl_7, sl_8, sl_9, sl_10, sl_11, sl_12]; omega) dW_text_384 (hls_K (by decide) (hls_V (hT.ok.up (by omega)) (hls_I (hls_I hls_0)))) hst_0 (Nat.le_of_ble_eq_true rfl) (fun g9 S9 n9 M9 r9 m9 hC9 ga9 W9 hn9 hS9 hr9 B9 hM9 => ?_)
  refine R_aload_0 hC9 dW_text_387 ?_
  refine R_bipush hC9 dW_text_388 (by decide +kernel) ⟨by decide, by decide⟩ ?_
  refine T_call (as := [vR 1030, vI (9)]) hC9 hRm (by omega) (by omega) dW_text_390 momW_cell mlW_28 (l_cell (G := (g9, q)) W9.ka (by omega)) rfl rfl (by decide) (Nat.le_of_ble_eq_true rfl) (Nat.le_of_ble_eq_true rfl) ?_
  refine R_iconst hC9 dW_text_393 ⟨by decide, by decide⟩ ?_
  refine R_iload_3 hC9 dW_text_394 ?_
  refine R_imul hC9 dW_text_395 ⟨by omega, by omega⟩ ?_
  refine R_iload_2 hC9 dW_text_396 ?_
  refine R_iadd hC9 dW_text_397 ⟨by omega, by omega⟩ ?_
  refine R_ishr hC9 dW_text_398 (by omega) (by omega) ?_
  refine R_iconst hC9 dW_text_399 ⟨by decide, by decide⟩ ?_
  refine R_bipush hC9 dW_text_400 (by decide +kernel) ⟨by decide, by decide⟩ ?_
  refine T_call (as := [vI (scK g0 9 / 2 ^ (3 * y + x).toNat), vI 0, vI 20]) hC9 hRm (by omega) (by omega) dW_text_402 momW_from mlW_34 (l_from (G := (g9, q)) W9.ka (inI_shr (scK_in _ _) _) (by decide) (by decide) (by decide)) rfl rfl (by decide) (Nat.le_of_ble_eq_true rfl) (Nat.le_of_ble_eq_true rfl) ?_
  refine T_appI hC9 hRm W9 (by omega) (by omega) (by omega) (by omega) (by omega) (by omega) (by omega) B9 (frI_b (by decide)).1 (by have := (frI_b (v := scK g0 9 / 2 ^ (3 * y + x).toNat) (a := 0) (b := 20) (by decide)).2; omega) (by have := dcL_2 (x); have := dcL_2 (y); have := dcL_2 (muchN g0 x y); simp only [List.length_append, List.length_nil, sl_5, sl_6, sl_7, sl_8, sl_9, sl_10, sl_11, sl_12]; omega) dW_text_405 (hls_K (by decide) (hls_V (hT.ok.up (by omega)) (hls_I (hls_I hls_0)))) hst_0 (Nat.le_of_ble_eq_true rfl) (fun g10 S10 n10 M10 r10 m10 hC10 ga10 W10 hn10 hS10 hr10 B10 hM10 => ?_)
  refine R_ldcS hC10 dW_text_408 (List.mem_of_getElem? (i := 8) rfl) ?_
  refine T_app hC10 hRm W10 (by omega) (by omega) (by omega) (by omega) (by omega) (by omega) (by omega) B10 (.inl ⟨8, by decide, rfl, rfl⟩) (by have := dcL_2 (x); have := dcL_2 (y); have := dcL_2 (muchN g0 x y); have := dcL_2 (frI (scK g0 9 / 2 ^ (3 * y + x).toNat) 0 20); simp only [List.length_append, List.length_nil, sl_5, sl_6, sl_7, sl_8, sl_9, sl_10, sl_11, sl_12]; omega) dW_text_410 (hls_K (by decide) (hls_V (hT.ok.up (by omega)) (hls_I (hls_I hls_0)))) hst_0 (Nat.le_of_ble_eq_true rfl) (fun g11 S11 n11 M11 r11 m11 hC11 ga11 W11 hn11 hS11 hr11 B11 hM11 => ?_)
  refine T_str hC11 hRm W11 (by omega) (by omega) (by omega) (by omega) (by omega) B11 dW_text_413 (hls_K (by decide) (hls_V (hT.ok.up (by omega)) (hls_I (hls_I hls_0)))) hst_0 (Nat.le_of_ble_eq_true rfl) (fun g12 S12 M12 hC12 ga12 W12 hS12 G12 hM12 => ?_)
  refine R_astore_1 hC12 dW_text_416 rfl ?_
  exact kk g12 S12 _ _ _ M12 _ hC12 W12 (by omega) (by omega) (by omega) ⟨n11 + 1, ⟨by omega, by omega⟩, ⟨by omega, by omega⟩, by
    have z := G12
    simp only [List.nil_append] at z
    skip
    exact z⟩
end TXS
