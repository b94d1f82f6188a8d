theorem dW_text_5 : decode cL_text 5 = .ok (.iload_n 2, 1) := by decide +kernel
theorem dW_text_6 : decode cL_text 6 = .ok (.aload_n 0, 1) := by decide +kernel
theorem dW_text_7 : decode cL_text 7 = .ok (.invokestatic 40, 3) := by decide +kernel
theorem momW_libraries : MO mW_libraries 1 true := ⟨Ts_in (in_t5 _ (List.mem_of_getElem? (i := 37) rfl)) rfl, Ts_in (in_t1 _ (List.mem_of_getElem? (i := 0) rfl)) rfl, ⟨by decide +kernel, by decide +kernel, by decide +kernel⟩, Ts_in (in_t5 _ (List.mem_of_getElem? (i := 36) rfl)) rfl⟩
theorem mlW_40 : Cond.methodLink RL 40 mW_libraries.1 ∈ Ts := Ts_in (in_t5 _ (List.mem_of_getElem? (i := 35) rfl)) rfl
theorem dW_text_10 : decode cL_text 10 = .ok (.if_icmp .ge 96, 3) := by decide +kernel
theorem dW_text_13 : decode cL_text 13 = .ok (.aload_n 0, 1) := by decide +kernel
theorem dW_text_14 : decode cL_text 14 = .ok (.iconst 4, 1) := by decide +kernel
theorem dW_text_15 : decode cL_text 15 = .ok (.iload_n 2, 1) := by decide +kernel
theorem dW_text_16 : decode cL_text 16 = .ok (.iadd, 1) := by decide +kernel
theorem dW_text_17 : decode cL_text 17 = .ok (.invokestatic 28, 3) := by decide +kernel
theorem dW_text_20 : decode cL_text 20 = .ok (.istore_n 3, 1) := by decide +kernel
theorem dW_text_100 : decode cL_text 100 = .ok (.iinc 2 1, 3) := by decide +kernel
theorem dW_text_103 : decode cL_text 103 = .ok (.goto (-98), 3) := by decide +kernel
theorem dW_text_166 : decode cL_text 166 = .ok (.iload_n 2, 1) := by decide +kernel
theorem dW_text_167 : decode cL_text 167 = .ok (.aload_n 0, 1) := by decide +kernel
theorem dW_text_168 : decode cL_text 168 = .ok (.invokestatic 66, 3) := by decide +kernel
theorem momW_works : MO mW_works 1 true := ⟨Ts_in (in_t6 _ (List.mem_of_getElem? (i := 15) rfl)) rfl, Ts_in (in_t1 _ (List.mem_of_getElem? (i := 0) rfl)) rfl, ⟨by decide +kernel, by decide +kernel, by decide +kernel⟩, Ts_in (in_t6 _ (List.mem_of_getElem? (i := 14) rfl)) rfl⟩
theorem mlW_66 : Cond.methodLink RL 66 mW_works.1 ∈ Ts := Ts_in (in_t6 _ (List.mem_of_getElem? (i := 13) rfl)) rfl
theorem dW_text_171 : decode cL_text 171 = .ok (.if_icmp .ge 78, 3) := by decide +kernel
theorem dW_text_243 : decode cL_text 243 = .ok (.iinc 2 1, 3) := by decide +kernel
theorem dW_text_246 : decode cL_text 246 = .ok (.goto (-80), 3) := by decide +kernel
theorem dW_text_261 : decode cL_text 261 = .ok (.iload_n 3, 1) := by decide +kernel
theorem dW_text_262 : decode cL_text 262 = .ok (.aload_n 0, 1) := by decide +kernel
theorem dW_text_263 : decode cL_text 263 = .ok (.invokestatic 66, 3) := by decide +kernel
theorem dW_text_266 : decode cL_text 266 = .ok (.if_icmp .ge 157, 3) := by decide +kernel
theorem dW_text_417 : decode cL_text 417 = .ok (.iinc 3 1, 3) := by decide +kernel
theorem dW_text_420 : decode cL_text 420 = .ok (.goto (-159), 3) := by decide +kernel
theorem dW_text_330 : decode cL_text 330 = .ok (.aload_n 0, 1) := by decide +kernel
theorem dW_text_331 : decode cL_text 331 = .ok (.iload_n 2, 1) := by decide +kernel
theorem dW_text_332 : decode cL_text 332 = .ok (.iload_n 3, 1) := by decide +kernel
theorem dW_text_333 : decode cL_text 333 = .ok (.invokestatic 77, 3) := by decide +kernel
theorem dW_text_336 : decode cL_text 336 = .ok (.ifCond .le 81, 3) := by decide +kernel
theorem dW_text_269 : decode cL_text 269 = .ok (.aload_n 0, 1) := by decide +kernel
theorem dW_text_270 : decode cL_text 270 = .ok (.iload_n 2, 1) := by decide +kernel
theorem dW_text_271 : decode cL_text 271 = .ok (.iload_n 3, 1) := by decide +kernel
theorem dW_text_272 : decode cL_text 272 = .ok (.invokestatic 71, 3) := by decide +kernel
theorem dW_text_275 : decode cL_text 275 = .ok (.ifCond .le 55, 3) := by decide +kernel
theorem dW_text_251 : decode cL_text 251 = .ok (.iload_n 2, 1) := by decide +kernel
theorem dW_text_252 : decode cL_text 252 = .ok (.aload_n 0, 1) := by decide +kernel
theorem dW_text_253 : decode cL_text 253 = .ok (.invokestatic 40, 3) := by decide +kernel
theorem dW_text_256 : decode cL_text 256 = .ok (.if_icmp .ge 173, 3) := by decide +kernel
theorem dW_text_259 : decode cL_text 259 = .ok (.iconst 0, 1) := by decide +kernel
theorem dW_text_260 : decode cL_text 260 = .ok (.istore_n 3, 1) := by decide +kernel
theorem dW_text_423 : decode cL_text 423 = .ok (.iinc 2 1, 3) := by decide +kernel
theorem dW_text_426 : decode cL_text 426 = .ok (.goto (-175), 3) := by decide +kernel
theorem dW_text_0 : decode cL_text 0 = .ok (.ldc 38, 2) := by decide +kernel
theorem dW_text_2 : decode cL_text 2 = .ok (.astore_n 1, 1) := by decide +kernel
theorem dW_text_3 : decode cL_text 3 = .ok (.iconst 0, 1) := by decide +kernel
theorem dW_text_4 : decode cL_text 4 = .ok (.istore_n 2, 1) := by decide +kernel
theorem dW_text_164 : decode cL_text 164 = .ok (.iconst 0, 1) := by decide +kernel
theorem dW_text_165 : decode cL_text 165 = .ok (.istore_n 2, 1) := by decide +kernel
theorem dW_text_249 : decode cL_text 249 = .ok (.iconst 0, 1) := by decide +kernel
theorem dW_text_250 : decode cL_text 250 = .ok (.istore_n 2, 1) := by decide +kernel
theorem dW_text_429 : decode cL_text 429 = .ok (.aload_n 1, 1) := by decide +kernel
theorem dW_text_430 : decode cL_text 430 = .ok (.areturn, 1) := by decide +kernel
theorem dW_text_106 : decode cL_text 106 = .ok (.aload_n 0, 1) := by decide +kernel
theorem dW_text_107 : decode cL_text 107 = .ok (.bipush 9, 2) := by decide +kernel
theorem dW_text_109 : decode cL_text 109 = .ok (.invokestatic 28, 3) := by decide +kernel
theorem dW_text_112 : decode cL_text 112 = .ok (.bipush 12, 2) := by decide +kernel
theorem dW_text_114 : decode cL_text 114 = .ok (.ishr, 1) := by decide +kernel
theorem dW_text_115 : decode cL_text 115 = .ok (.iconst 1, 1) := by decide +kernel
theorem dW_text_116 : decode cL_text 116 = .ok (.iand, 1) := by decide +kernel
theorem dW_text_117 : decode cL_text 117 = .ok (.iconst 1, 1) := by decide +kernel
theorem dW_text_118 : decode cL_text 118 = .ok (.if_icmp .ne 46, 3) := by decide +kernel
/-! the law's text: its loops -/
def txA (g0 : Nat → Nat) : Nat → List Int
  | 0 => []
  | x + 1 => ytA g0 (x : Int) (txA g0 x)
def txC (g0 : Nat → Nat) (τ : List Int) : Nat → List Int
  | 0 => τ
  | x + 1 => ytC g0 (x : Int) (txC g0 τ x)
def txW (g0 : Nat → Nat) (x : Int) (τ : List Int) : Nat → List Int
  | 0 => τ
  | y + 1 => ytP g0 x (y : Int) (ytH g0 x (y : Int) (txW g0 x τ y))
def txL (g0 : Nat → Nat) (τ : List Int) : Nat → List Int
  | 0 => τ
  | x + 1 => txW g0 (x : Int) (txL g0 τ x) (worksN g0).toNat
def txt (g0 : Nat → Nat) : List Int := txL g0 (txC g0 (ytB g0 (txA g0 (libsN g0).toNat)) (worksN g0).toNat) (libsN g0).toNat
theorem toN_s {x : Int} (h : 0 ≤ x) : (x + 1).toNat = x.toNat + 1 := by omega
theorem txA_s {g0 : Nat → Nat} {x : Int} (h : 0 ≤ x) : txA g0 (x + 1).toNat = ytA g0 x (txA g0 x.toNat) := by
  rw [toN_s h, txA, Int.toNat_of_nonneg h]
theorem txC_s {g0 : Nat → Nat} {τ : List Int} {x : Int} (h : 0 ≤ x) : txC g0 τ (x + 1).toNat = ytC g0 x (txC g0 τ x.toNat) := by
  rw [toN_s h, txC, Int.toNat_of_nonneg h]
theorem txW_s {g0 : Nat → Nat} {z : Int} {τ : List Int} {x : Int} (h : 0 ≤ x) : txW g0 z τ (x + 1).toNat = ytP g0 z x (ytH g0 z x (txW g0 z τ x.toNat)) := by
  rw [toN_s h, txW, Int.toNat_of_nonneg h]
theorem txL_s {g0 : Nat → Nat} {τ : List Int} {x : Int} (h : 0 ≤ x) : txL g0 τ (x + 1).toNat = txW g0 x (txL g0 τ x.toNat) (worksN g0).toNat := by
  rw [toN_s h, txL, Int.toNat_of_nonneg h]
theorem ytA_len (g0 : Nat → Nat) (x : Int) (τ : List Int) : (ytA g0 x τ).length ≤ τ.length + 14 := by
  unfold ytA
  have h1 := dcL_2 (frI (scK g0 (4 + x)) 0 8)
  have h2 := dcL_2 (frI (scK g0 (4 + x) / 2 ^ 6) 0 6)
  split <;> simp only [List.length_append, List.length_nil, sl_6, sl_7, sl_8] <;> omega
theorem ytB_len (g0 : Nat → Nat) (τ : List Int) : (ytB g0 τ).length ≤ τ.length + 9 := by
  unfold ytB
  have h1 := dcL_2 (frI (scK g0 9 / 2 ^ 13) 0 20)
  split <;> (try simp only [List.length_append, sl_9, sl_8]) <;> omega
theorem ytC_len (g0 : Nat → Nat) (x : Int) (τ : List Int) : (ytC g0 x τ).length ≤ τ.length + 11 := by
  unfold ytC
  have h1 := dcL_2 (frI (scK g0 7 / 2 ^ (8 * x).toNat) 1 9)
  have h2 := dcL_2 (frI (scK g0 8 / 2 ^ (7 * x).toNat) 0 5)
  simp only [List.length_append, sl_10, sl_7, sl_8]
  omega
theorem ytH_len (g0 : Nat → Nat) (x y : Int) (τ : List Int) : (ytH g0 x y τ).length ≤ τ.length + 15 := by
  unfold ytH
  have h1 := dcL_2 x
  have h2 := dcL_2 y
  have h3 := dcL_2 (holdsN g0 x y)
  split <;> (try simp only [List.length_append, sl_11, sl_7, sl_8]) <;> omega
theorem ytP_len (g0 : Nat → Nat) (x y : Int) (τ : List Int) : (ytP g0 x y τ).length ≤ τ.length + 20 := by
  unfold ytP
  have h1 := dcL_2 x
  have h2 := dcL_2 y
  have h3 := dcL_2 (muchN g0 x y)
  have h4 := dcL_2 (frI (scK g0 9 / 2 ^ (3 * y + x).toNat) 0 20)
  split <;> (try simp only [List.length_append, sl_12, sl_7, sl_8]) <;> omega
theorem txA_len (g0 : Nat → Nat) : ∀ x : Nat, (txA g0 x).length ≤ 14 * x
  | 0 => Nat.le_refl 0
  | x + 1 => by
    have h1 := txA_len g0 x
    have h2 := ytA_len g0 (x : Int) (txA g0 x)
    rw [txA]
    omega
theorem txC_len (g0 : Nat → Nat) (τ : List Int) : ∀ x : Nat, (txC g0 τ x).length ≤ τ.length + 11 * x
  | 0 => Nat.le_refl _
  | x + 1 => by
    have h1 := txC_len g0 τ x
    have h2 := ytC_len g0 (x : Int) (txC g0 τ x)
    rw [txC]
    omega
theorem txW_len (g0 : Nat → Nat) (z : Int) (τ : List Int) : ∀ x : Nat, (txW g0 z τ x).length ≤ τ.length + 35 * x
  | 0 => Nat.le_refl _
  | x + 1 => by
    have h1 := txW_len g0 z τ x
    have h2 := ytH_len g0 z (x : Int) (txW g0 z τ x)
    have h3 := ytP_len g0 z (x : Int) (ytH g0 z (x : Int) (txW g0 z τ x))
    rw [txW]
    omega
theorem txL_len (g0 : Nat → Nat) (τ : List Int) : ∀ x : Nat, (txL g0 τ x).length ≤ τ.length + 105 * x
  | 0 => Nat.le_refl _
  | x + 1 => by
    have h1 := txL_len g0 τ x
    have h2 := txW_len g0 (x : Int) (txL g0 τ x) (worksN g0).toNat
    have := worksN_b g0
    rw [txL]
    omega
theorem txt_len (g0 : Nat → Nat) : (txt g0).length ≤ 399 := by
  unfold txt
  have h1 := txL_len g0 (txC g0 (ytB g0 (txA g0 (libsN g0).toNat)) (worksN g0).toNat) (libsN g0).toNat
  have h2 := txC_len g0 (ytB g0 (txA g0 (libsN g0).toNat)) (worksN g0).toNat
  have h3 := ytB_len g0 (txA g0 (libsN g0).toNat)
  have h4 := txA_len g0 (libsN g0).toNat
  have := libsN_b g0
  have := worksN_b g0
  omega
section TXL
variable {g0 : Nat → Nat} {q : Gq} {S0 : Sh} {C : Cx} {Z : State → Prop} {n0 : Nat} {M0 : Mem} {kc kw : Nat}
/-- the walk from a place on, for every world that has grown so far -/
def GO (g0 : Nat → Nat) (q : Gq) (S0 : Sh) (n0 : Nat) (M0 : Mem) (C : Cx) (Z : State → Prop) (c w : Int) (pc : Nat) (ls : Nat → List (Option V)) (τ : List Int) : Prop :=
  ∀ (g1 : Nat → Nat) (S1 : Sh) (n1 k1 w1 : Nat) (M1 : Mem) (t1 : Nat), CxOK (g1, q) mW_text C → WG g0 S0 n0 M0 g1 S1 n1 M1 → (n1 : Int) ≤ n0 + c → (k1 : Int) ≤ c → (w1 : Int) ≤ w → TS S1 M1 n0 n1 t1 τ → RZ (g1, q) S1 C Z k1 w1 n1 pc (ls t1) [] M1

theorem tx_LA (hRm : C.2.2.2.1 = rmN 8 kc kw) (hkc : 320 ≤ kc) (hkw : 330000 ≤ kw) (hn0 : n0 ≤ 600) (kE : GO g0 q S0 n0 M0 C Z 45 37998 106 (fun t => [some (vR 1030), some (vR t), none, none]) (txA g0 (libsN g0).toNat)) :
    ∀ (mq : Nat) (x : Int) (g : Nat → Nat) (S : Sh) (n k w : Nat) (M : Mem) (t : Nat), CxOK (g, q) mW_text C → WG g0 S0 n0 M0 g S n M → 0 ≤ x → x ≤ libsN g0 → (n : Int) ≤ n0 + 15 * x → (k : Int) ≤ 15 * x → (w : Int) ≤ 12666 * x → TS0 S M n0 n t x (txA g0 x.toNat) → (libsN g0 - x).toNat < mq →
      RZ (g, q) S C Z k w n 5 [some (vR 1030), some (vR t), some (vI x), none] [] M := by
  intro mq
  have hL := libsN_b g0
  induction mq with
  | zero =>
    intro x g S n k w M t hC W x0 x1 a b c hT hm
    exact absurd hm (Nat.not_lt_zero _)
  | succ mq ih =>
    intro x g S n k w M t hC W x0 x1 a b c hT hm
    have hWn := W.2.1
    refine R_iload_2 hC dW_text_5 ?_
    refine R_aload_0 hC dW_text_6 ?_
    refine T_call (as := [vR 1030]) hC hRm (by omega) (by omega) dW_text_7 momW_libraries mlW_40 (l_libs (G := (g, q)) W.ka) rfl rfl (by decide) (Nat.le_of_ble_eq_true rfl) (Nat.le_of_ble_eq_true rfl) ?_
    refine R_icmp_ge hC dW_text_10 (tgt := 106) (by decide) (fun hj => ?_) (fun hj => ?_)
    · have e : x = libsN g0 := by omega
      rw [e] at hT a b c
      have hT2 : TS S M n0 n t (txA g0 (libsN g0).toNat) := hT.elim (fun z => by omega) id
      refine R_weak (subL_c (subL_c (subL_d (subL_c subL_n)))) (kE g S n k w M t hC W (by omega) (by omega) (by omega) hT2)
    refine R_aload_0 hC dW_text_13 ?_
    refine R_iconst hC dW_text_14 ⟨by decide, by decide⟩ ?_
    refine R_iload_2 hC dW_text_15 ?_
    refine R_iadd hC dW_text_16 ⟨by omega, by omega⟩ ?_
    refine T_call (as := [vR 1030, vI _]) hC hRm (by omega) (by omega) dW_text_17 momW_cell mlW_28 (l_cell (G := (g, q)) W.ka (by omega)) rfl rfl (by decide) (Nat.le_of_ble_eq_true rfl) (Nat.le_of_ble_eq_true rfl) ?_
    refine R_istore_3 hC dW_text_20 rfl ?_
    have hln := txA_len g0 x.toNat
    refine tx_A hC hRm W (by omega) (by omega) (by omega) rfl hT (by omega) (fun g1 S1 n1 k1 w1 M1 t1 hC1 W1 a1 b1 c1 hT1 => ?_)
    refine R_iinc_2 hC1 dW_text_100 rfl ⟨by omega, by omega⟩ ?_
    refine R_goto hC1 dW_text_103 (tgt := 5) (by decide) ?_
    refine R_weak (subL_c (subL_c (subL_c (subL_d subL_n)))) ?_
    exact ih (x + 1) g1 S1 n1 k1 w1 M1 t1 hC1 W1 (by omega) (by omega) (by omega) (by omega) (by omega) (.inr (by rw [txA_s x0]; exact hT1)) (by omega)
theorem tx_LC {τ : List Int} (hRm : C.2.2.2.1 = rmN 8 kc kw) (hkc : 320 ≤ kc) (hkw : 330000 ≤ kw) (hn0 : n0 ≤ 600) (hl : τ.length ≤ 51) (kE : GO g0 q S0 n0 M0 C Z 83 74546 249 (fun t => [some (vR 1030), some (vR t), none, none]) (txC g0 τ (worksN g0).toNat)) :
    ∀ (mq : Nat) (x : Int) (g : Nat → Nat) (S : Sh) (n k w : Nat) (M : Mem) (t : Nat), CxOK (g, q) mW_text C → WG g0 S0 n0 M0 g S n M → 0 ≤ x → x ≤ worksN g0 → (n : Int) ≤ n0 + 53 + 10 * x → (k : Int) ≤ 53 + 10 * x → (w : Int) ≤ 45032 + 9838 * x → TS S M n0 n t (txC g0 τ x.toNat) → (worksN g0 - x).toNat < mq →
      RZ (g, q) S C Z k w n 166 [some (vR 1030), some (vR t), some (vI x), none] [] M := by
  intro mq
  have hL := worksN_b g0
  induction mq with
  | zero =>
    intro x g S n k w M t hC W x0 x1 a b c hT hm
    exact absurd hm (Nat.not_lt_zero _)
  | succ mq ih =>
    intro x g S n k w M t hC W x0 x1 a b c hT hm
    have hWn := W.2.1
    refine R_iload_2 hC dW_text_166 ?_
    refine R_aload_0 hC dW_text_167 ?_
    refine T_call (as := [vR 1030]) hC hRm (by omega) (by omega) dW_text_168 momW_works mlW_66 (l_works (G := (g, q)) W.ka) rfl rfl (by decide) (Nat.le_of_ble_eq_true rfl) (Nat.le_of_ble_eq_true rfl) ?_
    refine R_icmp_ge hC dW_text_171 (tgt := 249) (by decide) (fun hj => ?_) (fun hj => ?_)
    · have e : x = worksN g0 := by omega
      rw [e] at hT a b c
      refine R_weak (subL_c (subL_c (subL_d (subL_c subL_n)))) (kE g S n k w M t hC W (by omega) (by omega) (by omega) hT)
    have hln := txC_len g0 τ x.toNat
    refine tx_C hC hRm W (by omega) (by omega) (by omega) x0 (by omega) hT (by omega) (fun g1 S1 n1 k1 w1 M1 t1 hC1 W1 a1 b1 c1 hT1 => ?_)
    refine R_iinc_2 hC1 dW_text_243 rfl ⟨by omega, by omega⟩ ?_
    refine R_goto hC1 dW_text_246 (tgt := 166) (by decide) ?_
    exact ih (x + 1) g1 S1 n1 k1 w1 M1 t1 hC1 W1 (by omega) (by omega) (by omega) (by omega) (by omega) (by rw [txC_s x0]; exact hT1) (by omega)
theorem tx_LW {τ : List Int} {z : Int} (hRm : C.2.2.2.1 = rmN 8 kc kw) (hkc : 320 ≤ kc) (hkw : 330000 ≤ kw) (hn0 : n0 ≤ 600) (z0 : 0 ≤ z) (z1 : z < libsN g0) (hl : (τ.length : Int) ≤ 84 + 105 * z) (kE : GO g0 q S0 n0 M0 C Z (83 + 26 * (3 * (z + 1))) (74546 + 28088 * (3 * (z + 1))) 423 (fun t => [some (vR 1030), some (vR t), some (vI z), none]) (txW g0 z τ (worksN g0).toNat)) :
    ∀ (mq : Nat) (x : Int) (g : Nat → Nat) (S : Sh) (n k w : Nat) (M : Mem) (t : Nat), CxOK (g, q) mW_text C → WG g0 S0 n0 M0 g S n M → 0 ≤ x → x ≤ worksN g0 → (n : Int) ≤ n0 + 83 + 26 * (3 * z + x) → (k : Int) ≤ 83 + 26 * (3 * z + x) → (w : Int) ≤ 74546 + 28088 * (3 * z + x) → TS S M n0 n t (txW g0 z τ x.toNat) → (worksN g0 - x).toNat < mq →
      RZ (g, q) S C Z k w n 261 [some (vR 1030), some (vR t), some (vI z), some (vI x)] [] M := by
  intro mq
  have hL := worksN_b g0
  have hLL := libsN_b g0
  induction mq with
  | zero =>
    intro x g S n k w M t hC W x0 x1 a b c hT hm
    exact absurd hm (Nat.not_lt_zero _)
  | succ mq ih =>
    intro x g S n k w M t hC W x0 x1 a b c hT hm
    have hWn := W.2.1
    refine R_iload_3 hC dW_text_261 ?_
    refine R_aload_0 hC dW_text_262 ?_
    refine T_call (as := [vR 1030]) hC hRm (by omega) (by omega) dW_text_263 momW_works mlW_66 (l_works (G := (g, q)) W.ka) rfl rfl (by decide) (Nat.le_of_ble_eq_true rfl) (Nat.le_of_ble_eq_true rfl) ?_
    refine R_icmp_ge hC dW_text_266 (tgt := 423) (by decide) (fun hj => ?_) (fun hj => ?_)
    · have e : x = worksN g0 := by omega
      rw [e] at hT a b c
      refine R_weak (subL_c (subL_c (subL_c (subL_d subL_n)))) (kE g S n k w M t hC W (by omega) (by omega) (by omega) hT)
    have hln := txW_len g0 z τ x.toNat
    have hlh := ytH_len g0 z x (txW g0 z τ x.toNat)
    -- behind what is held
    have step2 : ∀ (g : Nat → Nat) (S : Sh) (n k w : Nat) (M : Mem) (t : Nat), CxOK (g, q) mW_text C → WG g0 S0 n0 M0 g S n M → (n : Int) ≤ n0 + 83 + 26 * (3 * z + x) + 12 → (k : Int) ≤ 83 + 26 * (3 * z + x) + 12 → (w : Int) ≤ 74546 + 28088 * (3 * z + x) + 12642 → TS S M n0 n t (ytH g0 z x (txW g0 z τ x.toNat)) → RZ (g, q) S C Z k w n 330 [some (vR 1030), some (vR t), some (vI z), some (vI x)] [] M := by
      intro g S n k w M t hC W a b c hT
      have hWn := W.2.1
      have fin : ∀ (g : Nat → Nat) (S : Sh) (n k w : Nat) (M : Mem) (t : Nat), CxOK (g, q) mW_text C → WG g0 S0 n0 M0 g S n M → (n : Int) ≤ n0 + 83 + 26 * (3 * z + x) + 26 → (k : Int) ≤ 83 + 26 * (3 * z + x) + 26 → (w : Int) ≤ 74546 + 28088 * (3 * z + x) + 28088 → TS S M n0 n t (ytP g0 z x (ytH g0 z x (txW g0 z τ x.toNat))) → RZ (g, q) S C Z k w n 417 [some (vR 1030), some (vR t), some (vI z), some (vI x)] [] M := by
        intro g S n k w M t hC W a b c hT
        refine R_iinc_3 hC dW_text_417 rfl ⟨by omega, by omega⟩ ?_
        refine R_goto hC dW_text_420 (tgt := 261) (by decide) ?_
        exact ih (x + 1) g S n k w M t hC W (by omega) (by omega) (by omega) (by omega) (by omega) (by rw [txW_s x0]; exact hT) (by omega)
      refine R_aload_0 hC dW_text_330 ?_
      refine R_iload_2 hC dW_text_331 ?_
      refine R_iload_3 hC dW_text_332 ?_
      refine T_call (as := [vR 1030, vI z, vI x]) hC hRm (by omega) (by omega) dW_text_333 momW_much mlW_77 (l_much (G := (g, q)) W.ka z0 (by omega) x0 (by omega)) rfl rfl (by decide) (Nat.le_of_ble_eq_true rfl) (Nat.le_of_ble_eq_true rfl) ?_
      refine R_if_le hC dW_text_336 (tgt := 417) (by decide) (fun hj2 => ?_) (fun hj2 => ?_)
      · exact fin g S n k w M t hC W (by omega) (by omega) (by omega) (by unfold ytP; rw [if_neg (by omega)]; exact hT)
      refine tx_P hC hRm W (by omega) (by omega) (by omega) z0 (by omega) x0 (by omega) hT (by omega) (fun g1 S1 n1 k1 w1 M1 t1 hC1 W1 a1 b1 c1 hT1 => ?_)
      exact fin g1 S1 n1 k1 w1 M1 t1 hC1 W1 (by omega) (by omega) (by omega) (by unfold ytP; rw [if_pos (by omega)]; exact hT1)
    refine R_aload_0 hC dW_text_269 ?_
    refine R_iload_2 hC dW_text_270 ?_
    refine R_iload_3 hC dW_text_271 ?_
    refine T_call (as := [vR 1030, vI z, vI x]) hC hRm (by omega) (by omega) dW_text_272 momW_holds mlW_71 (lx_holds (G := (g, q)) W.ka z0 (by omega) x0 (by omega)) rfl rfl (by decide) (Nat.le_of_ble_eq_true rfl) (Nat.le_of_ble_eq_true rfl) ?_
    refine R_if_le hC dW_text_275 (tgt := 330) (by decide) (fun hj2 => ?_) (fun hj2 => ?_)
    · exact step2 g S n k w M t hC W (by omega) (by omega) (by omega) (by unfold ytH; rw [if_neg (by omega)]; exact hT)
    refine tx_H hC hRm W (by omega) (by omega) (by omega) z0 (by omega) x0 (by omega) hT (by omega) (fun g1 S1 n1 k1 w1 M1 t1 hC1 W1 a1 b1 c1 hT1 => ?_)
    exact step2 g1 S1 n1 k1 w1 M1 t1 hC1 W1 (by omega) (by omega) (by omega) (by unfold ytH; rw [if_pos (by omega)]; exact hT1)
theorem tx_LL {τ : List Int} (hRm : C.2.2.2.1 = rmN 8 kc kw) (hkc : 320 ≤ kc) (hkw : 330000 ≤ kw) (hn0 : n0 ≤ 600) (hl : τ.length ≤ 84) (kE : GO g0 q S0 n0 M0 C Z 320 330000 429 (fun t => [some (vR 1030), some (vR t), none, none]) (txL g0 τ (libsN g0).toNat)) :
    ∀ (mq : Nat) (x : Int) (g : Nat → Nat) (S : Sh) (n k w : Nat) (M : Mem) (t : Nat), CxOK (g, q) mW_text C → WG g0 S0 n0 M0 g S n M → 0 ≤ x → x ≤ libsN g0 → (n : Int) ≤ n0 + 83 + 26 * (3 * x) → (k : Int) ≤ 83 + 26 * (3 * x) → (w : Int) ≤ 74546 + 28088 * (3 * x) → TS S M n0 n t (txL g0 τ x.toNat) → (libsN g0 - x).toNat < mq →
      RZ (g, q) S C Z k w n 251 [some (vR 1030), some (vR t), some (vI x), none] [] M := by
  intro mq
  have hL := libsN_b g0
  have hWW := worksN_b g0
  induction mq with
  | zero =>
    intro x g S n k w M t hC W x0 x1 a b c hT hm
    exact absurd hm (Nat.not_lt_zero _)
  | succ mq ih =>
    intro x g S n k w M t hC W x0 x1 a b c hT hm
    have hWn := W.2.1
    refine R_iload_2 hC dW_text_251 ?_
    refine R_aload_0 hC dW_text_252 ?_
    refine T_call (as := [vR 1030]) hC hRm (by omega) (by omega) dW_text_253 momW_libraries mlW_40 (l_libs (G := (g, q)) W.ka) rfl rfl (by decide) (Nat.le_of_ble_eq_true rfl) (Nat.le_of_ble_eq_true rfl) ?_
    refine R_icmp_ge hC dW_text_256 (tgt := 429) (by decide) (fun hj => ?_) (fun hj => ?_)
    · have e : x = libsN g0 := by omega
      rw [e] at hT a b c
      refine R_weak (subL_c (subL_c (subL_d (subL_c subL_n)))) (kE g S n k w M t hC W (by omega) (by omega) (by omega) hT)
    have hln := txL_len g0 τ x.toNat
    refine R_iconst hC dW_text_259 ⟨by decide, by decide⟩ ?_
    refine R_istore_3 hC dW_text_260 rfl ?_
    refine tx_LW (z := x) hRm hkc hkw hn0 x0 (by omega) (by omega) (fun g1 S1 n1 k1 w1 M1 t1 hC1 W1 a1 b1 c1 hT1 => ?_) _ 0 g S n k w M t hC W (by decide) (by omega) (by omega) (by omega) (by omega) hT (Nat.lt_succ_self _)
    refine R_iinc_2 hC1 dW_text_423 rfl ⟨by omega, by omega⟩ ?_
    refine R_goto hC1 dW_text_426 (tgt := 251) (by decide) ?_
    exact ih (x + 1) g1 S1 n1 k1 w1 M1 t1 hC1 W1 (by omega) (by omega) (by omega) (by omega) (by omega) (by rw [txL_s x0]; exact hT1) (by omega)
end TXL
theorem l_text {g : Nat → Nat} {q : Gq} {S : Sh} {n : Nat} {l : Launch} {M : Mem} (e : EX S n) (rb : RB S n M) (hn : n ≤ 600) : CtD g q S n l 8 320 330000 mW_text [vR 1030] M (fun o S' n' M' => ∃ t : Nat, o = some (vR t) ∧ n' ≤ n + 320 ∧ TS S' M' n n' t (txt g) ∧ ∀ h, h < n → M' h = M h) := by
  refine R_startD (by decide +kernel) (Nat.le_of_ble_eq_true rfl) (fun C hC hN hRm hlau => ?_)
  show RZ (g, q) S C (ZD g q S n C (fun o S' n' M' => ∃ t : Nat, o = some (vR t) ∧ n' ≤ n + 320 ∧ TS S' M' n n' t (txt g) ∧ ∀ h, h < n → M' h = M h) 320 330000) 0 0 n 0 [some (vR 1030), none, none, none] [] M
  have W0 := WG.rf (g := g) e rb
  have hL := libsN_b g
  have hWW := worksN_b g
  have hlA := txA_len g (libsN g).toNat
  have hlB := ytB_len g (txA g (libsN g).toNat)
  have hlC := txC_len g (ytB g (txA g (libsN g).toNat)) (worksN g).toNat
  refine R_ldcS hC dW_text_0 (List.mem_of_getElem? (i := 5) rfl) ?_
  refine R_astore_1 hC dW_text_2 rfl ?_
  refine R_iconst hC dW_text_3 ⟨by decide, by decide⟩ ?_
  refine R_istore_2 hC dW_text_4 rfl ?_
  refine tx_LA (kc := 320) (kw := 330000) hRm (Nat.le_refl _) (Nat.le_refl _) hn ?_ _ 0 g S n 0 0 M 1005 hC W0 (by decide) (by omega) (by omega) (by decide) (by decide) (.inl ⟨rfl, rfl, rfl⟩) (Nat.lt_succ_self _)
  intro g1 S1 n1 k1 w1 M1 t1 hC1 W1 a1 b1 c1 hT1
  have hW1 := W1.2.1
  -- behind the store's clause
  have fin : GO g q S n M C (ZD g q S n C (fun o S' n' M' => ∃ t : Nat, o = some (vR t) ∧ n' ≤ n + 320 ∧ TS S' M' n n' t (txt g) ∧ ∀ h, h < n → M' h = M h) 320 330000) 53 45032 164 (fun t => [some (vR 1030), some (vR t), none, none]) (ytB g (txA g (libsN g).toNat)) := by
    intro g2 S2 n2 k2 w2 M2 t2 hC2 W2 a2 b2 c2 hT2
    refine R_iconst hC2 dW_text_164 ⟨by decide, by decide⟩ ?_
    refine R_istore_2 hC2 dW_text_165 rfl ?_
    refine tx_LC (τ := ytB g (txA g (libsN g).toNat)) (kc := 320) (kw := 330000) hRm (Nat.le_refl _) (Nat.le_refl _) hn (by omega) ?_ _ 0 g2 S2 n2 k2 w2 M2 t2 hC2 W2 (by decide) (by omega) (by omega) (by omega) (by omega) hT2 (Nat.lt_succ_self _)
    intro g3 S3 n3 k3 w3 M3 t3 hC3 W3 a3 b3 c3 hT3
    refine R_iconst hC3 dW_text_249 ⟨by decide, by decide⟩ ?_
    refine R_istore_2 hC3 dW_text_250 rfl ?_
    refine tx_LL (τ := txC g (ytB g (txA g (libsN g).toNat)) (worksN g).toNat) (kc := 320) (kw := 330000) hRm (Nat.le_refl _) (Nat.le_refl _) hn (by omega) ?_ _ 0 g3 S3 n3 k3 w3 M3 t3 hC3 W3 (by decide) (by omega) (by omega) (by omega) (by omega) hT3 (Nat.lt_succ_self _)
    intro g4 S4 n4 k4 w4 M4 t4 hC4 W4 a4 b4 c4 hT4
    refine R_aload_1 hC4 dW_text_429 ?_
    exact R_aretD hC4 dW_text_430 rfl (.inl ⟨_, rfl⟩) (by omega) (by omega) W4.1 W4.2.1 W4.2.2.1 W4.2.2.2.1 W4.2.2.2.2.1 hT4.ok ⟨t4, rfl, by omega, hT4, W4.2.2.2.2.2⟩
  refine R_aload_0 hC1 dW_text_106 ?_
  refine R_bipush hC1 dW_text_107 (by decide +kernel) ⟨by decide, by decide⟩ ?_
  refine T_call (as := [vR 1030, vI 9]) hC1 (kc := 320) (kw := 330000) hRm (by omega) (by omega) dW_text_109 momW_cell mlW_28 (l_cell (G := (g1, q)) W1.ka (by decide)) rfl rfl (by decide) (Nat.le_of_ble_eq_true rfl) (Nat.le_of_ble_eq_true rfl) ?_
  refine R_bipush hC1 dW_text_112 (by decide +kernel) ⟨by decide, by decide⟩ ?_
  refine R_ishr hC1 dW_text_114 (by decide) (by decide) ?_
  refine R_iconst hC1 dW_text_115 ⟨by decide, by decide⟩ ?_
  refine R_iandm hC1 dW_text_116 (m := 1) (by decide) (by decide) ?_
  refine R_iconst hC1 dW_text_117 ⟨by decide, by decide⟩ ?_
  refine R_icmp_ne hC1 dW_text_118 (tgt := 164) (by decide) (fun hj => ?_) (fun hj => ?_)
  · replace hj : ¬ scK g 9 / 2 ^ 12 % 2 ^ 1 = 1 := hj
    exact fin g1 S1 n1 k1 w1 M1 t1 hC1 W1 (by omega) (by omega) (by omega) (by unfold ytB; rw [if_neg hj]; exact hT1)
  replace hj : scK g 9 / 2 ^ 12 % 2 ^ 1 = 1 := hj
  refine tx_B (kc := 320) (kw := 330000) hC1 hRm W1 (by omega) (by omega) (by omega) hT1 (by omega) (fun g2 S2 n2 k2 w2 M2 t2 hC2 W2 a2 b2 c2 hT2 => ?_)
  exact fin g2 S2 n2 k2 w2 M2 t2 hC2 W2 (by omega) (by omega) (by omega) (by unfold ytB; rw [if_pos hj]; exact hT2)
