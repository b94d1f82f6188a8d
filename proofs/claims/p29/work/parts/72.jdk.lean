/-! rules that the JDK's text methods want; what a builder, a String, a row of bytes hold -/
section JR
variable {G : Gl} {S : Sh} {C : Cx} {Z : State → Prop} {k w n : Nat} {pc : Nat} {ls : List (Option V)} {st : List V} {M : Mem} {y : Mt}
theorem R_ineg (hC : CxOK G y C) {a : Int} (hd : decode y.2.1 pc = .ok (.ineg, 1)) (hc : inI (-a)) (kk : RZ G S C Z k w n (pc + 1) ls (vI (-a) :: st) M) : RZ G S C Z k w n pc ls (vI a :: st) M := by
  intro H locs ar hp hs hm hl hv ha
  refine lv_ineg hC.1 hC.2.1 hd ?_
  have z := kk H locs ar hp hs hm hl ⟨hc, hv.2⟩ ha
  have e : enc G (vI (-a)) = .int (-(Int32.ofInt a)) := congrArg Value.int (Int32.ofInt_neg a)
  rw [List.map_cons, e] at z
  exact z
theorem R_ifnonnull (hC : CxOK G y C) {h : Nat} {off : Int} {tgt : Nat} (hd : decode y.2.1 pc = .ok (.ifnonnull off, 3)) (ht : (pc : Int) + off = (tgt : Int)) (kk : RZ G S C Z k w n tgt ls st M) : RZ G S C Z k w n pc ls (vR h :: st) M :=
  fun H locs ar hp hs hm hl hv ha => lv_ifnonnull hC.1 hC.2.1 hd ht (kk H locs ar hp hs hm hl hv.2 ha)
theorem R_dgO (hC : CxOK G y C) {idx : Nat} (hd : decode y.2.1 pc = .ok (.getstatic idx, 3)) (hlk : Cond.fieldLink y.1.cls idx "java/lang/Integer" "DigitOnes" "[B" ∈ Ts) (kk : RZ G S C Z k w n (pc + 3) ls (vR 1020 :: st) M) : RZ G S C Z k w n pc ls st M := by
  intro H locs ar hp hs hm hl hv ha
  exact va_gets hC.1 hC.2.1 (XW_of hC).2.2.1.1 hs hC.2.2.2.1 (hC.2.2.2.2.1 _ hlk) (fun _ q => q) hd (kk H locs ar hp hs hm hl ⟨trivial, hv⟩ ha)
theorem R_dgT (hC : CxOK G y C) {idx : Nat} (hd : decode y.2.1 pc = .ok (.getstatic idx, 3)) (hlk : Cond.fieldLink y.1.cls idx "java/lang/Integer" "DigitTens" "[B" ∈ Ts) (kk : RZ G S C Z k w n (pc + 3) ls (vR 1021 :: st) M) : RZ G S C Z k w n pc ls st M := by
  intro H locs ar hp hs hm hl hv ha
  exact va_gets hC.1 hC.2.1 (XW_of hC).2.2.2.1.1 hs hC.2.2.2.1 (hC.2.2.2.2.1 _ hlk) (fun _ q => q) hd (kk H locs ar hp hs hm hl ⟨trivial, hv⟩ ha)
theorem R_balO (hC : CxOK G y C) {a : Int} (hd : decode y.2.1 pc = .ok (.baload, 1)) (h0 : 0 ≤ a) (h1 : a < 100) (kk : RZ G S C Z k w n (pc + 1) ls (vI (48 + a % 10) :: st) M) : RZ G S C Z k w n pc ls (vI a :: vR 1020 :: st) M := by
  intro H locs ar hp hs hm hl hv ha
  refine va_tb hC.1 hC.2.1 (XW_of hC).2.2.1.2 hs (i_in hv.1 h0 h1) (v := .int (Int32.ofInt (48 + a % 10))) ?_ hd (kk H locs ar hp hs hm hl ⟨⟨by omega, by omega⟩, hv.2.2⟩ ha)
  rw [i_cl hv.1]
  show Value.int _ = Value.int _
  rw [ofInt_nI (by omega)]
  exact congrArg (fun t => Value.int (nI t)) (by omega)
theorem R_balT (hC : CxOK G y C) {a : Int} (hd : decode y.2.1 pc = .ok (.baload, 1)) (h0 : 0 ≤ a) (h1 : a < 100) (kk : RZ G S C Z k w n (pc + 1) ls (vI (48 + a / 10) :: st) M) : RZ G S C Z k w n pc ls (vI a :: vR 1021 :: st) M := by
  intro H locs ar hp hs hm hl hv ha
  refine va_tb hC.1 hC.2.1 (XW_of hC).2.2.2.1.2 hs (i_in hv.1 h0 h1) (v := .int (Int32.ofInt (48 + a / 10))) ?_ hd (kk H locs ar hp hs hm hl ⟨⟨by omega, by omega⟩, hv.2.2⟩ ha)
  rw [i_cl hv.1]
  show Value.int _ = Value.int _
  rw [ofInt_nI (by omega)]
  exact congrArg (fun t => Value.int (nI t)) (by omega)
theorem R_minG (hC : CxOK G y C) {idx : Nat} {a b : Int} (hd : decode y.2.1 pc = .ok (.invokestatic idx, 3)) (hlk : Cond.methodLink y.1.cls idx Lib.Math.min.name ∈ Ts)
    (hR : 1 ≤ C.2.2.2.1.frames ∧ 40 ≤ C.2.2.2.1.locals ∧ k ≤ C.2.2.2.1.cells ∧ w ≤ C.2.2.2.1.slots) (hcat : (st.map vcat).sum ≤ 8) (kk : RZ G S C Z k w n (pc + 3) ls (vI (min a b) :: st) M) : RZ G S C Z k w n pc ls (vI b :: vI a :: st) M := by
  intro H locs ar hp hs hm hl hv ha
  refine va_mmin hC.1 hC.2.1 ha.1.symm hC.2.2.2.1 (hC.2.2.2.2.1 _ hlk) (hC.2.2.2.2.1 _ w_min_s) (hC.2.2.2.2.1 _ w_math_i) (hC.2.2.2.2.1 _ w_min_c) hR.1 (by rw [enc_cats]; have := hR.2.1; omega) hR.2.2.1 hR.2.2.2 hd ?_
  rw [i_min hv.2.1 hv.1]
  exact kk H locs ar hp hs hm hl ⟨by rw [Int.min_def]; split; exact hv.2.1; exact hv.1, hv.2.2⟩ ha
theorem fit_b : ∀ m, m < 128 → fits .byte (.int (nI m)) = true := by decide +kernel
theorem fit_B {v : Int} (h0 : 0 ≤ v) (h1 : v ≤ 127) : fits .byte (.int (Int32.ofInt v)) = true := by
  rw [ofInt_nI h0]
  exact fit_b _ (by omega)
/-- all of a row are letters -/
def BY (M : Mem) (r : Nat) (m : Int) : Prop := ∀ j : Int, 0 ≤ j → j < m → 0 ≤ M r j ∧ M r j ≤ 127
theorem R_copyB (hC : CxOK G y C) {idx hs hd' N0 N1 : Nat} {sp dp m : Int} (hd : decode y.2.1 pc = .ok (.invokestatic idx, 3)) (hlk : Cond.methodLink y.1.cls idx arraycopyName ∈ Ts)
    (hh : hs < n) (hk : S.1 hs = (22, N0)) (hh1 : hd' < n) (hk1 : S.1 hd' = (22, N1)) (h1 : 0 ≤ sp) (h2 : 0 ≤ dp) (h3 : 0 ≤ m) (h4 : sp + m ≤ N0) (h5 : dp + m ≤ N1) (hb : BY M hs N0)
    (hR : 1 ≤ C.2.2.2.1.frames ∧ 40 ≤ C.2.2.2.1.locals) (hcat : (st.map vcat).sum ≤ 8) (kk : RZ G S C Z k w n (pc + 3) ls st (cpM M hd' dp hs sp m)) : RZ G S C Z k w n pc ls (vI m :: vI dp :: vR hd' :: vI sp :: vR hs :: st) M := by
  intro H locs ar hp hs' hm hl hv ha
  have i1 := hv.2.2.2.1
  have i2 := hv.2.1
  have i3 := hv.1
  have es : (wsM G S n M).set hd' (G.1 hd', .inl (G.2.2.2 22, N1, .inl (va_cpy (fun j => Int32.ofInt (M hs (j : Nat))) (fun j => Int32.ofInt (M hd' (j : Nat))) (Int32.ofInt sp).toNatClampNeg (Int32.ofInt dp).toNatClampNeg (Int32.ofInt m).toNatClampNeg))) = wsM G S n (cpM M hd' dp hs sp m) := by
    have e : ent G S (cpM M hd' dp hs sp m) hd' = .inl (G.2.2.2 22, N1, .inl (va_cpy (fun j => Int32.ofInt (M hs (j : Nat))) (fun j => Int32.ofInt (M hd' (j : Nat))) (Int32.ofInt sp).toNatClampNeg (Int32.ofInt dp).toNatClampNeg (Int32.ofInt m).toNatClampNeg)) := by
      rw [ent_arr hk1 (by decide) (by decide), i_cl i1, i_cl i2, i_cl i3]
      refine congrArg (fun f => (Sum.inl (G.2.2.2 22, N1, Sum.inl f) : va_E)) (funext fun j => ?_)
      unfold va_cpy cpM
      by_cases e : dp.toNat ≤ j ∧ j < dp.toNat + m.toNat
      · rw [if_pos e, if_pos ⟨rfl, by omega, by omega⟩]
        congr 2
        omega
      · rw [if_neg e, if_neg (fun q => e ⟨by omega, by omega⟩)]
    rw [← e]
    refine wsM_set (fun h' e => ?_)
    unfold ent
    rw [cpM_ne e]
  refine va_copyi (D := G.2.2.1) (cl := vwCl) (tys := tysG G) hC.1 hC.2.1 ha.1.symm hC.2.2.2.1 (hC.2.2.2.2.1 _ hlk) (hC.2.2.2.2.1 _ w_copy_n) (hC.2.2.2.2.1 _ w_copy_s) (hC.2.2.2.2.1 _ w_sys_i) hC.2.2.2.2.2.1.1 hp.1 hp.2 hs' hs hd' 2 2
    ((wsM_at hh).trans (by rw [ent_arr hk (by decide) (by decide)])) ((wsM_at hh1).trans (by rw [ent_arr hk1 (by decide) (by decide)])) rfl rfl rfl (i_n0 i1 h1) (i_n0 i2 h2) (i_n0 i3 h3) (by rw [i_cl i1, i_cl i3]; omega) (by rw [i_cl i2, i_cl i3]; omega) (fun i hi => ?_)
    hR.1 (by rw [enc_cats]; have := hR.2; show _ + (5 + 11 + 0) ≤ _; omega) hd (fun H1 l1 e1 e2 e3 => ?_)
  · rw [i_cl i1]
    rw [i_cl i3] at hi
    have := hb ((sp.toNat + i : Nat) : Int) (by omega) (by omega)
    exact fit_B this.1 this.2
  rw [es] at e1 e2
  refine kk H1 l1 ar ⟨e1, e2⟩ e3 ?_ hl hv.2.2.2.2.2 ha
  intro h' k'
  unfold cpM
  by_cases e : h' = hd' ∧ dp ≤ k' ∧ k' < dp + m
  · rw [if_pos e, e.1, hk1, if_neg (show ¬ (22 = 21) by decide)]
    exact okM_I hm _ hk (by decide)
  · rw [if_neg e]
    exact hm h' k'
/-- a constant's bytes into a row -/
def cpT (M : Mem) (hd : Nat) (dp : Int) (i : Nat) (m : Int) : Mem := fun a b => if a = hd ∧ dp ≤ b ∧ b < dp + m then bS i (b - dp) else M a b
theorem cpT_ne {hd h' i : Nat} {dp m : Int} (e : h' ≠ hd) : cpT M hd dp i m h' = M h' := funext fun b => if_neg (fun q => e q.1)
theorem bS_all : ∀ i, i < 13 → ∀ j, j < lnS i → (0 ≤ bS i j ∧ bS i j ≤ 127) ∧ fits .byte (.int ((bytS.getD i []).getD j 0)) = true := by decide +kernel
theorem R_copyT (hC : CxOK G y C) {idx i hd' N1 : Nat} {dp m : Int} (hi : i < 13) (hd : decode y.2.1 pc = .ok (.invokestatic idx, 3)) (hlk : Cond.methodLink y.1.cls idx arraycopyName ∈ Ts)
    (hh1 : hd' < n) (hk1 : S.1 hd' = (22, N1)) (h2 : 0 ≤ dp) (h3 : m = lnS i) (h5 : dp + m ≤ N1)
    (hR : 1 ≤ C.2.2.2.1.frames ∧ 40 ≤ C.2.2.2.1.locals) (hcat : (st.map vcat).sum ≤ 8) (kk : RZ G S C Z k w n (pc + 3) ls st (cpT M hd' dp i m)) : RZ G S C Z k w n pc ls (vI m :: vI dp :: vR hd' :: vI 0 :: vR (1050 + i) :: st) M := by
  intro H locs ar hp hs' hm hl hv ha
  have i1 : inI 0 := hv.2.2.2.1
  have i2 := hv.2.1
  have i3 := hv.1
  have h30 : 0 ≤ m := by omega
  have es : (wsM G S n M).set hd' (G.1 hd', .inl (G.2.2.2 22, N1, .inl (va_cpy (fun j => (bytS.getD i []).getD j 0) (fun j => Int32.ofInt (M hd' (j : Nat))) (Int32.ofInt 0).toNatClampNeg (Int32.ofInt dp).toNatClampNeg (Int32.ofInt m).toNatClampNeg))) = wsM G S n (cpT M hd' dp i m) := by
    have e : ent G S (cpT M hd' dp i m) hd' = .inl (G.2.2.2 22, N1, .inl (va_cpy (fun j => (bytS.getD i []).getD j 0) (fun j => Int32.ofInt (M hd' (j : Nat))) (Int32.ofInt 0).toNatClampNeg (Int32.ofInt dp).toNatClampNeg (Int32.ofInt m).toNatClampNeg)) := by
      rw [ent_arr hk1 (by decide) (by decide), i_cl i1, i_cl i2, i_cl i3]
      refine congrArg (fun f => (Sum.inl (G.2.2.2 22, N1, Sum.inl f) : va_E)) (funext fun j => ?_)
      unfold va_cpy cpT
      by_cases e : dp.toNat ≤ j ∧ j < dp.toNat + m.toNat
      · rw [if_pos e, if_pos ⟨rfl, by omega, by omega⟩]
        unfold bS
        rw [Int32.ofInt_toInt]
        congr 1
        show ((j : Int) - dp).toNat = (0 : Int).toNat + (j - dp.toNat)
        omega
      · rw [if_neg e, if_neg (fun q => e ⟨by omega, by omega⟩)]
    rw [← e]
    refine wsM_set (fun h' e => ?_)
    unfold ent
    rw [cpT_ne e]
  refine vk_copyt (D := G.2.2.1) (cl := vwCl) (tys := tysG G) hC.1 hC.2.1 ha.1.symm hC.2.2.2.1 (hC.2.2.2.2.1 _ hlk) (hC.2.2.2.2.1 _ w_copy_n) (hC.2.2.2.2.1 _ w_copy_s) (hC.2.2.2.2.1 _ w_sys_i) hC.2.2.2.2.2.1.1 hp.1 hp.2 hs' ((XW_of hC).1.1.1 i hi).2.2.2 hd' 2
    ((wsM_at hh1).trans (by rw [ent_arr hk1 (by decide) (by decide)])) rfl (i_n0 i1 (by decide)) (i_n0 i2 h2) (i_n0 i3 h30) (by rw [i_cl i1, i_cl i3]; show 0 + m.toNat ≤ lnS i; omega) (by rw [i_cl i2, i_cl i3]; omega) (fun j hj => ?_)
    hR.1 (by rw [enc_cats]; have := hR.2; show _ + (5 + 11 + 0) ≤ _; omega) hd (fun H1 l1 e1 e2 e3 => ?_)
  · rw [i_cl i3] at hj
    rw [i_cl i1, show (0 : Int).toNat + j = j from Nat.zero_add j]
    exact (bS_all i hi j (by omega)).2
  rw [es] at e1 e2
  refine kk H1 l1 ar ⟨e1, e2⟩ e3 ?_ hl hv.2.2.2.2.2 ha
  intro h' k'
  unfold cpT
  by_cases e : h' = hd' ∧ dp ≤ k' ∧ k' < dp + m
  · rw [if_pos e, e.1, hk1, if_neg (show ¬ (22 = 21) by decide)]
    exact inI_of _
  · rw [if_neg e]
    exact hm h' k'
theorem R_castB (hC : CxOK G y C) {h N idx : Nat} (hd : decode y.2.1 pc = .ok (.checkcast idx, 3)) (hlk : Cond.classLink y.1.cls idx "[B" ∈ Ts) (hh : h < n) (hk : S.1 h = (22, N)) (kk : RZ G S C Z k w n (pc + 3) ls (vR h :: st) M) : RZ G S C Z k w n pc ls (vR h :: st) M := by
  intro H locs ar hp hs hm hl hv ha
  have hK := hC.2.2.2.2.2.1.1
  exact va_castA hC.1 hC.2.1 hC.2.2.2.1 (hC.2.2.2.2.1 _ hlk) hp.1 h ((wsM_at hh).trans (by rw [ent_arr hk (by decide) (by decide)])) (hK.2 2 (G.2.2.2 22, .byte) rfl).2 hd (kk H locs ar hp hs hm hl hv ha)
theorem R_putFZ (hC : CxOK G y C) (hN : inI0 C) {h ci f idx N : Nat} {v : Int} (hd : decode y.2.1 pc = .ok (.putfield idx, 3)) (hf : FL y.1.cls idx ci f 1 true) (hdc : ∀ p, vwCl[ci]? = some p → (p.2.1 f).1 = y.1.cls) (hh : h < n) (hk : S.1 h = (ci, N)) (hfN : f < N) (hS : S.2 ci f = 1) (hb : v = 0 ∨ v = 1) {fi : Int} (hfi : (f : Int) = fi) (kk : RZ G S C Z k w n (pc + 3) ls st (uM M h fi v)) : RZ G S C Z k w n pc ls (vI v :: vR h :: st) M := by
  subst hfi
  intro H locs ar hp hs hm hl hv ha
  refine R_putF0 hC hN hd hf hdc hh hk hfN (u := .int (Int32.ofInt v)) (by rw [hS]; rfl) (fun ty e => ?_) hv.1 kk H locs ar hp hs hm hl hv.2.2 ha
  cases ty <;> first | (rcases hb with rfl | rfl <;> exact ⟨by decide +kernel, by decide +kernel⟩) | cases e
theorem R_callVSG {d na idx i : Nat} {z : Mt} {as : List V} {st0 : List V} {Q : Option V → Mem → Prop} (hC : CxOK G y C) (hd : decode y.2.1 pc = .ok (.invokevirtual idx, 3)) (hz : MO z na false) (hlk : Cond.methodLink y.1.cls idx z.1 ∈ Ts)
    (hi : i < 13) (hcl : z.1.cls = "java/lang/String") (hct : Ct G S n C.2.1 d z (vR (1000 + i) :: as) M Q) (hst : st0 = as.reverse ++ vR (1000 + i) :: st) (hna : as.length = na)
    (hR : d + 1 ≤ C.2.2.2.1.frames ∧ 8 + (z.2.2.1 + 11) + (40 * d + 40) ≤ C.2.2.2.1.locals ∧ k ≤ C.2.2.2.1.cells ∧ w ≤ C.2.2.2.1.slots) (hcat : (st.map vcat).sum ≤ 8)
    (kk : ∀ (r : Option V) (M' : Mem), Q r M' → RZ G S C Z k w n (pc + 3) ls (r.toList ++ st) M') : RZ G S C Z k w n pc ls st0 M := by
  intro H locs ar hp hs hm hl hv ha
  subst hst
  have hv2 := (okVs_app _ _).mp hv
  have hrv := vk_recv (XW_of hC).1.1 hi hs
  rw [← hcl] at hrv
  have hpre := Pn.pre (args := vR (1000 + i) :: as) hC hp hs hm ⟨trivial, okVs_rev _ hv2.1⟩
  refine R_call (args := vR (1000 + i) :: as) hC hcat hs hl hv2.2.2 ha ?_ kk
  exact va_runV (As := as.map (enc G)) (b := G.1 (1000 + i)) (ws := wsY z) (rm := rmD d) (nL := C.2.2.2.2.2.2.2.2.2.maxLocals) (cc := y.2.1) ⟨hC.1, hC.2.1, rfl, hC.2.2.2.1, hC.2.2.2.2.1⟩ hct (cwV na (hC.2.2.2.2.1) (gi_V hz hlk) rfl rfl rfl ⟨rfl, hz.2.2.1⟩ ⟨hR.1, hR.2.1⟩) ⟨hpre.1, hrv, hpre.2⟩ rfl (by rw [List.length_map]; exact hna) ha.1 revm (lv_room (by rw [enc_cats]; exact hcat)) hd ⟨hR.2.2.1, hR.2.2.2⟩
end JR
section CLN
variable {g g' : Nat → Nat} {q : Gq} {S S' : Sh} {C : Cx} {Z : State → Prop} {k w n n' : Nat} {pc : Nat} {ls : List (Option V)} {st : List V} {M : Mem} {y : Mt}
theorem R_cloneB (hC : CxOK (g, q) y C) (e : EX S n) {h N idx : Nat} (hd : decode y.2.1 pc = .ok (.invokevirtual idx, 3)) (hlk : Cond.methodLink y.1.cls idx ⟨"[B", "clone", "()Ljava/lang/Object;"⟩ ∈ Ts)
    (hw1 : Cond.sameMethod "[B" "java/lang/Object" "clone" "()Ljava/lang/Object;" ∈ Ts) (hw2 : Cond.native ⟨"java/lang/Object", "clone", "()Ljava/lang/Object;"⟩ ∈ Ts) (hw3 : Cond.instanceMethod ⟨"java/lang/Object", "clone", "()Ljava/lang/Object;"⟩ ∈ Ts) (hw4 : Cond.selects "[B" ⟨"[B", "clone", "()Ljava/lang/Object;"⟩ ⟨"java/lang/Object", "clone", "()Ljava/lang/Object;"⟩ ∈ Ts) (hw5 : Cond.castable "[B" "java/lang/Cloneable" ∈ lw_tbl)
    (hh : h < n) (hk : S.1 h = (22, N)) (hN : N ≤ 65536) (hb : BY M h N) (hn : n < 1000) (rb : RB S n M) (hls : ∀ v, some v ∈ ls → hOK n v) (hst : ∀ v ∈ st, hOK n v) (hR : 1 ≤ C.2.2.2.1.frames ∧ 40 ≤ C.2.2.2.1.locals) (hcat : (st.map vcat).sum ≤ 8) (hr1 : k + 1 ≤ C.2.2.2.1.cells) (hr2 : w + N ≤ C.2.2.2.1.slots)
    (kk : ∀ g' : Nat → Nat, GA g g' n → EX (push S n (22, N)) (n + 1) → RB (push S n (22, N)) (n + 1) (setR M n (M h)) → RZ (g', q) (push S n (22, N)) C Z (k + 1) (w + N) (n + 1) (pc + 3) ls (vR n :: st) (setR M n (M h))) : RZ (g, q) S C Z k w n pc ls (vR h :: st) M := by
  have e' : EX (push S n (22, N)) (n + 1) := e.push (show (22 : Nat) ≠ 21 by decide)
  have h1 : ∀ h, h < n → (push S n (22, N)).1 h = S.1 h := fun h hh => push_o (by omega)
  have rb1 : RB (push S n (22, N)) n M := rb.sh h1 (e.two e')
  have hk' : (push S n (22, N)).1 h = (22, N) := (h1 h hh).trans hk
  refine R_shape e e' h1 ?_
  have rb2 : RB (push S n (22, N)) (n + 1) (setR M n (M h)) := fun a j ha c t => by
    by_cases z : a = n
    · subst z
      rw [push_s] at c
      exact absurd (show (22 : Nat) < 14 from c) (by decide)
    · rw [setR_o z]
      have := rb1 a j (by omega) c t
      omega
  intro H locs ar hp hs hm hl hv ha
  have hK := hC.2.2.2.2.2.1.1
  refine va_clone (ad := "[B") hC.1 hC.2.1 ha.1.symm hC.2.2.2.1 (hC.2.2.2.2.1 _ hlk) (hC.2.2.2.2.1 _ hw1) (hC.2.2.2.2.1 _ hw2) (hC.2.2.2.2.1 _ hw3) (hC.2.2.2.2.1 _ hw4) (hC.2.2.2.2.2.1.2.1 _ hw5 rfl) hK hp.1 hp.2 hs hC.2.2.2.2.2.2.2.2 h 2
    ((wsM_at hh).trans (by rw [ent_arr hk' (by decide) (by decide)])) rfl (hK.2 2 (q.2.2 22, .byte) rfl).2 (fun i v hv2 => ?_) hR.1 (by rw [enc_cats]; have := hR.2; omega) hr1 hr2 hd (fun a H1 e0 e1 e2 e3 => ?_)
  · exact va_fit (F := fun j => .int (Int32.ofInt (M h (j : Nat)))) (fun i hi => by
      have := hb (i : Int) (by omega) (by omega)
      exact fit_B this.1 this.2) i v hv2
  have ga : GA g (fun h => if h = n then a else g h) n := fun h z => if_neg (by omega)
  have hent : ∀ g' : Nat → Nat, ent (g', q) (push S n (22, N)) (setR M n (M h)) n = .inl (q.2.2 22, N, .inl (fun j => Int32.ofInt (M h (j : Nat)))) := fun g' => by
    rw [ent_arr push_s (by decide) (by decide)]
    refine congrArg (fun f => (Sum.inl (q.2.2 22, N, Sum.inl f) : va_E)) (funext fun j => ?_)
    rw [setR_s]
  have hH := Hp_new hn rb1 (hent g) (fun g' => (hent g').trans (hent g).symm) e1 e2
  have hm2 : okM (push S n (22, N)) (setR M n (M h)) := fun a j => by
    by_cases c : a = n
    · subst c
      rw [push_s, if_neg (show ¬ (22 = 21) by decide), setR_s]
      exact okM_I hm _ hk' (by decide)
    · rw [setR_o c]
      exact hm a j
  have z := kk _ ga e' rb2 H1 locs ar hH e3 hm2 hl ⟨trivial, hv.2⟩ (lsR.ga ga hls ha)
  rw [List.map_cons, encs_ga ga hst] at z
  have e4 : enc (fun h => if h = n then a else g h, q) (vR n) = .ref a := by
    show Value.ref (if n = n then a else g n) = _
    rw [if_pos rfl]
  rw [e4] at z
  exact z
end CLN
/-! texts: lists of letters -/
def tx7 (τ : List Int) : Prop := ∀ x ∈ τ, 0 ≤ x ∧ x ≤ 127
def ROWT (M : Mem) (r : Nat) (τ : List Int) : Prop := ∀ j : Nat, j < τ.length → M r (j : Int) = τ.getD j 0
/-- a constant's text -/
def sL (i : Nat) : List Int := (bytS.getD i []).map (fun x => x.toInt)
theorem sL_len : ∀ i, i < 13 → (sL i).length = lnS i := by decide
theorem sL_7 : ∀ i, i < 13 → ∀ x ∈ sL i, 0 ≤ x ∧ x ≤ 127 := by decide
theorem sL_at : ∀ i, i < 13 → ∀ j, j < lnS i → bS i j = (sL i).getD j 0 := by decide
/-- a number's digits, below 100 -/
def dcL (v : Int) : List Int := if v < 10 then [48 + v] else [48 + v / 10, 48 + v % 10]
theorem dcL_7 {v : Int} (h0 : 0 ≤ v) (h1 : v < 100) : tx7 (dcL v) := fun x hx => by
  unfold dcL at hx
  split at hx
  · rw [List.mem_singleton] at hx; omega
  · rw [List.mem_cons, List.mem_singleton] at hx; rcases hx with rfl | rfl <;> omega
theorem tx7.app {a b : List Int} (h : tx7 a) (g : tx7 b) : tx7 (a ++ b) := fun x hx => (List.mem_append.mp hx).elim (h x) (g x)
theorem getD_app (a b : List Int) (j : Nat) : (a ++ b).getD j 0 = if j < a.length then a.getD j 0 else b.getD (j - a.length) 0 := by
  rw [List.getD_eq_getElem?_getD, List.getD_eq_getElem?_getD, List.getD_eq_getElem?_getD]
  by_cases h : j < a.length
  · rw [if_pos h, List.getElem?_append_left h]
  · rw [if_neg h, List.getElem?_append_right (by omega)]
/-- a builder b with its row r of m bytes, of which τ are used -/
def BLD (S : Sh) (M : Mem) (b r m : Nat) (τ : List Int) : Prop := S.1 b = (13, 4) ∧ S.1 r = (22, m) ∧ M b 0 = (r : Int) ∧ M b 1 = 0 ∧ M b 3 = (τ.length : Int) ∧ (τ.length ≤ m ∧ m ≤ 1402) ∧ BY M r m ∧ ROWT M r τ
/-- a String t with its row r -/
def STG (S : Sh) (M : Mem) (t r : Nat) (σ : List Int) : Prop := S.1 t = (12, 4) ∧ S.1 r = (22, σ.length) ∧ M t 0 = (r : Int) ∧ M t 1 = 0 ∧ ROWT M r σ ∧ tx7 σ
theorem STG.by {S : Sh} {M : Mem} {t r : Nat} {σ : List Int} (h : STG S M t r σ) : BY M r σ.length := fun j j0 j1 => by
  obtain ⟨i, rfl⟩ := Int.eq_ofNat_of_zero_le j0
  have hi : i < σ.length := by omega
  rw [h.2.2.2.2.1 i hi, List.getD_eq_getElem?_getD, List.getElem?_eq_getElem hi]
  exact h.2.2.2.2.2 _ (List.getElem_mem hi)
theorem STG.keep {S S' : Sh} {M M' : Mem} {t r n : Nat} {σ : List Int} (h : STG S M t r σ) (ht : t < n) (hr : r < n) (hS : ∀ h, h < n → S'.1 h = S.1 h) (e1 : M' t = M t) (e2 : M' r = M r) : STG S' M' t r σ := by
  unfold STG ROWT
  rw [hS t ht, hS r hr, e1, e2]
  exact h
theorem BLD.ne {S : Sh} {M : Mem} {b r m : Nat} {τ : List Int} (h : BLD S M b r m τ) : b ≠ r := fun e => by
  have := h.1
  rw [e, h.2.1] at this
  cases this
/-- what stands behind τ is σ then -/
def ADD (M M' : Mem) (r : Nat) (c : Nat) (σ : List Int) : Prop := (∀ h, h ≠ r → M' h = M h) ∧ (∀ j : Int, (j < c ∨ c + σ.length ≤ j) → M' r j = M r j) ∧ ∀ j : Nat, j < σ.length → M' r ((c + j : Nat) : Int) = σ.getD j 0
theorem ADD.row {M M' : Mem} {r : Nat} {τ σ : List Int} (h : ADD M M' r τ.length σ) (hT : ROWT M r τ) : ROWT M' r (τ ++ σ) := fun j hj => by
  rw [getD_app]
  rw [List.length_append] at hj
  by_cases c : j < τ.length
  · rw [if_pos c, h.2.1 _ (.inl (by omega))]
    exact hT j c
  · rw [if_neg c]
    have := h.2.2 (j - τ.length) (by omega)
    rw [show τ.length + (j - τ.length) = j by omega] at this
    exact this
theorem ADD.by {M M' : Mem} {r c : Nat} {m : Int} {σ : List Int} (h : ADD M M' r c σ) (h7 : tx7 σ) (hB : BY M r m) : BY M' r m := fun j j0 j1 => by
  by_cases e : j < c ∨ c + σ.length ≤ j
  · rw [h.2.1 j e]
    exact hB j j0 j1
  · have e1 : c ≤ j ∧ j < c + σ.length := by omega
    have hi : (j.toNat - c) < σ.length := by omega
    have := h.2.2 (j.toNat - c) hi
    rw [show ((c + (j.toNat - c) : Nat) : Int) = j by omega] at this
    rw [this, List.getD_eq_getElem?_getD, List.getElem?_eq_getElem hi]
    exact h7 _ (List.getElem_mem hi)
theorem ADD.T {M : Mem} {r c i : Nat} (hi : i < 13) : ADD M (cpT M r c i (lnS i)) r c (sL i) := by
  refine ⟨fun h e => cpT_ne e, fun j hj => if_neg (fun z => ?_), fun j hj => ?_⟩
  · rw [sL_len i hi] at hj
    omega
  · rw [sL_len i hi] at hj
    unfold cpT
    rw [if_pos ⟨rfl, by omega, by omega⟩, ← sL_at i hi j hj]
    congr 1
    omega
theorem ADD.S {S : Sh} {M : Mem} {r c t r2 : Nat} {σ : List Int} (h : STG S M t r2 σ) (hne : r2 ≠ r) : ADD M (cpM M r c r2 0 σ.length) r c σ := by
  refine ⟨fun h e => cpM_ne e, fun j hj => if_neg (fun z => by omega), fun j hj => ?_⟩
  unfold cpM
  rw [if_pos ⟨rfl, by omega, by omega⟩, show (0 : Int) + (((c + j : Nat) : Int) - c) = (j : Int) by omega]
  exact h.2.2.2.2.1 j hj
/-- digits from place c on -/
def dgM (M : Mem) (r : Nat) (c v : Int) : Mem := if v < 10 then uM M r c (48 + v) else uM (uM M r (c + 1) (48 + v % 10)) r c (48 + v / 10)
theorem dcL_len (v : Int) : ((dcL v).length : Int) = if v < 10 then 1 else 2 := by
  unfold dcL
  split <;> rfl
theorem ADD.D {M : Mem} {r c : Nat} {v : Int} : ADD M (dgM M r c v) r c (dcL v) := by
  have hl := dcL_len v
  unfold dgM
  by_cases h : v < 10
  · rw [if_pos h] at hl
    have ed : dcL v = [48 + v] := if_pos h
    rw [if_pos h]
    refine ⟨fun a e => uM_ne e, fun j hj => uM_k (by omega), fun j hj => ?_⟩
    have : j = 0 := by omega
    subst this
    rw [ed]
    exact uM_at (by omega)
  · rw [if_neg h] at hl
    have ed : dcL v = [48 + v / 10, 48 + v % 10] := if_neg h
    rw [if_neg h]
    refine ⟨fun a e => (uM_ne e).trans (uM_ne e), fun j hj => (uM_k (by omega)).trans (uM_k (by omega)), fun j hj => ?_⟩
    have : j = 0 ∨ j = 1 := by omega
    rcases this with rfl | rfl
    · rw [ed]
      exact uM_at (by omega)
    · rw [ed]
      exact (uM_k (by omega)).trans (uM_at (by omega))
section HLS
variable {S : Sh} {M M' : Mem} {n : Nat} {ls : List (Option V)} {st : List V}
theorem hls_0 : ∀ v, some v ∈ ([] : List (Option V)) → hOK n v := fun v h => absurd h List.not_mem_nil
theorem hls_c {o : Option V} (h : ∀ v, o = some v → hOK n v) (t : ∀ v, some v ∈ ls → hOK n v) : ∀ v, some v ∈ (o :: ls) → hOK n v := fun v hv => (List.mem_cons.mp hv).elim (fun e => h v e.symm) (t v)
theorem hls_N (t : ∀ v, some v ∈ ls → hOK n v) : ∀ v, some v ∈ (none :: ls) → hOK n v := hls_c (fun v e => by cases e) t
theorem hls_I {i : Int} (t : ∀ v, some v ∈ ls → hOK n v) : ∀ v, some v ∈ (some (vI i) :: ls) → hOK n v := hls_c (fun v e => by cases e; trivial) t
theorem hls_R {h : Nat} (hh : h < n) (t : ∀ v, some v ∈ ls → hOK n v) : ∀ v, some v ∈ (some (vR h) :: ls) → hOK n v := hls_c (fun v e => by cases e; exact .inl hh) t
theorem hls_K {h : Nat} (hh : 1000 ≤ h) (t : ∀ v, some v ∈ ls → hOK n v) : ∀ v, some v ∈ (some (vR h) :: ls) → hOK n v := hls_c (fun v e => by cases e; exact .inr hh) t
theorem hst_0 : ∀ v ∈ ([] : List V), hOK n v := fun v h => absurd h List.not_mem_nil
theorem hst_I {i : Int} (t : ∀ v ∈ st, hOK n v) : ∀ v ∈ (vI i :: st), hOK n v := fun v hv => (List.mem_cons.mp hv).elim (fun e => by rw [e]; trivial) (t v)
theorem hst_R {h : Nat} (hh : h < n) (t : ∀ v ∈ st, hOK n v) : ∀ v ∈ (vR h :: st), hOK n v := fun v hv => (List.mem_cons.mp hv).elim (fun e => by rw [e]; exact .inl hh) (t v)
theorem hst_K {h : Nat} (hh : 1000 ≤ h) (t : ∀ v ∈ st, hOK n v) : ∀ v ∈ (vR h :: st), hOK n v := fun v hv => (List.mem_cons.mp hv).elim (fun e => by rw [e]; exact .inr hh) (t v)
theorem RB.row (rb : RB S n M) {r m : Nat} (hk : S.1 r = (22, m)) (h : ∀ a, a ≠ r → M' a = M a) : RB S n M' := fun a j ha c t => by
  by_cases z : a = r
  · rw [z, hk] at c
    exact absurd (show (22 : Nat) < 14 from c) (by decide)
  · rw [h a z]
    exact rb a j ha c t
theorem RB.putI (rb : RB S n M) {b f : Nat} {v : Int} (ht : S.2 (S.1 b).1 f < 2) : RB S n (uM M b f v) := fun a j ha c t => by
  by_cases z : a = b ∧ (j : Int) = f
  · have z2 : j = f := by omega
    rw [z.1, z2] at t
    omega
  · rw [uM_oth z]
    exact rb a j ha c t
/-- a builder that has got a longer row -/
theorem BLD.grow {b r m N : Nat} {τ : List Int} (h : BLD S M b r m τ) (hb : b < n) (hr : r < n) (hm : m ≤ N) (hN : N ≤ 1402) : BLD (push S n (22, N)) (uM (cpM (setR M n (fun _ => 0)) n 0 r 0 m) b 0 n) b n N τ := by
  have hbn : b ≠ n := by omega
  have hrn : r ≠ n := by omega
  have row : ∀ j : Int, 0 ≤ j → j < m → uM (cpM (setR M n (fun _ => 0)) n 0 r 0 m) b 0 n n j = M r j := fun j a c => by
    rw [uM_h (Ne.symm hbn)]
    unfold cpM
    rw [if_pos ⟨rfl, a, by omega⟩, setR_o hrn]
    congr 1
    omega
  have old : ∀ j, uM (cpM (setR M n (fun _ => 0)) n 0 r 0 m) b 0 n b j = if j = 0 then (n : Int) else M b j := fun j => by
    by_cases z : j = 0
    · rw [if_pos z, uM_at z]
    · rw [if_neg z, uM_k z, cpM_h hbn, setR_o hbn]
  refine ⟨(push_o hbn).trans h.1, push_s, uM_same, (old 1).trans h.2.2.2.1, (old 3).trans h.2.2.2.2.1, ⟨Nat.le_trans h.2.2.2.2.2.1.1 hm, hN⟩, fun j j0 j1 => ?_, fun j hj => ?_⟩
  · by_cases c : j < m
    · rw [row j j0 c]
      exact h.2.2.2.2.2.2.1 j j0 c
    · rw [uM_h (Ne.symm hbn)]
      unfold cpM
      rw [if_neg (fun z => by omega), setR_s]
      exact ⟨by decide, by decide⟩
  · rw [row j (by omega) (by have := h.2.2.2.2.2.1.1; omega)]
    exact h.2.2.2.2.2.2.2 j hj
/-- .. or to whose text something was added -/
theorem BLD.add {b r m : Nat} {τ σ : List Int} (h : BLD S M b r m τ) (hA : ADD M M' r τ.length σ) (h7 : tx7 σ) (hm : τ.length + σ.length ≤ m) {v : Int} (hv : v = ((τ ++ σ).length : Int)) : BLD S (uM M' b 3 v) b r m (τ ++ σ) := by
  have hne := h.ne
  have hl : (τ ++ σ).length = τ.length + σ.length := List.length_append
  have e1 : M' b = M b := hA.1 b hne
  have er : uM M' b 3 v r = M' r := uM_ne (Ne.symm hne)
  refine ⟨h.1, h.2.1, (uM_k (by decide)).trans ((congrFun e1 0).trans h.2.2.1), (uM_k (by decide)).trans ((congrFun e1 1).trans h.2.2.2.1), uM_same.trans hv, ⟨by omega, h.2.2.2.2.2.1.2⟩, ?_, ?_⟩
  · intro j a c
    rw [er]
    exact hA.by h7 h.2.2.2.2.2.2.1 j a c
  · intro j hj
    rw [er]
    exact hA.row h.2.2.2.2.2.2.2 j hj
theorem BLD.keep {S' : Sh} {b r m k : Nat} {τ : List Int} (h : BLD S M b r m τ) (hb : b < k) (hr : r < k) (hS : ∀ h, h < k → S'.1 h = S.1 h) (e1 : M' b = M b) (e2 : M' r = M r) : BLD S' M' b r m τ := by
  unfold BLD ROWT BY
  rw [hS b hb, hS r hr, e1, e2]
  exact h
end HLS

theorem flS_15 : FL RJ0 15 12 1 1 true := ⟨_, _, _, _, cl_12, by decide, Ts_in (in_t6 _ (List.mem_of_getElem? (i := 1) rfl)) rfl, by decide +kernel, rfl⟩
theorem flS_9 : FL RJ0 9 12 0 2 true := ⟨_, _, _, _, cl_12, by decide, Ts_in (in_t6 _ (List.mem_of_getElem? (i := 0) rfl)) rfl, by decide +kernel, rfl⟩
theorem fwAB_18 : Cond.fieldLink RJ5 18 "java/lang/String" "COMPACT_STRINGS" "Z" ∈ Ts := Ts_in (in_t5 _ (List.mem_of_getElem? (i := 51) rfl)) rfl
theorem flAB_22 : FL RJ5 22 13 1 1 false := ⟨_, _, _, _, cl_13, by decide, Ts_in (in_t5 _ (List.mem_of_getElem? (i := 60) rfl)) rfl, by decide +kernel, rfl⟩
abbrev mAB_isLatin1_aae02 : Mt := (yJ5_isLatin1_aae02, cJ5_isLatin1_aae02, 1, (some FieldType.boolean))
theorem dAB_isLatin1_aae02_0 : decode cJ5_isLatin1_aae02 0 = .ok (.getstatic 18, 3) := by decide +kernel
theorem dAB_isLatin1_aae02_3 : decode cJ5_isLatin1_aae02 3 = .ok (.ifCond .eq 14, 3) := by decide +kernel
theorem dAB_isLatin1_aae02_6 : decode cJ5_isLatin1_aae02 6 = .ok (.aload_n 0, 1) := by decide +kernel
theorem dAB_isLatin1_aae02_7 : decode cJ5_isLatin1_aae02 7 = .ok (.getfield 22, 3) := by decide +kernel
theorem dAB_isLatin1_aae02_10 : decode cJ5_isLatin1_aae02 10 = .ok (.ifCond .ne 7, 3) := by decide +kernel
theorem dAB_isLatin1_aae02_13 : decode cJ5_isLatin1_aae02 13 = .ok (.iconst 1, 1) := by decide +kernel
theorem dAB_isLatin1_aae02_14 : decode cJ5_isLatin1_aae02 14 = .ok (.goto 4, 3) := by decide +kernel
theorem dAB_isLatin1_aae02_18 : decode cJ5_isLatin1_aae02 18 = .ok (.ireturn, 1) := by decide +kernel
theorem flAB_79 : FL RJ5 79 13 3 0 false := ⟨_, _, _, _, cl_13, by decide, Ts_in (in_t5 _ (List.mem_of_getElem? (i := 62) rfl)) rfl, by decide +kernel, rfl⟩
abbrev mAB_length_8abf5 : Mt := (yJ5_length_8abf5, cJ5_length_8abf5, 1, (some FieldType.int))
theorem dAB_length_8abf5_0 : decode cJ5_length_8abf5 0 = .ok (.aload_n 0, 1) := by decide +kernel
theorem dAB_length_8abf5_1 : decode cJ5_length_8abf5 1 = .ok (.getfield 79, 3) := by decide +kernel
theorem dAB_length_8abf5_4 : decode cJ5_length_8abf5 4 = .ok (.ireturn, 1) := by decide +kernel
theorem mumAB_length_8abf5s : MU RJ4 mAB_length_8abf5 0 := ⟨Ts_in (in_t5 _ (List.mem_of_getElem? (i := 219) rfl)) rfl, Ts_in (in_t1 _ (List.mem_of_getElem? (i := 13) rfl)) rfl, ⟨by decide +kernel, by decide +kernel, by decide +kernel⟩, Ts_in (in_t5 _ (List.mem_of_getElem? (i := 214) rfl)) rfl, Ts_in (in_t5 _ (List.mem_of_getElem? (i := 213) rfl)) rfl, .inr ⟨by decide, Ts_in (in_t5 _ (List.mem_of_getElem? (i := 71) rfl)) rfl⟩⟩
theorem su_SB : Cond.superclass RJ4 RJ5 ∈ Ts := Ts_in (in_t5 _ (List.mem_of_getElem? (i := 71) rfl)) rfl
theorem mlSB_343 : Cond.methodLink RJ4 343 mAB_length_8abf5.1 ∈ Ts := Ts_in (in_t5 _ (List.mem_of_getElem? (i := 218) rfl)) rfl
abbrev mSB_length_8abf5 : Mt := (yJ4_length_8abf5, cJ4_length_8abf5, 1, (some FieldType.int))
theorem dSB_length_8abf5_0 : decode cJ4_length_8abf5 0 = .ok (.aload_n 0, 1) := by decide +kernel
theorem dSB_length_8abf5_1 : decode cJ4_length_8abf5 1 = .ok (.invokespecial 343, 3) := by decide +kernel
theorem dSB_length_8abf5_4 : decode cJ4_length_8abf5 4 = .ok (.ireturn, 1) := by decide +kernel
theorem flAB_15 : FL RJ5 15 13 0 2 false := ⟨_, _, _, _, cl_13, by decide, Ts_in (in_t5 _ (List.mem_of_getElem? (i := 59) rfl)) rfl, by decide +kernel, rfl⟩
abbrev mAB_getValue_6d5f1 : Mt := (yJ5_getValue_6d5f1, cJ5_getValue_6d5f1, 1, (some (FieldType.array FieldType.byte)))
theorem dAB_getValue_6d5f1_0 : decode cJ5_getValue_6d5f1 0 = .ok (.aload_n 0, 1) := by decide +kernel
theorem dAB_getValue_6d5f1_1 : decode cJ5_getValue_6d5f1 1 = .ok (.getfield 15, 3) := by decide +kernel
theorem dAB_getValue_6d5f1_4 : decode cJ5_getValue_6d5f1 4 = .ok (.areturn, 1) := by decide +kernel
abbrev mS_coder_7d493 : Mt := (yJ0_coder_7d493, cJ0_coder_7d493, 1, (some FieldType.byte))
theorem mlAB_40 : Cond.methodLink RJ5 40 mS_coder_7d493.1 ∈ Ts := Ts_in (in_t5 _ (List.mem_of_getElem? (i := 141) rfl)) rfl
abbrev mAB_inflateIfNeededFor_a7421 : Mt := (yJ5_inflateIfNeededFor_a7421, cJ5_inflateIfNeededFor_a7421, 2, (none : Option FieldType))
theorem dAB_inflateIfNeededFor_a7421_0 : decode cJ5_inflateIfNeededFor_a7421 0 = .ok (.getstatic 18, 3) := by decide +kernel
theorem dAB_inflateIfNeededFor_a7421_3 : decode cJ5_inflateIfNeededFor_a7421 3 = .ok (.ifCond .eq 18, 3) := by decide +kernel
theorem dAB_inflateIfNeededFor_a7421_6 : decode cJ5_inflateIfNeededFor_a7421 6 = .ok (.aload_n 0, 1) := by decide +kernel
theorem dAB_inflateIfNeededFor_a7421_7 : decode cJ5_inflateIfNeededFor_a7421 7 = .ok (.getfield 22, 3) := by decide +kernel
theorem dAB_inflateIfNeededFor_a7421_10 : decode cJ5_inflateIfNeededFor_a7421 10 = .ok (.aload_n 1, 1) := by decide +kernel
theorem dAB_inflateIfNeededFor_a7421_11 : decode cJ5_inflateIfNeededFor_a7421 11 = .ok (.invokevirtual 40, 3) := by decide +kernel
theorem dAB_inflateIfNeededFor_a7421_14 : decode cJ5_inflateIfNeededFor_a7421 14 = .ok (.if_icmp .eq 7, 3) := by decide +kernel
theorem dAB_inflateIfNeededFor_a7421_21 : decode cJ5_inflateIfNeededFor_a7421 21 = .ok (.return_, 1) := by decide +kernel
theorem mlS_212 : Cond.methodLink RJ0 212 arraycopyName ∈ Ts := Ts_in (in_t5 _ (List.mem_of_getElem? (i := 165) rfl)) rfl
abbrev mS_getBytes_840e7 : Mt := (yJ0_getBytes_840e7, cJ0_getBytes_840e7, 4, (none : Option FieldType))
theorem dS_getBytes_840e7_0 : decode cJ0_getBytes_840e7 0 = .ok (.aload_n 0, 1) := by decide +kernel
theorem dS_getBytes_840e7_1 : decode cJ0_getBytes_840e7 1 = .ok (.invokevirtual 335, 3) := by decide +kernel
theorem dS_getBytes_840e7_4 : decode cJ0_getBytes_840e7 4 = .ok (.iload_n 3, 1) := by decide +kernel
theorem dS_getBytes_840e7_5 : decode cJ0_getBytes_840e7 5 = .ok (.if_icmp .ne 23, 3) := by decide +kernel
theorem dS_getBytes_840e7_8 : decode cJ0_getBytes_840e7 8 = .ok (.aload_n 0, 1) := by decide +kernel
theorem dS_getBytes_840e7_9 : decode cJ0_getBytes_840e7 9 = .ok (.getfield 9, 3) := by decide +kernel
theorem dS_getBytes_840e7_12 : decode cJ0_getBytes_840e7 12 = .ok (.iconst 0, 1) := by decide +kernel
theorem dS_getBytes_840e7_13 : decode cJ0_getBytes_840e7 13 = .ok (.aload_n 1, 1) := by decide +kernel
theorem dS_getBytes_840e7_14 : decode cJ0_getBytes_840e7 14 = .ok (.iload_n 2, 1) := by decide +kernel
theorem dS_getBytes_840e7_15 : decode cJ0_getBytes_840e7 15 = .ok (.iload_n 3, 1) := by decide +kernel
theorem dS_getBytes_840e7_16 : decode cJ0_getBytes_840e7 16 = .ok (.ishl, 1) := by decide +kernel
theorem dS_getBytes_840e7_17 : decode cJ0_getBytes_840e7 17 = .ok (.aload_n 0, 1) := by decide +kernel
theorem dS_getBytes_840e7_18 : decode cJ0_getBytes_840e7 18 = .ok (.getfield 9, 3) := by decide +kernel
theorem dS_getBytes_840e7_21 : decode cJ0_getBytes_840e7 21 = .ok (.arraylength, 1) := by decide +kernel
theorem dS_getBytes_840e7_22 : decode cJ0_getBytes_840e7 22 = .ok (.invokestatic 212, 3) := by decide +kernel
theorem dS_getBytes_840e7_25 : decode cJ0_getBytes_840e7 25 = .ok (.goto 18, 3) := by decide +kernel
theorem dS_getBytes_840e7_43 : decode cJ0_getBytes_840e7 43 = .ok (.return_, 1) := by decide +kernel
theorem momS_getBytes_840e7 : MO mS_getBytes_840e7 3 false := ⟨Ts_in (in_t5 _ (List.mem_of_getElem? (i := 164) rfl)) rfl, Ts_in (in_t1 _ (List.mem_of_getElem? (i := 15) rfl)) rfl, ⟨by decide +kernel, by decide +kernel, by decide +kernel⟩, ⟨Ts_in (in_t5 _ (List.mem_of_getElem? (i := 162) rfl)) rfl, Ts_in (in_t5 _ (List.mem_of_getElem? (i := 163) rfl)) rfl⟩⟩
theorem mlAB_399 : Cond.methodLink RJ5 399 mS_getBytes_840e7.1 ∈ Ts := Ts_in (in_t5 _ (List.mem_of_getElem? (i := 161) rfl)) rfl
theorem semAB_inflateIfNeededFor_a7421 : Cond.selects RJ4 mAB_inflateIfNeededFor_a7421.1 mAB_inflateIfNeededFor_a7421.1 ∈ Ts := List.mem_filter.mpr ⟨List.mem_append_right _ (List.mem_of_getElem? (i := 3) rfl), rfl⟩
theorem mumAB_inflateIfNeededFor_a7421 : MU RJ4 mAB_inflateIfNeededFor_a7421 1 := ⟨Ts_in (in_t5 _ (List.mem_of_getElem? (i := 140) rfl)) rfl, Ts_in (in_t1 _ (List.mem_of_getElem? (i := 13) rfl)) rfl, ⟨by decide +kernel, by decide +kernel, by decide +kernel⟩, Ts_in (in_t6 _ (List.mem_of_getElem? (i := 230) rfl)) rfl, Ts_in (in_t5 _ (List.mem_of_getElem? (i := 139) rfl)) rfl, .inl semAB_inflateIfNeededFor_a7421⟩
theorem mlAB_397 : Cond.methodLink RJ5 397 mAB_inflateIfNeededFor_a7421.1 ∈ Ts := Ts_in (in_t5 _ (List.mem_of_getElem? (i := 137) rfl)) rfl
abbrev mAB_putStringAt_47b60 : Mt := (yJ5_putStringAt_47b60, cJ5_putStringAt_47b60, 3, (none : Option FieldType))
theorem dAB_putStringAt_47b60_0 : decode cJ5_putStringAt_47b60 0 = .ok (.aload_n 0, 1) := by decide +kernel
theorem dAB_putStringAt_47b60_1 : decode cJ5_putStringAt_47b60 1 = .ok (.aload_n 2, 1) := by decide +kernel
theorem dAB_putStringAt_47b60_2 : decode cJ5_putStringAt_47b60 2 = .ok (.invokevirtual 397, 3) := by decide +kernel
theorem dAB_putStringAt_47b60_5 : decode cJ5_putStringAt_47b60 5 = .ok (.aload_n 2, 1) := by decide +kernel
theorem dAB_putStringAt_47b60_6 : decode cJ5_putStringAt_47b60 6 = .ok (.aload_n 0, 1) := by decide +kernel
theorem dAB_putStringAt_47b60_7 : decode cJ5_putStringAt_47b60 7 = .ok (.getfield 15, 3) := by decide +kernel
theorem dAB_putStringAt_47b60_10 : decode cJ5_putStringAt_47b60 10 = .ok (.iload_n 1, 1) := by decide +kernel
theorem dAB_putStringAt_47b60_11 : decode cJ5_putStringAt_47b60 11 = .ok (.aload_n 0, 1) := by decide +kernel
theorem dAB_putStringAt_47b60_12 : decode cJ5_putStringAt_47b60 12 = .ok (.getfield 22, 3) := by decide +kernel
theorem dAB_putStringAt_47b60_15 : decode cJ5_putStringAt_47b60 15 = .ok (.invokevirtual 399, 3) := by decide +kernel
theorem dAB_putStringAt_47b60_18 : decode cJ5_putStringAt_47b60 18 = .ok (.return_, 1) := by decide +kernel
theorem ckAS_200 : Cond.constant RJ8 200 (2147483639 : Int32) ∈ Ts := Ts_in (in_t5 _ (List.mem_of_getElem? (i := 95) rfl)) rfl
theorem ckAB_39 : Cond.constant RJ5 39 (2147483647 : Int32) ∈ Ts := Ts_in (in_t5 _ (List.mem_of_getElem? (i := 99) rfl)) rfl
theorem mlAS_194 : Cond.methodLink RJ8 194 Lib.Math.max.name ∈ Ts := Ts_in (in_t5 _ (List.mem_of_getElem? (i := 94) rfl)) rfl
abbrev mAS_newLength_cabcc : Mt := (yJ8_newLength_cabcc, cJ8_newLength_cabcc, 4, (some FieldType.int))
theorem dAS_newLength_cabcc_0 : decode cJ8_newLength_cabcc 0 = .ok (.iload_n 0, 1) := by decide +kernel
theorem dAS_newLength_cabcc_1 : decode cJ8_newLength_cabcc 1 = .ok (.iload_n 1, 1) := by decide +kernel
theorem dAS_newLength_cabcc_2 : decode cJ8_newLength_cabcc 2 = .ok (.iload_n 2, 1) := by decide +kernel
theorem dAS_newLength_cabcc_3 : decode cJ8_newLength_cabcc 3 = .ok (.invokestatic 194, 3) := by decide +kernel
theorem dAS_newLength_cabcc_6 : decode cJ8_newLength_cabcc 6 = .ok (.iadd, 1) := by decide +kernel
theorem dAS_newLength_cabcc_7 : decode cJ8_newLength_cabcc 7 = .ok (.istore_n 3, 1) := by decide +kernel
theorem dAS_newLength_cabcc_8 : decode cJ8_newLength_cabcc 8 = .ok (.iconst 0, 1) := by decide +kernel
theorem dAS_newLength_cabcc_9 : decode cJ8_newLength_cabcc 9 = .ok (.iload_n 3, 1) := by decide +kernel
theorem dAS_newLength_cabcc_10 : decode cJ8_newLength_cabcc 10 = .ok (.if_icmp .ge 11, 3) := by decide +kernel
theorem dAS_newLength_cabcc_13 : decode cJ8_newLength_cabcc 13 = .ok (.iload_n 3, 1) := by decide +kernel
theorem dAS_newLength_cabcc_14 : decode cJ8_newLength_cabcc 14 = .ok (.ldc 200, 2) := by decide +kernel
theorem dAS_newLength_cabcc_16 : decode cJ8_newLength_cabcc 16 = .ok (.if_icmp .gt 5, 3) := by decide +kernel
theorem dAS_newLength_cabcc_19 : decode cJ8_newLength_cabcc 19 = .ok (.iload_n 3, 1) := by decide +kernel
theorem dAS_newLength_cabcc_20 : decode cJ8_newLength_cabcc 20 = .ok (.ireturn, 1) := by decide +kernel
theorem momAS_newLength_cabcc : MO mAS_newLength_cabcc 3 true := ⟨Ts_in (in_t5 _ (List.mem_of_getElem? (i := 93) rfl)) rfl, Ts_in (in_t1 _ (List.mem_of_getElem? (i := 17) rfl)) rfl, ⟨by decide +kernel, by decide +kernel, by decide +kernel⟩, Ts_in (in_t5 _ (List.mem_of_getElem? (i := 92) rfl)) rfl⟩
theorem mlAB_114 : Cond.methodLink RJ5 114 mAS_newLength_cabcc.1 ∈ Ts := Ts_in (in_t5 _ (List.mem_of_getElem? (i := 91) rfl)) rfl
abbrev mAB_newCapacity_0f7a4 : Mt := (yJ5_newCapacity_0f7a4, cJ5_newCapacity_0f7a4, 6, (some FieldType.int))
theorem dAB_newCapacity_0f7a4_0 : decode cJ5_newCapacity_0f7a4 0 = .ok (.aload_n 0, 1) := by decide +kernel
theorem dAB_newCapacity_0f7a4_1 : decode cJ5_newCapacity_0f7a4 1 = .ok (.getfield 15, 3) := by decide +kernel
theorem dAB_newCapacity_0f7a4_4 : decode cJ5_newCapacity_0f7a4 4 = .ok (.arraylength, 1) := by decide +kernel
theorem dAB_newCapacity_0f7a4_5 : decode cJ5_newCapacity_0f7a4 5 = .ok (.istore_n 2, 1) := by decide +kernel
theorem dAB_newCapacity_0f7a4_6 : decode cJ5_newCapacity_0f7a4 6 = .ok (.iload_n 1, 1) := by decide +kernel
theorem dAB_newCapacity_0f7a4_7 : decode cJ5_newCapacity_0f7a4 7 = .ok (.aload_n 0, 1) := by decide +kernel
theorem dAB_newCapacity_0f7a4_8 : decode cJ5_newCapacity_0f7a4 8 = .ok (.getfield 22, 3) := by decide +kernel
theorem dAB_newCapacity_0f7a4_11 : decode cJ5_newCapacity_0f7a4 11 = .ok (.ishl, 1) := by decide +kernel
theorem dAB_newCapacity_0f7a4_12 : decode cJ5_newCapacity_0f7a4 12 = .ok (.istore_n 3, 1) := by decide +kernel
theorem dAB_newCapacity_0f7a4_13 : decode cJ5_newCapacity_0f7a4 13 = .ok (.iload_n 3, 1) := by decide +kernel
theorem dAB_newCapacity_0f7a4_14 : decode cJ5_newCapacity_0f7a4 14 = .ok (.iload_n 2, 1) := by decide +kernel
theorem dAB_newCapacity_0f7a4_15 : decode cJ5_newCapacity_0f7a4 15 = .ok (.isub, 1) := by decide +kernel
theorem dAB_newCapacity_0f7a4_16 : decode cJ5_newCapacity_0f7a4 16 = .ok (.istore 4, 2) := by decide +kernel
theorem dAB_newCapacity_0f7a4_18 : decode cJ5_newCapacity_0f7a4 18 = .ok (.iload_n 2, 1) := by decide +kernel
theorem dAB_newCapacity_0f7a4_19 : decode cJ5_newCapacity_0f7a4 19 = .ok (.iload 4, 2) := by decide +kernel
theorem dAB_newCapacity_0f7a4_21 : decode cJ5_newCapacity_0f7a4 21 = .ok (.iload_n 2, 1) := by decide +kernel
theorem dAB_newCapacity_0f7a4_22 : decode cJ5_newCapacity_0f7a4 22 = .ok (.iconst 2, 1) := by decide +kernel
theorem dAB_newCapacity_0f7a4_23 : decode cJ5_newCapacity_0f7a4 23 = .ok (.aload_n 0, 1) := by decide +kernel
theorem dAB_newCapacity_0f7a4_24 : decode cJ5_newCapacity_0f7a4 24 = .ok (.getfield 22, 3) := by decide +kernel
theorem dAB_newCapacity_0f7a4_27 : decode cJ5_newCapacity_0f7a4 27 = .ok (.ishl, 1) := by decide +kernel
theorem dAB_newCapacity_0f7a4_28 : decode cJ5_newCapacity_0f7a4 28 = .ok (.iadd, 1) := by decide +kernel
theorem dAB_newCapacity_0f7a4_29 : decode cJ5_newCapacity_0f7a4 29 = .ok (.invokestatic 114, 3) := by decide +kernel
theorem dAB_newCapacity_0f7a4_32 : decode cJ5_newCapacity_0f7a4 32 = .ok (.istore 5, 2) := by decide +kernel
theorem dAB_newCapacity_0f7a4_34 : decode cJ5_newCapacity_0f7a4 34 = .ok (.iload 5, 2) := by decide +kernel
theorem dAB_newCapacity_0f7a4_36 : decode cJ5_newCapacity_0f7a4 36 = .ok (.ldc 39, 2) := by decide +kernel
theorem dAB_newCapacity_0f7a4_38 : decode cJ5_newCapacity_0f7a4 38 = .ok (.if_icmp .ne 13, 3) := by decide +kernel
theorem dAB_newCapacity_0f7a4_51 : decode cJ5_newCapacity_0f7a4 51 = .ok (.iload 5, 2) := by decide +kernel
theorem dAB_newCapacity_0f7a4_53 : decode cJ5_newCapacity_0f7a4 53 = .ok (.aload_n 0, 1) := by decide +kernel
theorem dAB_newCapacity_0f7a4_54 : decode cJ5_newCapacity_0f7a4 54 = .ok (.getfield 22, 3) := by decide +kernel
theorem dAB_newCapacity_0f7a4_57 : decode cJ5_newCapacity_0f7a4 57 = .ok (.ishr, 1) := by decide +kernel
theorem dAB_newCapacity_0f7a4_58 : decode cJ5_newCapacity_0f7a4 58 = .ok (.ireturn, 1) := by decide +kernel
theorem dIN_stringSize_0f7a4_24 : decode cJ6_stringSize_0f7a4 24 = .ok (.if_icmp .le 7, 3) := by decide +kernel
theorem dIN_stringSize_0f7a4_27 : decode cJ6_stringSize_0f7a4 27 = .ok (.iload_n 3, 1) := by decide +kernel
theorem dIN_stringSize_0f7a4_28 : decode cJ6_stringSize_0f7a4 28 = .ok (.iload_n 1, 1) := by decide +kernel
theorem dIN_stringSize_0f7a4_29 : decode cJ6_stringSize_0f7a4 29 = .ok (.iadd, 1) := by decide +kernel
theorem dIN_stringSize_0f7a4_30 : decode cJ6_stringSize_0f7a4 30 = .ok (.ireturn, 1) := by decide +kernel
abbrev mIN_stringSize_0f7a4 : Mt := (yJ6_stringSize_0f7a4, cJ6_stringSize_0f7a4, 4, (some FieldType.int))
theorem dIN_stringSize_0f7a4_0 : decode cJ6_stringSize_0f7a4 0 = .ok (.iconst 1, 1) := by decide +kernel
theorem dIN_stringSize_0f7a4_1 : decode cJ6_stringSize_0f7a4 1 = .ok (.istore_n 1, 1) := by decide +kernel
theorem dIN_stringSize_0f7a4_2 : decode cJ6_stringSize_0f7a4 2 = .ok (.iload_n 0, 1) := by decide +kernel
theorem dIN_stringSize_0f7a4_3 : decode cJ6_stringSize_0f7a4 3 = .ok (.ifCond .lt 8, 3) := by decide +kernel
theorem dIN_stringSize_0f7a4_6 : decode cJ6_stringSize_0f7a4 6 = .ok (.iconst 0, 1) := by decide +kernel
theorem dIN_stringSize_0f7a4_7 : decode cJ6_stringSize_0f7a4 7 = .ok (.istore_n 1, 1) := by decide +kernel
theorem dIN_stringSize_0f7a4_8 : decode cJ6_stringSize_0f7a4 8 = .ok (.iload_n 0, 1) := by decide +kernel
theorem dIN_stringSize_0f7a4_9 : decode cJ6_stringSize_0f7a4 9 = .ok (.ineg, 1) := by decide +kernel
theorem dIN_stringSize_0f7a4_10 : decode cJ6_stringSize_0f7a4 10 = .ok (.istore_n 0, 1) := by decide +kernel
theorem dIN_stringSize_0f7a4_11 : decode cJ6_stringSize_0f7a4 11 = .ok (.bipush (-10), 2) := by decide +kernel
theorem dIN_stringSize_0f7a4_13 : decode cJ6_stringSize_0f7a4 13 = .ok (.istore_n 2, 1) := by decide +kernel
theorem dIN_stringSize_0f7a4_14 : decode cJ6_stringSize_0f7a4 14 = .ok (.iconst 1, 1) := by decide +kernel
theorem dIN_stringSize_0f7a4_15 : decode cJ6_stringSize_0f7a4 15 = .ok (.istore_n 3, 1) := by decide +kernel
theorem dIN_stringSize_0f7a4_16 : decode cJ6_stringSize_0f7a4 16 = .ok (.iload_n 3, 1) := by decide +kernel
theorem dIN_stringSize_0f7a4_17 : decode cJ6_stringSize_0f7a4 17 = .ok (.bipush 10, 2) := by decide +kernel
theorem dIN_stringSize_0f7a4_19 : decode cJ6_stringSize_0f7a4 19 = .ok (.if_icmp .ge 23, 3) := by decide +kernel
theorem dIN_stringSize_0f7a4_22 : decode cJ6_stringSize_0f7a4 22 = .ok (.iload_n 0, 1) := by decide +kernel
theorem dIN_stringSize_0f7a4_23 : decode cJ6_stringSize_0f7a4 23 = .ok (.iload_n 2, 1) := by decide +kernel
theorem dIN_stringSize_0f7a4_31 : decode cJ6_stringSize_0f7a4 31 = .ok (.bipush 10, 2) := by decide +kernel
theorem dIN_stringSize_0f7a4_33 : decode cJ6_stringSize_0f7a4 33 = .ok (.iload_n 2, 1) := by decide +kernel
theorem dIN_stringSize_0f7a4_34 : decode cJ6_stringSize_0f7a4 34 = .ok (.imul, 1) := by decide +kernel
theorem dIN_stringSize_0f7a4_35 : decode cJ6_stringSize_0f7a4 35 = .ok (.istore_n 2, 1) := by decide +kernel
theorem dIN_stringSize_0f7a4_36 : decode cJ6_stringSize_0f7a4 36 = .ok (.iinc 3 1, 3) := by decide +kernel
theorem dIN_stringSize_0f7a4_39 : decode cJ6_stringSize_0f7a4 39 = .ok (.goto (-23), 3) := by decide +kernel
theorem dIN_getChars_ba4f3_88 : decode cJ6_getChars_ba4f3 88 = .ok (.if_icmp .ge 16, 3) := by decide +kernel
theorem fwIN_83 : Cond.fieldLink RJ6 83 "java/lang/Integer" "DigitOnes" "[B" ∈ Ts := Ts_in (in_t5 _ (List.mem_of_getElem? (i := 181) rfl)) rfl
theorem fwIN_87 : Cond.fieldLink RJ6 87 "java/lang/Integer" "DigitTens" "[B" ∈ Ts := Ts_in (in_t5 _ (List.mem_of_getElem? (i := 183) rfl)) rfl
abbrev mIN_getChars_ba4f3 : Mt := (yJ6_getChars_ba4f3, cJ6_getChars_ba4f3, 7, (some FieldType.int))
theorem dIN_getChars_ba4f3_0 : decode cJ6_getChars_ba4f3 0 = .ok (.iload_n 1, 1) := by decide +kernel
theorem dIN_getChars_ba4f3_1 : decode cJ6_getChars_ba4f3 1 = .ok (.istore 5, 2) := by decide +kernel
theorem dIN_getChars_ba4f3_3 : decode cJ6_getChars_ba4f3 3 = .ok (.iload_n 0, 1) := by decide +kernel
theorem dIN_getChars_ba4f3_4 : decode cJ6_getChars_ba4f3 4 = .ok (.ifCond .ge 7, 3) := by decide +kernel
theorem dIN_getChars_ba4f3_11 : decode cJ6_getChars_ba4f3 11 = .ok (.iconst 0, 1) := by decide +kernel
theorem dIN_getChars_ba4f3_12 : decode cJ6_getChars_ba4f3 12 = .ok (.istore 6, 2) := by decide +kernel
theorem dIN_getChars_ba4f3_14 : decode cJ6_getChars_ba4f3 14 = .ok (.iload 6, 2) := by decide +kernel
theorem dIN_getChars_ba4f3_16 : decode cJ6_getChars_ba4f3 16 = .ok (.ifCond .ne 6, 3) := by decide +kernel
theorem dIN_getChars_ba4f3_19 : decode cJ6_getChars_ba4f3 19 = .ok (.iload_n 0, 1) := by decide +kernel
theorem dIN_getChars_ba4f3_20 : decode cJ6_getChars_ba4f3 20 = .ok (.ineg, 1) := by decide +kernel
theorem dIN_getChars_ba4f3_21 : decode cJ6_getChars_ba4f3 21 = .ok (.istore_n 0, 1) := by decide +kernel
theorem dIN_getChars_ba4f3_22 : decode cJ6_getChars_ba4f3 22 = .ok (.iload_n 0, 1) := by decide +kernel
theorem dIN_getChars_ba4f3_23 : decode cJ6_getChars_ba4f3 23 = .ok (.bipush (-100), 2) := by decide +kernel
theorem dIN_getChars_ba4f3_25 : decode cJ6_getChars_ba4f3 25 = .ok (.if_icmp .gt 47, 3) := by decide +kernel
theorem dIN_getChars_ba4f3_72 : decode cJ6_getChars_ba4f3 72 = .ok (.aload_n 2, 1) := by decide +kernel
theorem dIN_getChars_ba4f3_73 : decode cJ6_getChars_ba4f3 73 = .ok (.iinc 5 (-1), 3) := by decide +kernel
theorem dIN_getChars_ba4f3_76 : decode cJ6_getChars_ba4f3 76 = .ok (.iload 5, 2) := by decide +kernel
theorem dIN_getChars_ba4f3_78 : decode cJ6_getChars_ba4f3 78 = .ok (.getstatic 83, 3) := by decide +kernel
theorem dIN_getChars_ba4f3_81 : decode cJ6_getChars_ba4f3 81 = .ok (.iload_n 0, 1) := by decide +kernel
theorem dIN_getChars_ba4f3_82 : decode cJ6_getChars_ba4f3 82 = .ok (.ineg, 1) := by decide +kernel
theorem dIN_getChars_ba4f3_83 : decode cJ6_getChars_ba4f3 83 = .ok (.baload, 1) := by decide +kernel
theorem dIN_getChars_ba4f3_84 : decode cJ6_getChars_ba4f3 84 = .ok (.bastore, 1) := by decide +kernel
theorem dIN_getChars_ba4f3_85 : decode cJ6_getChars_ba4f3 85 = .ok (.iload_n 0, 1) := by decide +kernel
theorem dIN_getChars_ba4f3_86 : decode cJ6_getChars_ba4f3 86 = .ok (.bipush (-9), 2) := by decide +kernel
theorem dIN_getChars_ba4f3_91 : decode cJ6_getChars_ba4f3 91 = .ok (.aload_n 2, 1) := by decide +kernel
theorem dIN_getChars_ba4f3_92 : decode cJ6_getChars_ba4f3 92 = .ok (.iinc 5 (-1), 3) := by decide +kernel
theorem dIN_getChars_ba4f3_95 : decode cJ6_getChars_ba4f3 95 = .ok (.iload 5, 2) := by decide +kernel
theorem dIN_getChars_ba4f3_97 : decode cJ6_getChars_ba4f3 97 = .ok (.getstatic 87, 3) := by decide +kernel
theorem dIN_getChars_ba4f3_100 : decode cJ6_getChars_ba4f3 100 = .ok (.iload_n 0, 1) := by decide +kernel
theorem dIN_getChars_ba4f3_101 : decode cJ6_getChars_ba4f3 101 = .ok (.ineg, 1) := by decide +kernel
theorem dIN_getChars_ba4f3_102 : decode cJ6_getChars_ba4f3 102 = .ok (.baload, 1) := by decide +kernel
theorem dIN_getChars_ba4f3_103 : decode cJ6_getChars_ba4f3 103 = .ok (.bastore, 1) := by decide +kernel
theorem dIN_getChars_ba4f3_104 : decode cJ6_getChars_ba4f3 104 = .ok (.iload 6, 2) := by decide +kernel
theorem dIN_getChars_ba4f3_106 : decode cJ6_getChars_ba4f3 106 = .ok (.ifCond .eq 12, 3) := by decide +kernel
theorem dIN_getChars_ba4f3_118 : decode cJ6_getChars_ba4f3 118 = .ok (.iload 5, 2) := by decide +kernel
theorem dIN_getChars_ba4f3_120 : decode cJ6_getChars_ba4f3 120 = .ok (.ireturn, 1) := by decide +kernel
theorem w_arrB : Cond.arrayClass FieldType.byte ∈ Ts := Ts_in (in_t1 _ (List.mem_of_getElem? (i := 58) rfl)) rfl
theorem w_arrI : Cond.arrayClass FieldType.int ∈ Ts := Ts_in (in_t1 _ (List.mem_of_getElem? (i := 59) rfl)) rfl
theorem mlAR_304 : Cond.methodLink RJ7 304 Lib.Math.min.name ∈ Ts := Ts_in (in_t5 _ (List.mem_of_getElem? (i := 110) rfl)) rfl
theorem mlAR_150 : Cond.methodLink RJ7 150 arraycopyName ∈ Ts := Ts_in (in_t5 _ (List.mem_of_getElem? (i := 111) rfl)) rfl
abbrev mAR_copyOf_9075b : Mt := (yJ7_copyOf_9075b, cJ7_copyOf_9075b, 3, (some (FieldType.array FieldType.byte)))
theorem dAR_copyOf_9075b_0 : decode cJ7_copyOf_9075b 0 = .ok (.iload_n 1, 1) := by decide +kernel
theorem dAR_copyOf_9075b_1 : decode cJ7_copyOf_9075b 1 = .ok (.aload_n 0, 1) := by decide +kernel
theorem dAR_copyOf_9075b_2 : decode cJ7_copyOf_9075b 2 = .ok (.arraylength, 1) := by decide +kernel
theorem dAR_copyOf_9075b_3 : decode cJ7_copyOf_9075b 3 = .ok (.if_icmp .ne 11, 3) := by decide +kernel
theorem dAR_copyOf_9075b_14 : decode cJ7_copyOf_9075b 14 = .ok (.iload_n 1, 1) := by decide +kernel
theorem dAR_copyOf_9075b_15 : decode cJ7_copyOf_9075b 15 = .ok (.newarray .byte, 2) := by decide +kernel
theorem dAR_copyOf_9075b_17 : decode cJ7_copyOf_9075b 17 = .ok (.astore_n 2, 1) := by decide +kernel
theorem dAR_copyOf_9075b_18 : decode cJ7_copyOf_9075b 18 = .ok (.aload_n 0, 1) := by decide +kernel
theorem dAR_copyOf_9075b_19 : decode cJ7_copyOf_9075b 19 = .ok (.iconst 0, 1) := by decide +kernel
theorem dAR_copyOf_9075b_20 : decode cJ7_copyOf_9075b 20 = .ok (.aload_n 2, 1) := by decide +kernel
theorem dAR_copyOf_9075b_21 : decode cJ7_copyOf_9075b 21 = .ok (.iconst 0, 1) := by decide +kernel
theorem dAR_copyOf_9075b_22 : decode cJ7_copyOf_9075b 22 = .ok (.aload_n 0, 1) := by decide +kernel
theorem dAR_copyOf_9075b_23 : decode cJ7_copyOf_9075b 23 = .ok (.arraylength, 1) := by decide +kernel
theorem dAR_copyOf_9075b_24 : decode cJ7_copyOf_9075b 24 = .ok (.iload_n 1, 1) := by decide +kernel
theorem dAR_copyOf_9075b_25 : decode cJ7_copyOf_9075b 25 = .ok (.invokestatic 304, 3) := by decide +kernel
theorem dAR_copyOf_9075b_28 : decode cJ7_copyOf_9075b 28 = .ok (.invokestatic 150, 3) := by decide +kernel
theorem dAR_copyOf_9075b_31 : decode cJ7_copyOf_9075b 31 = .ok (.aload_n 2, 1) := by decide +kernel
theorem dAR_copyOf_9075b_32 : decode cJ7_copyOf_9075b 32 = .ok (.areturn, 1) := by decide +kernel
abbrev mAR_checkLength_df160 : Mt := (yJ7_checkLength_df160, cJ7_checkLength_df160, 2, (none : Option FieldType))
theorem dAR_checkLength_df160_0 : decode cJ7_checkLength_df160 0 = .ok (.iload_n 1, 1) := by decide +kernel
theorem dAR_checkLength_df160_1 : decode cJ7_checkLength_df160 1 = .ok (.iload_n 0, 1) := by decide +kernel
theorem dAR_checkLength_df160_2 : decode cJ7_checkLength_df160 2 = .ok (.if_icmp .ge 35, 3) := by decide +kernel
theorem dAR_checkLength_df160_37 : decode cJ7_checkLength_df160 37 = .ok (.return_, 1) := by decide +kernel
theorem momAR_checkLength_df160 : MO mAR_checkLength_df160 2 true := ⟨Ts_in (in_t5 _ (List.mem_of_getElem? (i := 229) rfl)) rfl, Ts_in (in_t1 _ (List.mem_of_getElem? (i := 19) rfl)) rfl, ⟨by decide +kernel, by decide +kernel, by decide +kernel⟩, Ts_in (in_t5 _ (List.mem_of_getElem? (i := 228) rfl)) rfl⟩
theorem mlAR_343 : Cond.methodLink RJ7 343 mAR_checkLength_df160.1 ∈ Ts := Ts_in (in_t5 _ (List.mem_of_getElem? (i := 227) rfl)) rfl
abbrev mAR_copyOfRangeByte_39247 : Mt := (yJ7_copyOfRangeByte_39247, cJ7_copyOfRangeByte_39247, 5, (some (FieldType.array FieldType.byte)))
theorem dAR_copyOfRangeByte_39247_0 : decode cJ7_copyOfRangeByte_39247 0 = .ok (.iload_n 1, 1) := by decide +kernel
theorem dAR_copyOfRangeByte_39247_1 : decode cJ7_copyOfRangeByte_39247 1 = .ok (.iload_n 2, 1) := by decide +kernel
theorem dAR_copyOfRangeByte_39247_2 : decode cJ7_copyOfRangeByte_39247 2 = .ok (.invokestatic 343, 3) := by decide +kernel
theorem dAR_copyOfRangeByte_39247_5 : decode cJ7_copyOfRangeByte_39247 5 = .ok (.iload_n 2, 1) := by decide +kernel
theorem dAR_copyOfRangeByte_39247_6 : decode cJ7_copyOfRangeByte_39247 6 = .ok (.iload_n 1, 1) := by decide +kernel
theorem dAR_copyOfRangeByte_39247_7 : decode cJ7_copyOfRangeByte_39247 7 = .ok (.isub, 1) := by decide +kernel
theorem dAR_copyOfRangeByte_39247_8 : decode cJ7_copyOfRangeByte_39247 8 = .ok (.istore_n 3, 1) := by decide +kernel
theorem dAR_copyOfRangeByte_39247_9 : decode cJ7_copyOfRangeByte_39247 9 = .ok (.iload_n 3, 1) := by decide +kernel
theorem dAR_copyOfRangeByte_39247_10 : decode cJ7_copyOfRangeByte_39247 10 = .ok (.newarray .byte, 2) := by decide +kernel
theorem dAR_copyOfRangeByte_39247_12 : decode cJ7_copyOfRangeByte_39247 12 = .ok (.astore 4, 2) := by decide +kernel
theorem dAR_copyOfRangeByte_39247_14 : decode cJ7_copyOfRangeByte_39247 14 = .ok (.aload_n 0, 1) := by decide +kernel
theorem dAR_copyOfRangeByte_39247_15 : decode cJ7_copyOfRangeByte_39247 15 = .ok (.iload_n 1, 1) := by decide +kernel
theorem dAR_copyOfRangeByte_39247_16 : decode cJ7_copyOfRangeByte_39247 16 = .ok (.aload 4, 2) := by decide +kernel
theorem dAR_copyOfRangeByte_39247_18 : decode cJ7_copyOfRangeByte_39247 18 = .ok (.iconst 0, 1) := by decide +kernel
theorem dAR_copyOfRangeByte_39247_19 : decode cJ7_copyOfRangeByte_39247 19 = .ok (.aload_n 0, 1) := by decide +kernel
theorem dAR_copyOfRangeByte_39247_20 : decode cJ7_copyOfRangeByte_39247 20 = .ok (.arraylength, 1) := by decide +kernel
theorem dAR_copyOfRangeByte_39247_21 : decode cJ7_copyOfRangeByte_39247 21 = .ok (.iload_n 1, 1) := by decide +kernel
theorem dAR_copyOfRangeByte_39247_22 : decode cJ7_copyOfRangeByte_39247 22 = .ok (.isub, 1) := by decide +kernel
theorem dAR_copyOfRangeByte_39247_23 : decode cJ7_copyOfRangeByte_39247 23 = .ok (.iload_n 3, 1) := by decide +kernel
theorem dAR_copyOfRangeByte_39247_24 : decode cJ7_copyOfRangeByte_39247 24 = .ok (.invokestatic 304, 3) := by decide +kernel
theorem dAR_copyOfRangeByte_39247_27 : decode cJ7_copyOfRangeByte_39247 27 = .ok (.invokestatic 150, 3) := by decide +kernel
theorem dAR_copyOfRangeByte_39247_30 : decode cJ7_copyOfRangeByte_39247 30 = .ok (.aload 4, 2) := by decide +kernel
theorem dAR_copyOfRangeByte_39247_32 : decode cJ7_copyOfRangeByte_39247 32 = .ok (.areturn, 1) := by decide +kernel
theorem momAR_copyOfRangeByte_39247 : MO mAR_copyOfRangeByte_39247 3 true := ⟨Ts_in (in_t5 _ (List.mem_of_getElem? (i := 226) rfl)) rfl, Ts_in (in_t1 _ (List.mem_of_getElem? (i := 19) rfl)) rfl, ⟨by decide +kernel, by decide +kernel, by decide +kernel⟩, Ts_in (in_t5 _ (List.mem_of_getElem? (i := 225) rfl)) rfl⟩
theorem mlAR_339 : Cond.methodLink RJ7 339 mAR_copyOfRangeByte_39247.1 ∈ Ts := Ts_in (in_t5 _ (List.mem_of_getElem? (i := 224) rfl)) rfl
theorem dAR_copyOfRange_39247_10 : decode cJ7_copyOfRange_39247 10 = .ok (.aload_n 0, 1) := by decide +kernel
theorem dAR_copyOfRange_39247_11 : decode cJ7_copyOfRange_39247 11 = .ok (.iload_n 1, 1) := by decide +kernel
theorem dAR_copyOfRange_39247_12 : decode cJ7_copyOfRange_39247 12 = .ok (.iload_n 2, 1) := by decide +kernel
theorem dAR_copyOfRange_39247_13 : decode cJ7_copyOfRange_39247 13 = .ok (.invokestatic 339, 3) := by decide +kernel
theorem dAR_copyOfRange_39247_16 : decode cJ7_copyOfRange_39247 16 = .ok (.areturn, 1) := by decide +kernel
abbrev mAR_copyOfRange_39247 : Mt := (yJ7_copyOfRange_39247, cJ7_copyOfRange_39247, 3, (some (FieldType.array FieldType.byte)))
theorem dAR_copyOfRange_39247_0 : decode cJ7_copyOfRange_39247 0 = .ok (.iload_n 1, 1) := by decide +kernel
theorem dAR_copyOfRange_39247_1 : decode cJ7_copyOfRange_39247 1 = .ok (.ifCond .ne 9, 3) := by decide +kernel
theorem dAR_copyOfRange_39247_4 : decode cJ7_copyOfRange_39247 4 = .ok (.iload_n 2, 1) := by decide +kernel
theorem dAR_copyOfRange_39247_5 : decode cJ7_copyOfRange_39247 5 = .ok (.aload_n 0, 1) := by decide +kernel
theorem dAR_copyOfRange_39247_6 : decode cJ7_copyOfRange_39247 6 = .ok (.arraylength, 1) := by decide +kernel
theorem dAR_copyOfRange_39247_7 : decode cJ7_copyOfRange_39247 7 = .ok (.if_icmp .eq 10, 3) := by decide +kernel
theorem mlAR_310 : Cond.methodLink RJ7 310 ⟨"[B", "clone", "()Ljava/lang/Object;"⟩ ∈ Ts := Ts_in (in_t5 _ (List.mem_of_getElem? (i := 103) rfl)) rfl
theorem wcl_same : Cond.sameMethod "[B" "java/lang/Object" "clone" "()Ljava/lang/Object;" ∈ Ts := Ts_in (in_t5 _ (List.mem_of_getElem? (i := 104) rfl)) rfl
theorem wcl_nat : Cond.native ⟨"java/lang/Object", "clone", "()Ljava/lang/Object;"⟩ ∈ Ts := Ts_in (in_t5 _ (List.mem_of_getElem? (i := 105) rfl)) rfl
theorem wcl_inst : Cond.instanceMethod ⟨"java/lang/Object", "clone", "()Ljava/lang/Object;"⟩ ∈ Ts := Ts_in (in_t5 _ (List.mem_of_getElem? (i := 106) rfl)) rfl
theorem wcl_sel : Cond.selects "[B" ⟨"[B", "clone", "()Ljava/lang/Object;"⟩ ⟨"java/lang/Object", "clone", "()Ljava/lang/Object;"⟩ ∈ Ts := Ts_in (in_t5 _ (List.mem_of_getElem? (i := 107) rfl)) rfl
theorem wcl_cast : Cond.castable "[B" "java/lang/Cloneable" ∈ lw_tbl := in_t5 _ (List.mem_of_getElem? (i := 108) rfl)
theorem cwAR_311 : Cond.classLink RJ7 311 "[B" ∈ Ts := Ts_in (in_t5 _ (List.mem_of_getElem? (i := 109) rfl)) rfl
theorem dAR_copyOfRange_39247_17 : decode cJ7_copyOfRange_39247 17 = .ok (.aload_n 0, 1) := by decide +kernel
theorem dAR_copyOfRange_39247_18 : decode cJ7_copyOfRange_39247 18 = .ok (.invokevirtual 310, 3) := by decide +kernel
theorem dAR_copyOfRange_39247_21 : decode cJ7_copyOfRange_39247 21 = .ok (.checkcast 311, 3) := by decide +kernel
theorem dAR_copyOfRange_39247_24 : decode cJ7_copyOfRange_39247 24 = .ok (.areturn, 1) := by decide +kernel
theorem dAB_ensureCapacityInternal_d00df_38 : decode cJ5_ensureCapacityInternal_d00df 38 = .ok (.return_, 1) := by decide +kernel
theorem semAB_newCapacity_0f7a4 : Cond.selects RJ4 mAB_newCapacity_0f7a4.1 mAB_newCapacity_0f7a4.1 ∈ Ts := List.mem_filter.mpr ⟨List.mem_append_right _ (List.mem_of_getElem? (i := 1) rfl), rfl⟩
theorem mumAB_newCapacity_0f7a4 : MU RJ4 mAB_newCapacity_0f7a4 1 := ⟨Ts_in (in_t5 _ (List.mem_of_getElem? (i := 90) rfl)) rfl, Ts_in (in_t1 _ (List.mem_of_getElem? (i := 13) rfl)) rfl, ⟨by decide +kernel, by decide +kernel, by decide +kernel⟩, Ts_in (in_t6 _ (List.mem_of_getElem? (i := 228) rfl)) rfl, Ts_in (in_t5 _ (List.mem_of_getElem? (i := 89) rfl)) rfl, .inl semAB_newCapacity_0f7a4⟩
theorem mlAB_104 : Cond.methodLink RJ5 104 mAB_newCapacity_0f7a4.1 ∈ Ts := Ts_in (in_t5 _ (List.mem_of_getElem? (i := 87) rfl)) rfl
theorem momAR_copyOf_9075b : MO mAR_copyOf_9075b 2 true := ⟨Ts_in (in_t5 _ (List.mem_of_getElem? (i := 102) rfl)) rfl, Ts_in (in_t1 _ (List.mem_of_getElem? (i := 19) rfl)) rfl, ⟨by decide +kernel, by decide +kernel, by decide +kernel⟩, Ts_in (in_t5 _ (List.mem_of_getElem? (i := 101) rfl)) rfl⟩
theorem mlAB_108 : Cond.methodLink RJ5 108 mAR_copyOf_9075b.1 ∈ Ts := Ts_in (in_t5 _ (List.mem_of_getElem? (i := 100) rfl)) rfl
abbrev mAB_ensureCapacityInternal_d00df : Mt := (yJ5_ensureCapacityInternal_d00df, cJ5_ensureCapacityInternal_d00df, 3, (none : Option FieldType))
theorem dAB_ensureCapacityInternal_d00df_0 : decode cJ5_ensureCapacityInternal_d00df 0 = .ok (.aload_n 0, 1) := by decide +kernel
theorem dAB_ensureCapacityInternal_d00df_1 : decode cJ5_ensureCapacityInternal_d00df 1 = .ok (.getfield 15, 3) := by decide +kernel
theorem dAB_ensureCapacityInternal_d00df_4 : decode cJ5_ensureCapacityInternal_d00df 4 = .ok (.arraylength, 1) := by decide +kernel
theorem dAB_ensureCapacityInternal_d00df_5 : decode cJ5_ensureCapacityInternal_d00df 5 = .ok (.aload_n 0, 1) := by decide +kernel
theorem dAB_ensureCapacityInternal_d00df_6 : decode cJ5_ensureCapacityInternal_d00df 6 = .ok (.getfield 22, 3) := by decide +kernel
theorem dAB_ensureCapacityInternal_d00df_9 : decode cJ5_ensureCapacityInternal_d00df 9 = .ok (.ishr, 1) := by decide +kernel
theorem dAB_ensureCapacityInternal_d00df_10 : decode cJ5_ensureCapacityInternal_d00df 10 = .ok (.istore_n 2, 1) := by decide +kernel
theorem dAB_ensureCapacityInternal_d00df_11 : decode cJ5_ensureCapacityInternal_d00df 11 = .ok (.iload_n 1, 1) := by decide +kernel
theorem dAB_ensureCapacityInternal_d00df_12 : decode cJ5_ensureCapacityInternal_d00df 12 = .ok (.iload_n 2, 1) := by decide +kernel
theorem dAB_ensureCapacityInternal_d00df_13 : decode cJ5_ensureCapacityInternal_d00df 13 = .ok (.isub, 1) := by decide +kernel
theorem dAB_ensureCapacityInternal_d00df_14 : decode cJ5_ensureCapacityInternal_d00df 14 = .ok (.ifCond .le 24, 3) := by decide +kernel
theorem dAB_ensureCapacityInternal_d00df_17 : decode cJ5_ensureCapacityInternal_d00df 17 = .ok (.aload_n 0, 1) := by decide +kernel
theorem dAB_ensureCapacityInternal_d00df_18 : decode cJ5_ensureCapacityInternal_d00df 18 = .ok (.aload_n 0, 1) := by decide +kernel
theorem dAB_ensureCapacityInternal_d00df_19 : decode cJ5_ensureCapacityInternal_d00df 19 = .ok (.getfield 15, 3) := by decide +kernel
theorem dAB_ensureCapacityInternal_d00df_22 : decode cJ5_ensureCapacityInternal_d00df 22 = .ok (.aload_n 0, 1) := by decide +kernel
theorem dAB_ensureCapacityInternal_d00df_23 : decode cJ5_ensureCapacityInternal_d00df 23 = .ok (.iload_n 1, 1) := by decide +kernel
theorem dAB_ensureCapacityInternal_d00df_24 : decode cJ5_ensureCapacityInternal_d00df 24 = .ok (.invokevirtual 104, 3) := by decide +kernel
theorem dAB_ensureCapacityInternal_d00df_27 : decode cJ5_ensureCapacityInternal_d00df 27 = .ok (.aload_n 0, 1) := by decide +kernel
theorem dAB_ensureCapacityInternal_d00df_28 : decode cJ5_ensureCapacityInternal_d00df 28 = .ok (.getfield 22, 3) := by decide +kernel
theorem dAB_ensureCapacityInternal_d00df_31 : decode cJ5_ensureCapacityInternal_d00df 31 = .ok (.ishl, 1) := by decide +kernel
theorem dAB_ensureCapacityInternal_d00df_32 : decode cJ5_ensureCapacityInternal_d00df 32 = .ok (.invokestatic 108, 3) := by decide +kernel
theorem dAB_ensureCapacityInternal_d00df_35 : decode cJ5_ensureCapacityInternal_d00df 35 = .ok (.putfield 15, 3) := by decide +kernel
abbrev mS_length_8abf5 : Mt := (yJ0_length_8abf5, cJ0_length_8abf5, 1, (some FieldType.int))
theorem mlAB_32 : Cond.methodLink RJ5 32 mS_length_8abf5.1 ∈ Ts := Ts_in (in_t5 _ (List.mem_of_getElem? (i := 132) rfl)) rfl
theorem semAB_putStringAt_47b60 : Cond.selects RJ4 mAB_putStringAt_47b60.1 mAB_putStringAt_47b60.1 ∈ Ts := List.mem_filter.mpr ⟨List.mem_append_right _ (List.mem_of_getElem? (i := 2) rfl), rfl⟩
theorem mumAB_putStringAt_47b60 : MU RJ4 mAB_putStringAt_47b60 2 := ⟨Ts_in (in_t5 _ (List.mem_of_getElem? (i := 136) rfl)) rfl, Ts_in (in_t1 _ (List.mem_of_getElem? (i := 13) rfl)) rfl, ⟨by decide +kernel, by decide +kernel, by decide +kernel⟩, Ts_in (in_t6 _ (List.mem_of_getElem? (i := 229) rfl)) rfl, Ts_in (in_t5 _ (List.mem_of_getElem? (i := 135) rfl)) rfl, .inl semAB_putStringAt_47b60⟩
theorem mlAB_208 : Cond.methodLink RJ5 208 mAB_putStringAt_47b60.1 ∈ Ts := Ts_in (in_t5 _ (List.mem_of_getElem? (i := 133) rfl)) rfl
theorem semAB_ensureCapacityInternal_d00df : Cond.selects RJ4 mAB_ensureCapacityInternal_d00df.1 mAB_ensureCapacityInternal_d00df.1 ∈ Ts := List.mem_filter.mpr ⟨List.mem_append_right _ (List.mem_of_getElem? (i := 0) rfl), rfl⟩
theorem mumAB_ensureCapacityInternal_d00df : MU RJ4 mAB_ensureCapacityInternal_d00df 1 := ⟨Ts_in (in_t5 _ (List.mem_of_getElem? (i := 86) rfl)) rfl, Ts_in (in_t1 _ (List.mem_of_getElem? (i := 13) rfl)) rfl, ⟨by decide +kernel, by decide +kernel, by decide +kernel⟩, Ts_in (in_t6 _ (List.mem_of_getElem? (i := 227) rfl)) rfl, Ts_in (in_t5 _ (List.mem_of_getElem? (i := 85) rfl)) rfl, .inl semAB_ensureCapacityInternal_d00df⟩
theorem mlAB_100 : Cond.methodLink RJ5 100 mAB_ensureCapacityInternal_d00df.1 ∈ Ts := Ts_in (in_t5 _ (List.mem_of_getElem? (i := 83) rfl)) rfl
abbrev mAB_append_cf1ce : Mt := (yJ5_append_cf1ce, cJ5_append_cf1ce, 3, (some (FieldType.object "java/lang/AbstractStringBuilder")))
theorem dAB_append_cf1ce_0 : decode cJ5_append_cf1ce 0 = .ok (.aload_n 1, 1) := by decide +kernel
theorem dAB_append_cf1ce_1 : decode cJ5_append_cf1ce 1 = .ok (.ifnonnull 8, 3) := by decide +kernel
theorem dAB_append_cf1ce_9 : decode cJ5_append_cf1ce 9 = .ok (.aload_n 1, 1) := by decide +kernel
theorem dAB_append_cf1ce_10 : decode cJ5_append_cf1ce 10 = .ok (.invokevirtual 32, 3) := by decide +kernel
theorem dAB_append_cf1ce_13 : decode cJ5_append_cf1ce 13 = .ok (.istore_n 2, 1) := by decide +kernel
theorem dAB_append_cf1ce_14 : decode cJ5_append_cf1ce 14 = .ok (.aload_n 0, 1) := by decide +kernel
theorem dAB_append_cf1ce_15 : decode cJ5_append_cf1ce 15 = .ok (.aload_n 0, 1) := by decide +kernel
theorem dAB_append_cf1ce_16 : decode cJ5_append_cf1ce 16 = .ok (.getfield 79, 3) := by decide +kernel
theorem dAB_append_cf1ce_19 : decode cJ5_append_cf1ce 19 = .ok (.iload_n 2, 1) := by decide +kernel
theorem dAB_append_cf1ce_20 : decode cJ5_append_cf1ce 20 = .ok (.iadd, 1) := by decide +kernel
theorem dAB_append_cf1ce_21 : decode cJ5_append_cf1ce 21 = .ok (.invokevirtual 100, 3) := by decide +kernel
theorem dAB_append_cf1ce_24 : decode cJ5_append_cf1ce 24 = .ok (.aload_n 0, 1) := by decide +kernel
theorem dAB_append_cf1ce_25 : decode cJ5_append_cf1ce 25 = .ok (.aload_n 0, 1) := by decide +kernel
theorem dAB_append_cf1ce_26 : decode cJ5_append_cf1ce 26 = .ok (.getfield 79, 3) := by decide +kernel
theorem dAB_append_cf1ce_29 : decode cJ5_append_cf1ce 29 = .ok (.aload_n 1, 1) := by decide +kernel
theorem dAB_append_cf1ce_30 : decode cJ5_append_cf1ce 30 = .ok (.invokevirtual 208, 3) := by decide +kernel
theorem dAB_append_cf1ce_33 : decode cJ5_append_cf1ce 33 = .ok (.aload_n 0, 1) := by decide +kernel
theorem dAB_append_cf1ce_34 : decode cJ5_append_cf1ce 34 = .ok (.dup, 1) := by decide +kernel
theorem dAB_append_cf1ce_35 : decode cJ5_append_cf1ce 35 = .ok (.getfield 79, 3) := by decide +kernel
theorem dAB_append_cf1ce_38 : decode cJ5_append_cf1ce 38 = .ok (.iload_n 2, 1) := by decide +kernel
theorem dAB_append_cf1ce_39 : decode cJ5_append_cf1ce 39 = .ok (.iadd, 1) := by decide +kernel
theorem dAB_append_cf1ce_40 : decode cJ5_append_cf1ce 40 = .ok (.putfield 79, 3) := by decide +kernel
theorem dAB_append_cf1ce_43 : decode cJ5_append_cf1ce 43 = .ok (.aload_n 0, 1) := by decide +kernel
theorem dAB_append_cf1ce_44 : decode cJ5_append_cf1ce 44 = .ok (.areturn, 1) := by decide +kernel
theorem mumAB_append_cf1ces : MU RJ4 mAB_append_cf1ce 1 := ⟨Ts_in (in_t5 _ (List.mem_of_getElem? (i := 78) rfl)) rfl, Ts_in (in_t1 _ (List.mem_of_getElem? (i := 13) rfl)) rfl, ⟨by decide +kernel, by decide +kernel, by decide +kernel⟩, Ts_in (in_t6 _ (List.mem_of_getElem? (i := 225) rfl)) rfl, Ts_in (in_t5 _ (List.mem_of_getElem? (i := 77) rfl)) rfl, .inr ⟨by decide, Ts_in (in_t5 _ (List.mem_of_getElem? (i := 71) rfl)) rfl⟩⟩
theorem mlSB_29 : Cond.methodLink RJ4 29 mAB_append_cf1ce.1 ∈ Ts := Ts_in (in_t5 _ (List.mem_of_getElem? (i := 76) rfl)) rfl
abbrev mSB_append_15ec4 : Mt := (yJ4_append_15ec4, cJ4_append_15ec4, 2, (some (FieldType.object "java/lang/StringBuilder")))
theorem dSB_append_15ec4_0 : decode cJ4_append_15ec4 0 = .ok (.aload_n 0, 1) := by decide +kernel
theorem dSB_append_15ec4_1 : decode cJ4_append_15ec4 1 = .ok (.aload_n 1, 1) := by decide +kernel
theorem dSB_append_15ec4_2 : decode cJ4_append_15ec4 2 = .ok (.invokespecial 29, 3) := by decide +kernel
theorem dSB_append_15ec4_5 : decode cJ4_append_15ec4 5 = .ok (.pop, 1) := by decide +kernel
theorem dSB_append_15ec4_6 : decode cJ4_append_15ec4 6 = .ok (.aload_n 0, 1) := by decide +kernel
theorem dSB_append_15ec4_7 : decode cJ4_append_15ec4 7 = .ok (.areturn, 1) := by decide +kernel
theorem momIN_stringSize_0f7a4 : MO mIN_stringSize_0f7a4 1 true := ⟨Ts_in (in_t5 _ (List.mem_of_getElem? (i := 177) rfl)) rfl, Ts_in (in_t1 _ (List.mem_of_getElem? (i := 24) rfl)) rfl, ⟨by decide +kernel, by decide +kernel, by decide +kernel⟩, Ts_in (in_t5 _ (List.mem_of_getElem? (i := 176) rfl)) rfl⟩
theorem mlAB_245 : Cond.methodLink RJ5 245 mIN_stringSize_0f7a4.1 ∈ Ts := Ts_in (in_t5 _ (List.mem_of_getElem? (i := 175) rfl)) rfl
theorem semAB_isLatin1_aae02 : Cond.selects RJ4 mAB_isLatin1_aae02.1 mAB_isLatin1_aae02.1 ∈ Ts := Ts_in (in_t5 _ (List.mem_of_getElem? (i := 115) rfl)) rfl
theorem mumAB_isLatin1_aae02 : MU RJ4 mAB_isLatin1_aae02 0 := ⟨Ts_in (in_t5 _ (List.mem_of_getElem? (i := 116) rfl)) rfl, Ts_in (in_t1 _ (List.mem_of_getElem? (i := 13) rfl)) rfl, ⟨by decide +kernel, by decide +kernel, by decide +kernel⟩, Ts_in (in_t5 _ (List.mem_of_getElem? (i := 114) rfl)) rfl, Ts_in (in_t5 _ (List.mem_of_getElem? (i := 113) rfl)) rfl, .inl semAB_isLatin1_aae02⟩
theorem mlAB_83 : Cond.methodLink RJ5 83 mAB_isLatin1_aae02.1 ∈ Ts := Ts_in (in_t5 _ (List.mem_of_getElem? (i := 112) rfl)) rfl
theorem momIN_getChars_ba4f3 : MO mIN_getChars_ba4f3 3 true := ⟨Ts_in (in_t5 _ (List.mem_of_getElem? (i := 180) rfl)) rfl, Ts_in (in_t1 _ (List.mem_of_getElem? (i := 24) rfl)) rfl, ⟨by decide +kernel, by decide +kernel, by decide +kernel⟩, Ts_in (in_t5 _ (List.mem_of_getElem? (i := 179) rfl)) rfl⟩
theorem mlAB_248 : Cond.methodLink RJ5 248 mIN_getChars_ba4f3.1 ∈ Ts := Ts_in (in_t5 _ (List.mem_of_getElem? (i := 178) rfl)) rfl
abbrev mAB_append_c97b9 : Mt := (yJ5_append_c97b9, cJ5_append_c97b9, 4, (some (FieldType.object "java/lang/AbstractStringBuilder")))
theorem dAB_append_c97b9_0 : decode cJ5_append_c97b9 0 = .ok (.aload_n 0, 1) := by decide +kernel
theorem dAB_append_c97b9_1 : decode cJ5_append_c97b9 1 = .ok (.getfield 79, 3) := by decide +kernel
theorem dAB_append_c97b9_4 : decode cJ5_append_c97b9 4 = .ok (.istore_n 2, 1) := by decide +kernel
theorem dAB_append_c97b9_5 : decode cJ5_append_c97b9 5 = .ok (.iload_n 2, 1) := by decide +kernel
theorem dAB_append_c97b9_6 : decode cJ5_append_c97b9 6 = .ok (.iload_n 1, 1) := by decide +kernel
theorem dAB_append_c97b9_7 : decode cJ5_append_c97b9 7 = .ok (.invokestatic 245, 3) := by decide +kernel
theorem dAB_append_c97b9_10 : decode cJ5_append_c97b9 10 = .ok (.iadd, 1) := by decide +kernel
theorem dAB_append_c97b9_11 : decode cJ5_append_c97b9 11 = .ok (.istore_n 3, 1) := by decide +kernel
theorem dAB_append_c97b9_12 : decode cJ5_append_c97b9 12 = .ok (.aload_n 0, 1) := by decide +kernel
theorem dAB_append_c97b9_13 : decode cJ5_append_c97b9 13 = .ok (.iload_n 3, 1) := by decide +kernel
theorem dAB_append_c97b9_14 : decode cJ5_append_c97b9 14 = .ok (.invokevirtual 100, 3) := by decide +kernel
theorem dAB_append_c97b9_17 : decode cJ5_append_c97b9 17 = .ok (.aload_n 0, 1) := by decide +kernel
theorem dAB_append_c97b9_18 : decode cJ5_append_c97b9 18 = .ok (.invokevirtual 83, 3) := by decide +kernel
theorem dAB_append_c97b9_21 : decode cJ5_append_c97b9 21 = .ok (.ifCond .eq 16, 3) := by decide +kernel
theorem dAB_append_c97b9_24 : decode cJ5_append_c97b9 24 = .ok (.iload_n 1, 1) := by decide +kernel
theorem dAB_append_c97b9_25 : decode cJ5_append_c97b9 25 = .ok (.iload_n 3, 1) := by decide +kernel
theorem dAB_append_c97b9_26 : decode cJ5_append_c97b9 26 = .ok (.aload_n 0, 1) := by decide +kernel
theorem dAB_append_c97b9_27 : decode cJ5_append_c97b9 27 = .ok (.getfield 15, 3) := by decide +kernel
theorem dAB_append_c97b9_30 : decode cJ5_append_c97b9 30 = .ok (.invokestatic 248, 3) := by decide +kernel
theorem dAB_append_c97b9_33 : decode cJ5_append_c97b9 33 = .ok (.pop, 1) := by decide +kernel
theorem dAB_append_c97b9_34 : decode cJ5_append_c97b9 34 = .ok (.goto 14, 3) := by decide +kernel
theorem dAB_append_c97b9_48 : decode cJ5_append_c97b9 48 = .ok (.aload_n 0, 1) := by decide +kernel
theorem dAB_append_c97b9_49 : decode cJ5_append_c97b9 49 = .ok (.iload_n 3, 1) := by decide +kernel
theorem dAB_append_c97b9_50 : decode cJ5_append_c97b9 50 = .ok (.putfield 79, 3) := by decide +kernel
theorem dAB_append_c97b9_53 : decode cJ5_append_c97b9 53 = .ok (.aload_n 0, 1) := by decide +kernel
theorem dAB_append_c97b9_54 : decode cJ5_append_c97b9 54 = .ok (.areturn, 1) := by decide +kernel
theorem mumAB_append_c97b9s : MU RJ4 mAB_append_c97b9 1 := ⟨Ts_in (in_t5 _ (List.mem_of_getElem? (i := 174) rfl)) rfl, Ts_in (in_t1 _ (List.mem_of_getElem? (i := 13) rfl)) rfl, ⟨by decide +kernel, by decide +kernel, by decide +kernel⟩, Ts_in (in_t6 _ (List.mem_of_getElem? (i := 232) rfl)) rfl, Ts_in (in_t5 _ (List.mem_of_getElem? (i := 173) rfl)) rfl, .inr ⟨by decide, Ts_in (in_t5 _ (List.mem_of_getElem? (i := 71) rfl)) rfl⟩⟩
theorem mlSB_53 : Cond.methodLink RJ4 53 mAB_append_c97b9.1 ∈ Ts := Ts_in (in_t5 _ (List.mem_of_getElem? (i := 172) rfl)) rfl
abbrev mSB_append_bf812 : Mt := (yJ4_append_bf812, cJ4_append_bf812, 2, (some (FieldType.object "java/lang/StringBuilder")))
theorem dSB_append_bf812_0 : decode cJ4_append_bf812 0 = .ok (.aload_n 0, 1) := by decide +kernel
theorem dSB_append_bf812_1 : decode cJ4_append_bf812 1 = .ok (.iload_n 1, 1) := by decide +kernel
theorem dSB_append_bf812_2 : decode cJ4_append_bf812 2 = .ok (.invokespecial 53, 3) := by decide +kernel
theorem dSB_append_bf812_5 : decode cJ4_append_bf812 5 = .ok (.pop, 1) := by decide +kernel
theorem dSB_append_bf812_6 : decode cJ4_append_bf812 6 = .ok (.aload_n 0, 1) := by decide +kernel
theorem dSB_append_bf812_7 : decode cJ4_append_bf812 7 = .ok (.areturn, 1) := by decide +kernel
theorem w_coder {G : Gl} {S : Sh} {n : Nat} {l : Launch} {M : Mem} {t r : Nat} {σ : List Int} (e : EX S n) (ht : t < n) (hr : r < n) (hS : STG S M t r σ) : Ct G S n l 0 m107_coder [vR t] M (Ret (vI 0) M) := by
  refine R_start (by decide +kernel) (Nat.le_of_ble_eq_true rfl) (fun C hC hRm hlau => ?_)
  show RZ G S C (Zn G S n C (Ret (vI 0) M)) 0 0 n 0 [some (vR t)] [] M
  refine R_csz hC dX107_coder_0 jf_cs ?_
  refine R_if_eq hC dX107_coder_3 (tgt := 13) (by decide) (fun hj => ?_) (fun hj => ?_)
  · exact absurd hj (by decide)
  refine R_aload_0 hC dX107_coder_6 ?_
  refine R_getIE hC dX107_coder_7 flS_15 ht hS.1 (by decide) (by rw [e.2.2.1]; decide) (fi := 1) rfl (hS.2.2.2.1) ?_
  refine R_goto hC dX107_coder_10 (tgt := 14) (by decide) ?_
  exact R_breturn hC dX107_coder_14 rfl rfl ⟨rfl, rfl⟩
theorem w_length {G : Gl} {S : Sh} {n : Nat} {l : Launch} {M : Mem} {t r : Nat} {σ : List Int} (e : EX S n) (ht : t < n) (hr : r < n) (hS : STG S M t r σ) (hb : σ.length ≤ 65536) : Ct G S n l 1 m107_length [vR t] M (Ret (vI (σ.length : Int)) M) := by
  refine R_start (by decide +kernel) (Nat.le_of_ble_eq_true rfl) (fun C hC hRm hlau => ?_)
  show RZ G S C (Zn G S n C (Ret (vI (σ.length : Int)) M)) 0 0 n 0 [some (vR t)] [] M
  refine R_aload_0 hC dX107_length_0 ?_
  refine R_getR hC dX107_length_1 flS_9 ht hS.1 (by decide) (by rw [e.2.2.1]; rfl) (fi := 0) rfl (r := r) (hS.2.2.1) ?_
  refine R_alen hC dX107_length_4 hr hS.2.1 (by decide) (by decide) (by omega) ?_
  refine R_aload_0 hC dX107_length_5 ?_
  refine R_callVq (as := []) hC dX107_length_6 mo_107_coder jm_coder ht hS.1 rfl (w_coder e ht hr hS) rfl rfl hRm (by decide) (by decide) (Nat.le_of_ble_eq_true rfl) ?_
  refine R_ishr hC dX107_length_9 (by decide) (by decide) ?_
  exact R_ireturn hC dX107_length_10 rfl (ret_I (by simp))
theorem w_isLatin1 {G : Gl} {S : Sh} {n : Nat} {l : Launch} {M : Mem} {t r : Nat} {σ : List Int} (e : EX S n) (ht : t < n) (hr : r < n) (hS : STG S M t r σ) : Ct G S n l 0 m107_isLatin1 [vR t] M (Ret (vI 1) M) := by
  refine R_start (by decide +kernel) (Nat.le_of_ble_eq_true rfl) (fun C hC hRm hlau => ?_)
  show RZ G S C (Zn G S n C (Ret (vI 1) M)) 0 0 n 0 [some (vR t)] [] M
  refine R_csz hC dX107_isLatin1_0 jf_cs ?_
  refine R_if_eq hC dX107_isLatin1_3 (tgt := 17) (by decide) (fun hj => ?_) (fun hj => ?_)
  · exact absurd hj (by decide)
  refine R_aload_0 hC dX107_isLatin1_6 ?_
  refine R_getIE hC dX107_isLatin1_7 flS_15 ht hS.1 (by decide) (by rw [e.2.2.1]; decide) (fi := 1) rfl (hS.2.2.2.1) ?_
  refine R_if_ne hC dX107_isLatin1_10 (tgt := 17) (by decide) (fun hj => ?_) (fun hj => ?_)
  · exact absurd rfl hj
  refine R_iconst hC dX107_isLatin1_13 ⟨by decide, by decide⟩ ?_
  refine R_goto hC dX107_isLatin1_14 (tgt := 18) (by decide) ?_
  exact R_zreturn hC dX107_isLatin1_18 rfl (.inr rfl) ⟨rfl, rfl⟩
theorem w_charAt8 {G : Gl} {S : Sh} {n : Nat} {l : Launch} {M : Mem} {r : Nat} {σ : List Int} {a : Nat} (e : EX S n) (hr : r < n) (hk : S.1 r = (22, σ.length)) (hT : ROWT M r σ) (h7 : tx7 σ) (ha : a < σ.length) (hb : σ.length ≤ 65536) : Ct G S n l 2 m108_charAt8 [vR r, vI (a : Int)] M (Ret (vI (σ.getD a 0)) M) := by
  refine R_start (by decide +kernel) (Nat.le_of_ble_eq_true rfl) (fun C hC hRm hlau => ?_)
  show RZ G S C (Zn G S n C (Ret (vI (σ.getD a 0)) M)) 0 0 n 0 [some (vR r), some (vI (a : Int))] [] M
  have hg : 0 ≤ σ.getD a 0 ∧ σ.getD a 0 ≤ 127 := by rw [List.getD_eq_getElem?_getD, List.getElem?_eq_getElem ha]; exact h7 _ (List.getElem_mem ha)
  refine R_iload_1 hC dX108_charAt8_0 ?_
  refine R_aload_0 hC dX108_charAt8_1 ?_
  refine R_alen hC dX108_charAt8_2 hr hk (by decide) (by decide) (by omega) ?_
  refine R_callSv (as := [vI _, vI _]) hC dX108_charAt8_3 mo_107_checkIndex jm_ci (c107_checkIndex (by omega) (by omega)) rfl rfl hRm (by decide) (by decide) (Nat.le_of_ble_eq_true rfl) (fun M' z => ?_)
  rw [z]
  refine R_aload_0 hC dX108_charAt8_6 ?_
  refine R_iload_1 hC dX108_charAt8_7 ?_
  refine R_baloadE hC dX108_charAt8_8 hr hk (by omega) (by omega) (hT a ha) ?_
  refine R_sipush hC dX108_charAt8_9 (by decide +kernel) ⟨by decide, by decide⟩ ?_
  refine R_iandm hC dX108_charAt8_12 (m := 8) (by decide) (by decide) ?_
  rw [Int.emod_eq_of_lt hg.1 (by have := hg.2; omega)]
  refine R_i2c hC dX108_charAt8_13 hg.1 (by have := hg.2; omega) ?_
  exact R_creturn hC dX108_charAt8_14 rfl hg.1 (by have := hg.2; omega) ⟨rfl, rfl⟩
theorem w_charAt {G : Gl} {S : Sh} {n : Nat} {l : Launch} {M : Mem} {t r : Nat} {σ : List Int} (e : EX S n) (ht : t < n) (hr : r < n) (hS : STG S M t r σ) {a : Nat} (ha : a < σ.length) (hb : σ.length ≤ 65536) : Ct G S n l 3 m107_charAt [vR t, vI (a : Int)] M (Ret (vI (σ.getD a 0)) M) := by
  refine R_start (by decide +kernel) (Nat.le_of_ble_eq_true rfl) (fun C hC hRm hlau => ?_)
  show RZ G S C (Zn G S n C (Ret (vI (σ.getD a 0)) M)) 0 0 n 0 [some (vR t), some (vI (a : Int))] [] M
  have hg : 0 ≤ σ.getD a 0 ∧ σ.getD a 0 ≤ 127 := by rw [List.getD_eq_getElem?_getD, List.getElem?_eq_getElem ha]; exact hS.2.2.2.2.2 _ (List.getElem_mem ha)
  refine R_aload_0 hC dX107_charAt_0 ?_
  refine R_callVq (as := []) hC dX107_charAt_1 mo_107_isLatin1 jm_lat ht hS.1 rfl (w_isLatin1 e ht hr hS) rfl rfl hRm (by decide) (by decide) (Nat.le_of_ble_eq_true rfl) ?_
  refine R_if_eq hC dX107_charAt_4 (tgt := 16) (by decide) (fun hj => ?_) (fun hj => ?_)
  · exact absurd hj (by decide)
  refine R_aload_0 hC dX107_charAt_7 ?_
  refine R_getR hC dX107_charAt_8 flS_9 ht hS.1 (by decide) (by rw [e.2.2.1]; rfl) (fi := 0) rfl (r := r) (hS.2.2.1) ?_
  refine R_iload_1 hC dX107_charAt_11 ?_
  refine R_callSq (as := [vR _, vI _]) hC dX107_charAt_12 mo_108_charAt8 jm_c8 (w_charAt8 e hr hS.2.1 hS.2.2.2.2.1 hS.2.2.2.2.2 ha hb) rfl rfl hRm (by decide) (by decide) (Nat.le_of_ble_eq_true rfl) ?_
  exact R_creturn hC dX107_charAt_15 rfl hg.1 (by have := hg.2; omega) ⟨rfl, rfl⟩
theorem b_isLatin1 {G : Gl} {S : Sh} {n : Nat} {l : Launch} {M : Mem} {b r m : Nat} {τ : List Int} (e : EX S n) (hb : b < n) (hr : r < n) (hB : BLD S M b r m τ) : Ct G S n l 0 mAB_isLatin1_aae02 [vR b] M (Ret (vI 1) M) := by
  refine R_start (by decide +kernel) (Nat.le_of_ble_eq_true rfl) (fun C hC hRm hlau => ?_)
  show RZ G S C (Zn G S n C (Ret (vI 1) M)) 0 0 n 0 [some (vR b)] [] M
  refine R_csz hC dAB_isLatin1_aae02_0 fwAB_18 ?_
  refine R_if_eq hC dAB_isLatin1_aae02_3 (tgt := 17) (by decide) (fun hj => ?_) (fun hj => ?_)
  · exact absurd hj (by decide)
  refine R_aload_0 hC dAB_isLatin1_aae02_6 ?_
  refine R_getIE hC dAB_isLatin1_aae02_7 flAB_22 hb hB.1 (by decide) (by rw [e.2.2.1]; decide) (fi := 1) rfl (hB.2.2.2.1) ?_
  refine R_if_ne hC dAB_isLatin1_aae02_10 (tgt := 17) (by decide) (fun hj => ?_) (fun hj => ?_)
  · exact absurd rfl hj
  refine R_iconst hC dAB_isLatin1_aae02_13 ⟨by decide, by decide⟩ ?_
  refine R_goto hC dAB_isLatin1_aae02_14 (tgt := 18) (by decide) ?_
  exact R_zreturn hC dAB_isLatin1_aae02_18 rfl (.inr rfl) ⟨rfl, rfl⟩
theorem b_length5 {G : Gl} {S : Sh} {n : Nat} {l : Launch} {M : Mem} {b r m : Nat} {τ : List Int} (e : EX S n) (hb : b < n) (hr : r < n) (hB : BLD S M b r m τ) : Ct G S n l 0 mAB_length_8abf5 [vR b] M (Ret (vI (τ.length : Int)) M) := by
  refine R_start (by decide +kernel) (Nat.le_of_ble_eq_true rfl) (fun C hC hRm hlau => ?_)
  show RZ G S C (Zn G S n C (Ret (vI (τ.length : Int)) M)) 0 0 n 0 [some (vR b)] [] M
  refine R_aload_0 hC dAB_length_8abf5_0 ?_
  refine R_getIE hC dAB_length_8abf5_1 flAB_79 hb hB.1 (by decide) (by rw [e.2.2.1]; decide) (fi := 3) rfl (hB.2.2.2.2.1) ?_
  exact R_ireturn hC dAB_length_8abf5_4 rfl ⟨rfl, rfl⟩
theorem b_length {G : Gl} {S : Sh} {n : Nat} {l : Launch} {M : Mem} {b r m : Nat} {τ : List Int} (e : EX S n) (hb : b < n) (hr : r < n) (hB : BLD S M b r m τ) : Ct G S n l 1 mSB_length_8abf5 [vR b] M (Ret (vI (τ.length : Int)) M) := by
  refine R_start (by decide +kernel) (Nat.le_of_ble_eq_true rfl) (fun C hC hRm hlau => ?_)
  show RZ G S C (Zn G S n C (Ret (vI (τ.length : Int)) M)) 0 0 n 0 [some (vR b)] [] M
  refine R_aload_0 hC dSB_length_8abf5_0 ?_
  refine R_callSu (as := []) hC dSB_length_8abf5_1 mumAB_length_8abf5s su_SB (by decide) mlSB_343 hb hB.1 rfl (b_length5 e hb hr hB) rfl rfl (room_ok hRm (by decide) (Nat.le_of_ble_eq_true rfl)) (Nat.le_of_ble_eq_true rfl) (fun o M' h => ?_)
  rw [h.1, h.2]
  show RZ G S C _ 0 0 n 4 _ [vI (τ.length : Int)] M
  exact R_ireturn hC dSB_length_8abf5_4 rfl ⟨rfl, rfl⟩
theorem b_getValue {G : Gl} {S : Sh} {n : Nat} {l : Launch} {M : Mem} {b r m : Nat} {τ : List Int} (e : EX S n) (hb : b < n) (hr : r < n) (hB : BLD S M b r m τ) : Ct G S n l 0 mAB_getValue_6d5f1 [vR b] M (Ret (vR r) M) := by
  refine R_start (by decide +kernel) (Nat.le_of_ble_eq_true rfl) (fun C hC hRm hlau => ?_)
  show RZ G S C (Zn G S n C (Ret (vR r) M)) 0 0 n 0 [some (vR b)] [] M
  refine R_aload_0 hC dAB_getValue_6d5f1_0 ?_
  refine R_getR hC dAB_getValue_6d5f1_1 flAB_15 hb hB.1 (by decide) (by rw [e.2.2.1]; rfl) (fi := 0) rfl (r := r) (hB.2.2.1) ?_
  exact R_areturn hC dAB_getValue_6d5f1_4 rfl (.inr ⟨_, rfl⟩) ⟨rfl, rfl⟩
theorem w_infl {G : Gl} {S : Sh} {n : Nat} {l : Launch} {M : Mem} {b r m : Nat} {τ : List Int} (e : EX S n) (hb : b < n) (hr : r < n) (hB : BLD S M b r m τ) {t r2 : Nat} {σ : List Int} (ht : t < n) (hr2 : r2 < n) (hS : STG S M t r2 σ) (hb9 : σ.length ≤ 65536) : Ct G S n l 1 mAB_inflateIfNeededFor_a7421 [vR b, vR t] M (RV (fun M' => M' = M)) := by
  refine R_start (by decide +kernel) (Nat.le_of_ble_eq_true rfl) (fun C hC hRm hlau => ?_)
  show RZ G S C (Zn G S n C (RV (fun M' => M' = M))) 0 0 n 0 [some (vR b), some (vR t)] [] M
  refine R_csz hC dAB_inflateIfNeededFor_a7421_0 fwAB_18 ?_
  refine R_if_eq hC dAB_inflateIfNeededFor_a7421_3 (tgt := 21) (by decide) (fun hj => ?_) (fun hj => ?_)
  · exact absurd hj (by decide)
  refine R_aload_0 hC dAB_inflateIfNeededFor_a7421_6 ?_
  refine R_getIE hC dAB_inflateIfNeededFor_a7421_7 flAB_22 hb hB.1 (by decide) (by rw [e.2.2.1]; decide) (fi := 1) rfl (hB.2.2.2.1) ?_
  refine R_aload_1 hC dAB_inflateIfNeededFor_a7421_10 ?_
  refine R_callVq (as := []) hC dAB_inflateIfNeededFor_a7421_11 mo_107_coder mlAB_40 ht hS.1 rfl (w_coder e ht hr2 hS) rfl rfl hRm (by decide) (by decide) (Nat.le_of_ble_eq_true rfl) ?_
  refine R_icmp_eq hC dAB_inflateIfNeededFor_a7421_14 (tgt := 21) (by decide) (fun hj => ?_) (fun hj => ?_)
  rotate_left
  · exact absurd rfl hj
  exact R_return hC dAB_inflateIfNeededFor_a7421_21 rfl ⟨rfl, rfl⟩
theorem w_getBytes {G : Gl} {S : Sh} {n : Nat} {l : Launch} {M : Mem} (e : EX S n) {t r2 : Nat} {σ : List Int} (ht : t < n) (hr2 : r2 < n) (hS : STG S M t r2 σ) (hb9 : σ.length ≤ 65536) {rd md : Nat} {cp : Int} (hrd : rd < n) (hkd : S.1 rd = (22, md)) (hc0 : 0 ≤ cp) (hc1 : cp + (σ.length : Int) ≤ md) (hmd : md ≤ 65536) : Ct G S n l 1 mS_getBytes_840e7 [vR t, vR rd, vI cp, vI 0] M (RV (fun M' => M' = cpM M rd cp r2 0 σ.length)) := by
  refine R_start (by decide +kernel) (Nat.le_of_ble_eq_true rfl) (fun C hC hRm hlau => ?_)
  show RZ G S C (Zn G S n C (RV (fun M' => M' = cpM M rd cp r2 0 σ.length))) 0 0 n 0 [some (vR t), some (vR rd), some (vI cp), some (vI 0)] [] M
  have hcp : inI (cp * 2 ^ (0 : Int).toNat) := by rw [show cp * 2 ^ (0 : Int).toNat = cp by simp]; exact ⟨by omega, by omega⟩
  refine R_aload_0 hC dS_getBytes_840e7_0 ?_
  refine R_callVq (as := []) hC dS_getBytes_840e7_1 mo_107_coder jm_coder ht hS.1 rfl (w_coder e ht hr2 hS) rfl rfl hRm (by decide) (by decide) (Nat.le_of_ble_eq_true rfl) ?_
  refine R_iload_3 hC dS_getBytes_840e7_4 ?_
  refine R_icmp_ne hC dS_getBytes_840e7_5 (tgt := 28) (by decide) (fun hj => ?_) (fun hj => ?_)
  · exact absurd rfl hj
  refine R_aload_0 hC dS_getBytes_840e7_8 ?_
  refine R_getR hC dS_getBytes_840e7_9 flS_9 ht hS.1 (by decide) (by rw [e.2.2.1]; rfl) (fi := 0) rfl (r := r2) (hS.2.2.1) ?_
  refine R_iconst hC dS_getBytes_840e7_12 ⟨by decide, by decide⟩ ?_
  refine R_aload_1 hC dS_getBytes_840e7_13 ?_
  refine R_iload_2 hC dS_getBytes_840e7_14 ?_
  refine R_iload_3 hC dS_getBytes_840e7_15 ?_
  refine R_ishl hC dS_getBytes_840e7_16 (by decide) (by decide) hcp ?_
  rw [show cp * 2 ^ (0 : Int).toNat = cp by simp]
  refine R_aload_0 hC dS_getBytes_840e7_17 ?_
  refine R_getR hC dS_getBytes_840e7_18 flS_9 ht hS.1 (by decide) (by rw [e.2.2.1]; rfl) (fi := 0) rfl (r := r2) (hS.2.2.1) ?_
  refine R_alen hC dS_getBytes_840e7_21 hr2 hS.2.1 (by decide) (by decide) (by omega) ?_
  refine R_copyB hC dS_getBytes_840e7_22 mlS_212 hr2 hS.2.1 hrd hkd (by decide) hc0 (by omega) (by omega) hc1 hS.by ⟨by have := hRm.1; omega, by have := hRm.2; omega⟩ (Nat.le_of_ble_eq_true rfl) ?_
  refine R_goto hC dS_getBytes_840e7_25 (tgt := 43) (by decide) ?_
  exact R_return hC dS_getBytes_840e7_43 rfl ⟨rfl, rfl⟩
theorem w_putS {G : Gl} {S : Sh} {n : Nat} {l : Launch} {M : Mem} {b r m : Nat} {τ : List Int} (e : EX S n) (hb : b < n) (hr : r < n) (hB : BLD S M b r m τ) {t r2 : Nat} {σ : List Int} (ht : t < n) (hr2 : r2 < n) (hS : STG S M t r2 σ) (hb9 : σ.length ≤ 65536) {cp : Int} (hc0 : 0 ≤ cp) (hc1 : cp + (σ.length : Int) ≤ m) : Ct G S n l 2 mAB_putStringAt_47b60 [vR b, vI cp, vR t] M (RV (fun M' => M' = cpM M r cp r2 0 σ.length)) := by
  refine R_start (by decide +kernel) (Nat.le_of_ble_eq_true rfl) (fun C hC hRm hlau => ?_)
  show RZ G S C (Zn G S n C (RV (fun M' => M' = cpM M r cp r2 0 σ.length))) 0 0 n 0 [some (vR b), some (vI cp), some (vR t)] [] M
  refine R_aload_0 hC dAB_putStringAt_47b60_0 ?_
  refine R_aload_2 hC dAB_putStringAt_47b60_1 ?_
  refine R_callU (as := [vR t]) hC dAB_putStringAt_47b60_2 mumAB_inflateIfNeededFor_a7421 semAB_inflateIfNeededFor_a7421 mlAB_397 hb hB.1 rfl (w_infl e hb hr hB ht hr2 hS hb9) rfl rfl (room_ok hRm (by decide) (Nat.le_of_ble_eq_true rfl)) (Nat.le_of_ble_eq_true rfl) (fun o M' z => ?_)
  rw [z.1, z.2]
  show RZ G S C _ 0 0 n 5 _ [] M
  refine R_aload_2 hC dAB_putStringAt_47b60_5 ?_
  refine R_aload_0 hC dAB_putStringAt_47b60_6 ?_
  refine R_getR hC dAB_putStringAt_47b60_7 flAB_15 hb hB.1 (by decide) (by rw [e.2.2.1]; rfl) (fi := 0) rfl (r := r) (hB.2.2.1) ?_
  refine R_iload_1 hC dAB_putStringAt_47b60_10 ?_
  refine R_aload_0 hC dAB_putStringAt_47b60_11 ?_
  refine R_getIE hC dAB_putStringAt_47b60_12 flAB_22 hb hB.1 (by decide) (by rw [e.2.2.1]; decide) (fi := 1) rfl (hB.2.2.2.1) ?_
  refine R_callVv (as := [vR r, vI cp, vI 0]) hC dAB_putStringAt_47b60_15 momS_getBytes_840e7 mlAB_399 ht hS.1 rfl (w_getBytes e ht hr2 hS hb9 hr hB.2.1 hc0 hc1 (by have := hB.2.2.2.2.2.1.2; omega)) rfl rfl hRm (by decide) (by decide) (Nat.le_of_ble_eq_true rfl) (fun M' z => ?_)
  exact R_return hC dAB_putStringAt_47b60_18 rfl ⟨rfl, z⟩
theorem c_infl {G : Gl} {S : Sh} {n : Nat} {l : Launch} {M : Mem} {b r m : Nat} {τ : List Int} (e : EX S n) (hb : b < n) (hr : r < n) (hB : BLD S M b r m τ) {i : Nat} (hi : i < 13) : Ct G S n l 1 mAB_inflateIfNeededFor_a7421 [vR b, vR (1000 + i)] M (RV (fun M' => M' = M)) := by
  refine R_start (by decide +kernel) (Nat.le_of_ble_eq_true rfl) (fun C hC hRm hlau => ?_)
  show RZ G S C (Zn G S n C (RV (fun M' => M' = M))) 0 0 n 0 [some (vR b), some (vR (1000 + i))] [] M
  refine R_csz hC dAB_inflateIfNeededFor_a7421_0 fwAB_18 ?_
  refine R_if_eq hC dAB_inflateIfNeededFor_a7421_3 (tgt := 21) (by decide) (fun hj => ?_) (fun hj => ?_)
  · exact absurd hj (by decide)
  refine R_aload_0 hC dAB_inflateIfNeededFor_a7421_6 ?_
  refine R_getIE hC dAB_inflateIfNeededFor_a7421_7 flAB_22 hb hB.1 (by decide) (by rw [e.2.2.1]; decide) (fi := 1) rfl (hB.2.2.2.1) ?_
  refine R_aload_1 hC dAB_inflateIfNeededFor_a7421_10 ?_
  refine R_callVS (as := []) hC dAB_inflateIfNeededFor_a7421_11 mo_107_coder mlAB_40 hi rfl (c107_coder hi) rfl rfl hRm (by decide) (by decide) (Nat.le_of_ble_eq_true rfl) ?_
  refine R_icmp_eq hC dAB_inflateIfNeededFor_a7421_14 (tgt := 21) (by decide) (fun hj => ?_) (fun hj => ?_)
  rotate_left
  · exact absurd rfl hj
  exact R_return hC dAB_inflateIfNeededFor_a7421_21 rfl ⟨rfl, rfl⟩
theorem c_getBytes {G : Gl} {S : Sh} {n : Nat} {l : Launch} {M : Mem} (e : EX S n) {i : Nat} (hi : i < 13) {rd md : Nat} {cp : Int} (hrd : rd < n) (hkd : S.1 rd = (22, md)) (hc0 : 0 ≤ cp) (hc1 : cp + (lnS i : Int) ≤ md) (hmd : md ≤ 65536) : Ct G S n l 1 mS_getBytes_840e7 [vR (1000 + i), vR rd, vI cp, vI 0] M (RV (fun M' => M' = cpT M rd cp i (lnS i))) := by
  refine R_start (by decide +kernel) (Nat.le_of_ble_eq_true rfl) (fun C hC hRm hlau => ?_)
  show RZ G S C (Zn G S n C (RV (fun M' => M' = cpT M rd cp i (lnS i)))) 0 0 n 0 [some (vR (1000 + i)), some (vR rd), some (vI cp), some (vI 0)] [] M
  have hcp : inI (cp * 2 ^ (0 : Int).toNat) := by rw [show cp * 2 ^ (0 : Int).toNat = cp by simp]; exact ⟨by omega, by omega⟩
  refine R_aload_0 hC dS_getBytes_840e7_0 ?_
  refine R_callVS (as := []) hC dS_getBytes_840e7_1 mo_107_coder jm_coder hi rfl (c107_coder hi) rfl rfl hRm (by decide) (by decide) (Nat.le_of_ble_eq_true rfl) ?_
  refine R_iload_3 hC dS_getBytes_840e7_4 ?_
  refine R_icmp_ne hC dS_getBytes_840e7_5 (tgt := 28) (by decide) (fun hj => ?_) (fun hj => ?_)
  · exact absurd rfl hj
  refine R_aload_0 hC dS_getBytes_840e7_8 ?_
  refine R_strV hC hi dS_getBytes_840e7_9 jf_value ?_
  refine R_iconst hC dS_getBytes_840e7_12 ⟨by decide, by decide⟩ ?_
  refine R_aload_1 hC dS_getBytes_840e7_13 ?_
  refine R_iload_2 hC dS_getBytes_840e7_14 ?_
  refine R_iload_3 hC dS_getBytes_840e7_15 ?_
  refine R_ishl hC dS_getBytes_840e7_16 (by decide) (by decide) hcp ?_
  rw [show cp * 2 ^ (0 : Int).toNat = cp by simp]
  refine R_aload_0 hC dS_getBytes_840e7_17 ?_
  refine R_strV hC hi dS_getBytes_840e7_18 jf_value ?_
  refine R_alenS hC hi dS_getBytes_840e7_21 ?_
  refine R_copyT hC hi dS_getBytes_840e7_22 mlS_212 hrd hkd hc0 rfl hc1 ⟨by have := hRm.1; omega, by have := hRm.2; omega⟩ (Nat.le_of_ble_eq_true rfl) ?_
  refine R_goto hC dS_getBytes_840e7_25 (tgt := 43) (by decide) ?_
  exact R_return hC dS_getBytes_840e7_43 rfl ⟨rfl, rfl⟩
theorem c_putS {G : Gl} {S : Sh} {n : Nat} {l : Launch} {M : Mem} {b r m : Nat} {τ : List Int} (e : EX S n) (hb : b < n) (hr : r < n) (hB : BLD S M b r m τ) {i : Nat} (hi : i < 13) {cp : Int} (hc0 : 0 ≤ cp) (hc1 : cp + (lnS i : Int) ≤ m) : Ct G S n l 2 mAB_putStringAt_47b60 [vR b, vI cp, vR (1000 + i)] M (RV (fun M' => M' = cpT M r cp i (lnS i))) := by
  refine R_start (by decide +kernel) (Nat.le_of_ble_eq_true rfl) (fun C hC hRm hlau => ?_)
  show RZ G S C (Zn G S n C (RV (fun M' => M' = cpT M r cp i (lnS i)))) 0 0 n 0 [some (vR b), some (vI cp), some (vR (1000 + i))] [] M
  refine R_aload_0 hC dAB_putStringAt_47b60_0 ?_
  refine R_aload_2 hC dAB_putStringAt_47b60_1 ?_
  refine R_callU (as := [vR (1000 + i)]) hC dAB_putStringAt_47b60_2 mumAB_inflateIfNeededFor_a7421 semAB_inflateIfNeededFor_a7421 mlAB_397 hb hB.1 rfl (c_infl e hb hr hB hi) rfl rfl (room_ok hRm (by decide) (Nat.le_of_ble_eq_true rfl)) (Nat.le_of_ble_eq_true rfl) (fun o M' z => ?_)
  rw [z.1, z.2]
  show RZ G S C _ 0 0 n 5 _ [] M
  refine R_aload_2 hC dAB_putStringAt_47b60_5 ?_
  refine R_aload_0 hC dAB_putStringAt_47b60_6 ?_
  refine R_getR hC dAB_putStringAt_47b60_7 flAB_15 hb hB.1 (by decide) (by rw [e.2.2.1]; rfl) (fi := 0) rfl (r := r) (hB.2.2.1) ?_
  refine R_iload_1 hC dAB_putStringAt_47b60_10 ?_
  refine R_aload_0 hC dAB_putStringAt_47b60_11 ?_
  refine R_getIE hC dAB_putStringAt_47b60_12 flAB_22 hb hB.1 (by decide) (by rw [e.2.2.1]; decide) (fi := 1) rfl (hB.2.2.2.1) ?_
  refine R_callVSG (as := [vR r, vI cp, vI 0]) hC dAB_putStringAt_47b60_15 momS_getBytes_840e7 mlAB_399 hi rfl (c_getBytes e hi hr hB.2.1 hc0 hc1 (by have := hB.2.2.2.2.2.1.2; omega)) rfl rfl (room_ok hRm (by decide) (Nat.le_of_ble_eq_true rfl)) (Nat.le_of_ble_eq_true rfl) (fun o M' z => ?_)
  obtain ⟨rfl, z⟩ := z
  show RZ G S C _ 0 0 n 18 _ [] M'
  exact R_return hC dAB_putStringAt_47b60_18 rfl ⟨rfl, z⟩
theorem a_newLength {G : Gl} {S : Sh} {n : Nat} {l : Launch} {M : Mem} {a b c : Int} (h0 : 0 ≤ a) (h1 : a ≤ 65536) (h2 : 1 ≤ b) (h3 : b ≤ 65536) (h4 : 0 ≤ c) (h5 : c ≤ 70000) : Ct G S n l 1 mAS_newLength_cabcc [vI a, vI b, vI c] M (Ret (vI (a + max b c)) M) := by
  refine R_start (by decide +kernel) (Nat.le_of_ble_eq_true rfl) (fun C hC hRm hlau => ?_)
  show RZ G S C (Zn G S n C (Ret (vI (a + max b c)) M)) 0 0 n 0 [some (vI a), some (vI b), some (vI c), none] [] M
  refine R_iload_0 hC dAS_newLength_cabcc_0 ?_
  refine R_iload_1 hC dAS_newLength_cabcc_1 ?_
  refine R_iload_2 hC dAS_newLength_cabcc_2 ?_
  refine R_max hC dAS_newLength_cabcc_3 mlAS_194 hRm (by decide) (Nat.le_of_ble_eq_true rfl) ?_
  refine R_iadd hC dAS_newLength_cabcc_6 ⟨by omega, by omega⟩ ?_
  refine R_istore_3 hC dAS_newLength_cabcc_7 rfl ?_
  refine R_iconst hC dAS_newLength_cabcc_8 ⟨by decide, by decide⟩ ?_
  refine R_iload_3 hC dAS_newLength_cabcc_9 ?_
  refine R_icmp_ge hC dAS_newLength_cabcc_10 (tgt := 21) (by decide) (fun hj => ?_) (fun hj => ?_)
  · exfalso; omega
  refine R_iload_3 hC dAS_newLength_cabcc_13 ?_
  refine R_ldc hC dAS_newLength_cabcc_14 ckAS_200 (c := 2147483639) (by decide +kernel) ⟨by decide, by decide⟩ ?_
  refine R_icmp_gt hC dAS_newLength_cabcc_16 (tgt := 21) (by decide) (fun hj => ?_) (fun hj => ?_)
  · exfalso; omega
  refine R_iload_3 hC dAS_newLength_cabcc_19 ?_
  exact R_ireturn hC dAS_newLength_cabcc_20 rfl ⟨rfl, rfl⟩
theorem b_newCap {G : Gl} {S : Sh} {n : Nat} {l : Launch} {M : Mem} {b r m : Nat} {τ : List Int} (e : EX S n) (hb : b < n) (hr : r < n) (hB : BLD S M b r m τ) {mc : Int} (h1 : (m : Int) < mc) (h2 : mc ≤ 700) : Ct G S n l 2 mAB_newCapacity_0f7a4 [vR b, vI mc] M (Ret (vI ((m : Int) + max (mc - m) (m + 2))) M) := by
  refine R_start (by decide +kernel) (Nat.le_of_ble_eq_true rfl) (fun C hC hRm hlau => ?_)
  show RZ G S C (Zn G S n C (Ret (vI ((m : Int) + max (mc - m) (m + 2))) M)) 0 0 n 0 [some (vR b), some (vI mc), none, none, none, none] [] M
  have hmb := hB.2.2.2.2.2.1.2
  refine R_aload_0 hC dAB_newCapacity_0f7a4_0 ?_
  refine R_getR hC dAB_newCapacity_0f7a4_1 flAB_15 hb hB.1 (by decide) (by rw [e.2.2.1]; rfl) (fi := 0) rfl (r := r) (hB.2.2.1) ?_
  refine R_alen hC dAB_newCapacity_0f7a4_4 hr hB.2.1 (by decide) (by decide) (by omega) ?_
  refine R_istore_2 hC dAB_newCapacity_0f7a4_5 rfl ?_
  refine R_iload_1 hC dAB_newCapacity_0f7a4_6 ?_
  refine R_aload_0 hC dAB_newCapacity_0f7a4_7 ?_
  refine R_getIE hC dAB_newCapacity_0f7a4_8 flAB_22 hb hB.1 (by decide) (by rw [e.2.2.1]; decide) (fi := 1) rfl (hB.2.2.2.1) ?_
  refine R_ishl hC dAB_newCapacity_0f7a4_11 (by decide) (by decide) (by rw [show mc * 2 ^ (0 : Int).toNat = mc by simp]; exact ⟨by omega, by omega⟩) ?_
  rw [show mc * 2 ^ (0 : Int).toNat = mc by simp]
  refine R_istore_3 hC dAB_newCapacity_0f7a4_12 rfl ?_
  refine R_iload_3 hC dAB_newCapacity_0f7a4_13 ?_
  refine R_iload_2 hC dAB_newCapacity_0f7a4_14 ?_
  refine R_isub hC dAB_newCapacity_0f7a4_15 ⟨by omega, by omega⟩ ?_
  refine R_istore_4 hC dAB_newCapacity_0f7a4_16 rfl ?_
  refine R_iload_2 hC dAB_newCapacity_0f7a4_18 ?_
  refine R_iload_4 hC dAB_newCapacity_0f7a4_19 ?_
  refine R_iload_2 hC dAB_newCapacity_0f7a4_21 ?_
  refine R_iconst hC dAB_newCapacity_0f7a4_22 ⟨by decide, by decide⟩ ?_
  refine R_aload_0 hC dAB_newCapacity_0f7a4_23 ?_
  refine R_getIE hC dAB_newCapacity_0f7a4_24 flAB_22 hb hB.1 (by decide) (by rw [e.2.2.1]; decide) (fi := 1) rfl (hB.2.2.2.1) ?_
  refine R_ishl hC dAB_newCapacity_0f7a4_27 (by decide) (by decide) (by rw [show (2 : Int) * 2 ^ (0 : Int).toNat = (2 : Int) by simp]; exact ⟨by omega, by omega⟩) ?_
  rw [show (2 : Int) * 2 ^ (0 : Int).toNat = (2 : Int) by simp]
  refine R_iadd hC dAB_newCapacity_0f7a4_28 ⟨by omega, by omega⟩ ?_
  refine R_callSq (as := [vI _, vI _, vI _]) hC dAB_newCapacity_0f7a4_29 momAS_newLength_cabcc mlAB_114 (a_newLength (by omega) (by omega) (by omega) (by omega) (by omega) (by omega)) rfl rfl hRm (by decide) (by decide) (Nat.le_of_ble_eq_true rfl) ?_
  refine R_istore_5 hC dAB_newCapacity_0f7a4_32 rfl ?_
  refine R_iload_5 hC dAB_newCapacity_0f7a4_34 ?_
  refine R_ldc hC dAB_newCapacity_0f7a4_36 ckAB_39 (c := 2147483647) (by decide +kernel) ⟨by decide, by decide⟩ ?_
  refine R_icmp_ne hC dAB_newCapacity_0f7a4_38 (tgt := 51) (by decide) (fun hj => ?_) (fun hj => ?_)
  rotate_left
  · exfalso; omega
  refine R_iload_5 hC dAB_newCapacity_0f7a4_51 ?_
  refine R_aload_0 hC dAB_newCapacity_0f7a4_53 ?_
  refine R_getIE hC dAB_newCapacity_0f7a4_54 flAB_22 hb hB.1 (by decide) (by rw [e.2.2.1]; decide) (fi := 1) rfl (hB.2.2.2.1) ?_
  refine R_ishr hC dAB_newCapacity_0f7a4_57 (by decide) (by decide) ?_
  exact R_ireturn hC dAB_newCapacity_0f7a4_58 rfl (ret_I (by simp))
theorem i_size {G : Gl} {S : Sh} {n : Nat} {l : Launch} {M : Mem} {v : Int} (h0 : 0 ≤ v) (h1 : v < 100) : Ct G S n l 0 mIN_stringSize_0f7a4 [vI v] M (Ret (vI (if v < 10 then 1 else 2)) M) := by
  refine R_start (by decide +kernel) (Nat.le_of_ble_eq_true rfl) (fun C hC hRm hlau => ?_)
  show RZ G S C (Zn G S n C (Ret (vI (if v < 10 then 1 else 2)) M)) 0 0 n 0 [some (vI v), none, none, none] [] M
  refine R_iconst hC dIN_stringSize_0f7a4_0 ⟨by decide, by decide⟩ ?_
  refine R_istore_1 hC dIN_stringSize_0f7a4_1 rfl ?_
  refine R_iload_0 hC dIN_stringSize_0f7a4_2 ?_
  refine R_if_lt hC dIN_stringSize_0f7a4_3 (tgt := 11) (by decide) (fun hj => ?_) (fun hj => ?_)
  · exfalso; omega
  refine R_iconst hC dIN_stringSize_0f7a4_6 ⟨by decide, by decide⟩ ?_
  refine R_istore_1 hC dIN_stringSize_0f7a4_7 rfl ?_
  refine R_iload_0 hC dIN_stringSize_0f7a4_8 ?_
  refine R_ineg hC dIN_stringSize_0f7a4_9 ⟨by omega, by omega⟩ ?_
  refine R_istore_0 hC dIN_stringSize_0f7a4_10 ?_
  refine R_bipush hC dIN_stringSize_0f7a4_11 (by decide +kernel) ⟨by decide, by decide⟩ ?_
  refine R_istore_2 hC dIN_stringSize_0f7a4_13 rfl ?_
  refine R_iconst hC dIN_stringSize_0f7a4_14 ⟨by decide, by decide⟩ ?_
  refine R_istore_3 hC dIN_stringSize_0f7a4_15 rfl ?_
  refine R_iload_3 hC dIN_stringSize_0f7a4_16 ?_
  refine R_bipush hC dIN_stringSize_0f7a4_17 (by decide +kernel) ⟨by decide, by decide⟩ ?_
  refine R_icmp_ge hC dIN_stringSize_0f7a4_19 (tgt := 42) (by decide) (fun hj => ?_) (fun hj => ?_)
  · exfalso; omega
  refine R_iload_0 hC dIN_stringSize_0f7a4_22 ?_
  refine R_iload_2 hC dIN_stringSize_0f7a4_23 ?_
  by_cases h10 : v < 10
  · rw [if_pos h10]
    refine R_icmp_le hC dIN_stringSize_0f7a4_24 (tgt := 31) (by decide) (fun hj => ?_) (fun hj => ?_)
    · exfalso; omega
    refine R_iload_3 hC dIN_stringSize_0f7a4_27 ?_
    refine R_iload_1 hC dIN_stringSize_0f7a4_28 ?_
    refine R_iadd hC dIN_stringSize_0f7a4_29 ⟨by decide, by decide⟩ ?_
    exact R_ireturn hC dIN_stringSize_0f7a4_30 rfl ⟨rfl, rfl⟩
  rw [if_neg h10]
  refine R_icmp_le hC dIN_stringSize_0f7a4_24 (tgt := 31) (by decide) (fun hj => ?_) (fun hj => ?_)
  rotate_left
  · exfalso; omega
  refine R_bipush hC dIN_stringSize_0f7a4_31 (by decide +kernel) ⟨by decide, by decide⟩ ?_
  refine R_iload_2 hC dIN_stringSize_0f7a4_33 ?_
  refine R_imul hC dIN_stringSize_0f7a4_34 ⟨by decide, by decide⟩ ?_
  refine R_istore_2 hC dIN_stringSize_0f7a4_35 rfl ?_
  refine R_iinc_3 hC dIN_stringSize_0f7a4_36 rfl ⟨by omega, by omega⟩ ?_
  refine R_goto hC dIN_stringSize_0f7a4_39 (tgt := 16) (by decide) ?_
  refine R_iload_3 hC dIN_stringSize_0f7a4_16 ?_
  refine R_bipush hC dIN_stringSize_0f7a4_17 (by decide +kernel) ⟨by decide, by decide⟩ ?_
  refine R_icmp_ge hC dIN_stringSize_0f7a4_19 (tgt := 42) (by decide) (fun hj => ?_) (fun hj => ?_)
  · exfalso; omega
  refine R_iload_0 hC dIN_stringSize_0f7a4_22 ?_
  refine R_iload_2 hC dIN_stringSize_0f7a4_23 ?_
  refine R_icmp_le hC dIN_stringSize_0f7a4_24 (tgt := 31) (by decide) (fun hj => ?_) (fun hj => ?_)
  · exfalso; omega
  refine R_iload_3 hC dIN_stringSize_0f7a4_27 ?_
  refine R_iload_1 hC dIN_stringSize_0f7a4_28 ?_
  refine R_iadd hC dIN_stringSize_0f7a4_29 ⟨by omega, by omega⟩ ?_
  exact R_ireturn hC dIN_stringSize_0f7a4_30 rfl ⟨rfl, rfl⟩
theorem i_chars {G : Gl} {S : Sh} {n : Nat} {l : Launch} {M : Mem} {r m : Nat} {v c p : Int} (hr : r < n) (hk : S.1 r = (22, m)) (h0 : 0 ≤ v) (h1 : v < 100) (hp : p = c + if v < 10 then 1 else 2) (hc0 : 0 ≤ c) (hc1 : p ≤ m) (hm : m ≤ 65536) : Ct G S n l 0 mIN_getChars_ba4f3 [vI v, vI p, vR r] M (RP (fun _ M' => M' = dgM M r c v)) := by
  refine R_start (by decide +kernel) (Nat.le_of_ble_eq_true rfl) (fun C hC hRm hlau => ?_)
  show RZ G S C (Zn G S n C (RP (fun _ M' => M' = dgM M r c v))) 0 0 n 0 [some (vI v), some (vI p), some (vR r), none, none, none, none] [] M
  have hq1 : 0 ≤ p + -1 ∧ p + -1 < m := by split at hp <;> omega
  refine R_iload_1 hC dIN_getChars_ba4f3_0 ?_
  refine R_istore_5 hC dIN_getChars_ba4f3_1 rfl ?_
  refine R_iload_0 hC dIN_getChars_ba4f3_3 ?_
  refine R_if_ge hC dIN_getChars_ba4f3_4 (tgt := 11) (by decide) (fun hj => ?_) (fun hj => ?_)
  rotate_left
  · exfalso; omega
  refine R_iconst hC dIN_getChars_ba4f3_11 ⟨by decide, by decide⟩ ?_
  refine R_istore_6 hC dIN_getChars_ba4f3_12 rfl ?_
  refine R_iload_6 hC dIN_getChars_ba4f3_14 ?_
  refine R_if_ne hC dIN_getChars_ba4f3_16 (tgt := 22) (by decide) (fun hj => ?_) (fun hj => ?_)
  · exact absurd rfl hj
  refine R_iload_0 hC dIN_getChars_ba4f3_19 ?_
  refine R_ineg hC dIN_getChars_ba4f3_20 ⟨by omega, by omega⟩ ?_
  refine R_istore_0 hC dIN_getChars_ba4f3_21 ?_
  refine R_iload_0 hC dIN_getChars_ba4f3_22 ?_
  refine R_bipush hC dIN_getChars_ba4f3_23 (by decide +kernel) ⟨by decide, by decide⟩ ?_
  refine R_icmp_gt hC dIN_getChars_ba4f3_25 (tgt := 72) (by decide) (fun hj => ?_) (fun hj => ?_)
  rotate_left
  · exfalso; omega
  refine R_aload_2 hC dIN_getChars_ba4f3_72 ?_
  refine R_iinc_5 hC dIN_getChars_ba4f3_73 rfl ⟨by omega, by omega⟩ ?_
  refine R_iload_5 hC dIN_getChars_ba4f3_76 ?_
  refine R_dgO hC dIN_getChars_ba4f3_78 fwIN_83 ?_
  refine R_iload_0 hC dIN_getChars_ba4f3_81 ?_
  refine R_ineg hC dIN_getChars_ba4f3_82 ⟨by omega, by omega⟩ ?_
  rw [Int.neg_neg]
  refine R_balO hC dIN_getChars_ba4f3_83 h0 h1 ?_
  refine R_bastore hC dIN_getChars_ba4f3_84 hr hk hq1.1 hq1.2 ⟨by omega, by omega⟩ ?_
  refine R_iload_0 hC dIN_getChars_ba4f3_85 ?_
  refine R_bipush hC dIN_getChars_ba4f3_86 (by decide +kernel) ⟨by decide, by decide⟩ ?_
  refine R_icmp_ge hC dIN_getChars_ba4f3_88 (tgt := 104) (by decide) (fun hj => ?_) (fun hj => ?_)
  · rw [if_pos (by omega)] at hp
    refine R_iload_6 hC dIN_getChars_ba4f3_104 ?_
    refine R_if_eq hC dIN_getChars_ba4f3_106 (tgt := 118) (by decide) (fun hj => ?_) (fun hj => ?_)
    rotate_left
    · exact absurd rfl hj
    refine R_iload_5 hC dIN_getChars_ba4f3_118 ?_
    exact R_ireturn hC dIN_getChars_ba4f3_120 rfl (ret_P (by unfold dgM; rw [if_pos (by omega), show p + -1 = c by omega, show v % 10 = v by omega]))
  rw [if_neg (by omega)] at hp
  refine R_aload_2 hC dIN_getChars_ba4f3_91 ?_
  refine R_iinc_5 hC dIN_getChars_ba4f3_92 rfl ⟨by omega, by omega⟩ ?_
  refine R_iload_5 hC dIN_getChars_ba4f3_95 ?_
  refine R_dgT hC dIN_getChars_ba4f3_97 fwIN_87 ?_
  refine R_iload_0 hC dIN_getChars_ba4f3_100 ?_
  refine R_ineg hC dIN_getChars_ba4f3_101 ⟨by omega, by omega⟩ ?_
  rw [Int.neg_neg]
  refine R_balT hC dIN_getChars_ba4f3_102 h0 h1 ?_
  refine R_bastore hC dIN_getChars_ba4f3_103 hr hk (by omega) (by omega) ⟨by omega, by omega⟩ ?_
  refine R_iload_6 hC dIN_getChars_ba4f3_104 ?_
  refine R_if_eq hC dIN_getChars_ba4f3_106 (tgt := 118) (by decide) (fun hj => ?_) (fun hj => ?_)
  rotate_left
  · exact absurd rfl hj
  refine R_iload_5 hC dIN_getChars_ba4f3_118 ?_
  exact R_ireturn hC dIN_getChars_ba4f3_120 rfl (ret_P (by unfold dgM; rw [if_neg (by omega), show p + -1 = c + 1 by omega, show c + 1 + -1 = c by omega]))
set_option maxHeartbeats 1000000 in
theorem a_copyOf {g : Nat → Nat} {q : Gq} {S : Sh} {n : Nat} {l : Launch} {M : Mem} {r m N : Nat} (e : EX S n) (rb : RB S n M) (hn : n < 1000) (hr : r < n) (hk : S.1 r = (22, m)) (hBY : BY M r m) (h1 : m < N) (h2 : N ≤ 1402) : CtD g q S n l 1 1 1402 mAR_copyOf_9075b [vR r, vI (N : Int)] M (fun o S' n' M' => o = some (vR n) ∧ S' = push S n (22, N) ∧ n' = n + 1 ∧ M' = cpM (setR M n (fun _ => 0)) n 0 r 0 m) := by
  refine R_startD (by decide +kernel) (Nat.le_of_ble_eq_true rfl) (fun C hC hN hRm hlau => ?_)
  show RZ (g, q) S C (ZD g q S n C (fun o S' n' M' => o = some (vR n) ∧ S' = push S n (22, N) ∧ n' = n + 1 ∧ M' = cpM (setR M n (fun _ => 0)) n 0 r 0 m) 1 1402) 0 0 n 0 [some (vR r), some (vI (N : Int)), none] [] M
  have hR0 : RmOK C 1 := ⟨by rw [hRm]; exact Nat.le_refl _, by rw [hRm]; exact Nat.le_refl _⟩
  refine R_iload_1 hC dAR_copyOf_9075b_0 ?_
  refine R_aload_0 hC dAR_copyOf_9075b_1 ?_
  refine R_alen hC dAR_copyOf_9075b_2 hr hk (by decide) (by decide) (by omega) ?_
  refine R_icmp_ne hC dAR_copyOf_9075b_3 (tgt := 14) (by decide) (fun hj => ?_) (fun hj => ?_)
  rotate_left
  · exfalso; omega
  refine R_iload_1 hC dAR_copyOf_9075b_14 ?_
  refine R_newAd (kd := 22) (N := N) hC e dAR_copyOf_9075b_15 rfl (.inr rfl) w_arrB rfl (by omega) hn rb (hls_R hr (hls_I (hls_N hls_0))) hst_0 (by rw [hRm]; exact Nat.le_of_ble_eq_true rfl) (by rw [hRm]; show 0 + N ≤ 1402; omega) (fun g1 ga1 e1 rb1 => ?_)
  have hC1 := CxOK.ga ga1 hC
  have hk1 : (push S n (22, N)).1 r = (22, m) := (push_o (by omega)).trans hk
  have hB1 : BY (setR M n (fun _ => 0)) r m := fun j a b => by rw [setR_o (by omega)]; exact hBY j a b
  refine R_astore_2 hC1 dAR_copyOf_9075b_17 rfl ?_
  refine R_aload_0 hC1 dAR_copyOf_9075b_18 ?_
  refine R_iconst hC1 dAR_copyOf_9075b_19 ⟨by decide, by decide⟩ ?_
  refine R_aload_2 hC1 dAR_copyOf_9075b_20 ?_
  refine R_iconst hC1 dAR_copyOf_9075b_21 ⟨by decide, by decide⟩ ?_
  refine R_aload_0 hC1 dAR_copyOf_9075b_22 ?_
  refine R_alen hC1 dAR_copyOf_9075b_23 (by omega) hk1 (by decide) (by decide) (by omega) ?_
  refine R_iload_1 hC1 dAR_copyOf_9075b_24 ?_
  refine R_minG hC1 dAR_copyOf_9075b_25 mlAR_304 (by rw [hRm]; exact ⟨Nat.le_of_ble_eq_true rfl, Nat.le_of_ble_eq_true rfl, Nat.le_of_ble_eq_true rfl, by show 0 + N ≤ 1402; omega⟩) (Nat.le_of_ble_eq_true rfl) ?_
  rw [show min (m : Int) N = m by omega]
  refine R_copyB hC1 dAR_copyOf_9075b_28 mlAR_150 (by omega) hk1 (by omega) push_s (by decide) (by decide) (by omega) (by omega) (by omega) hB1 (by rw [hRm]; exact ⟨Nat.le_of_ble_eq_true rfl, Nat.le_of_ble_eq_true rfl⟩) (Nat.le_of_ble_eq_true rfl) ?_
  refine R_aload_2 hC1 dAR_copyOf_9075b_31 ?_
  exact R_aretD hC1 dAR_copyOf_9075b_32 rfl (.inr ⟨_, rfl⟩) (by decide) (by omega) ga1 (Nat.le_succ n) e1 (fun h hh => push_o (by omega)) (rb1.row push_s (fun a z => cpM_ne z)) (.inl (Nat.lt_succ_self n)) ⟨rfl, rfl, rfl, rfl⟩
theorem a_chk {G : Gl} {S : Sh} {n : Nat} {l : Launch} {M : Mem} {a b : Int} (h : a ≤ b) : Ct G S n l 0 mAR_checkLength_df160 [vI a, vI b] M (RV (fun M' => M' = M)) := by
  refine R_start (by decide +kernel) (Nat.le_of_ble_eq_true rfl) (fun C hC hRm hlau => ?_)
  show RZ G S C (Zn G S n C (RV (fun M' => M' = M))) 0 0 n 0 [some (vI a), some (vI b)] [] M
  refine R_iload_1 hC dAR_checkLength_df160_0 ?_
  refine R_iload_0 hC dAR_checkLength_df160_1 ?_
  refine R_icmp_ge hC dAR_checkLength_df160_2 (tgt := 37) (by decide) (fun hj => ?_) (fun hj => ?_)
  rotate_left
  · exfalso; omega
  exact R_return hC dAR_checkLength_df160_37 rfl ⟨rfl, rfl⟩
theorem cp_set {M : Mem} {n r : Nat} {N : Int} (h : r ≠ n) (hN : 0 ≤ N) : cpM (setR M n (fun _ => 0)) n 0 r 0 N = setR M n (fun j => if 0 ≤ j ∧ j < N then M r j else 0) := by
  funext a b
  unfold cpM
  by_cases z : a = n
  · subst z
    have e0 : setR M a (fun j => if 0 ≤ j ∧ j < N then M r j else 0) a b = if 0 ≤ b ∧ b < N then M r b else 0 := setR_s
    rw [e0]
    by_cases c : 0 ≤ b ∧ b < N
    · rw [if_pos ⟨rfl, c.1, by omega⟩, if_pos c, setR_o h]
      congr 1
      omega
    · rw [if_neg (fun q => c ⟨q.2.1, by omega⟩), if_neg c, setR_s]
  · rw [if_neg (fun q => z q.1), setR_o z, setR_o z]
set_option maxHeartbeats 1000000 in
theorem a_rangeB {g : Nat → Nat} {q : Gq} {S : Sh} {n : Nat} {l : Launch} {M : Mem} {r m N : Nat} (e : EX S n) (rb : RB S n M) (hn : n < 1000) (hr : r < n) (hk : S.1 r = (22, m)) (hBY : BY M r m) (h1 : N ≤ m) (h2 : m ≤ 1402) : CtD g q S n l 1 1 1402 mAR_copyOfRangeByte_39247 [vR r, vI 0, vI (N : Int)] M (fun o S' n' M' => o = some (vR n) ∧ S' = push S n (22, N) ∧ n' = n + 1 ∧ ∃ f : Int → Int, M' = setR M n f ∧ ∀ j : Int, 0 ≤ j → j < N → f j = M r j) := by
  refine R_startD (by decide +kernel) (Nat.le_of_ble_eq_true rfl) (fun C hC hN hRm hlau => ?_)
  show RZ (g, q) S C (ZD g q S n C (fun o S' n' M' => o = some (vR n) ∧ S' = push S n (22, N) ∧ n' = n + 1 ∧ ∃ f : Int → Int, M' = setR M n f ∧ ∀ j : Int, 0 ≤ j → j < N → f j = M r j) 1 1402) 0 0 n 0 [some (vR r), some (vI 0), some (vI (N : Int)), none, none] [] M
  have hR0 : RmOK C 1 := ⟨by rw [hRm]; exact Nat.le_refl _, by rw [hRm]; exact Nat.le_refl _⟩
  refine R_iload_1 hC dAR_copyOfRangeByte_39247_0 ?_
  refine R_iload_2 hC dAR_copyOfRangeByte_39247_1 ?_
  refine R_callSv (as := [vI _, vI _]) hC dAR_copyOfRangeByte_39247_2 momAR_checkLength_df160 mlAR_343 (a_chk (by omega)) rfl rfl hR0 (by decide) (by decide) (Nat.le_of_ble_eq_true rfl) (fun M' z => ?_)
  rw [z]
  refine R_iload_2 hC dAR_copyOfRangeByte_39247_5 ?_
  refine R_iload_1 hC dAR_copyOfRangeByte_39247_6 ?_
  refine R_isub hC dAR_copyOfRangeByte_39247_7 ⟨by omega, by omega⟩ ?_
  rw [show (N : Int) - 0 = N by omega]
  refine R_istore_3 hC dAR_copyOfRangeByte_39247_8 rfl ?_
  refine R_iload_3 hC dAR_copyOfRangeByte_39247_9 ?_
  refine R_newAd (kd := 22) (N := N) hC e dAR_copyOfRangeByte_39247_10 rfl (.inr rfl) w_arrB rfl (by omega) hn rb (hls_R hr (hls_I (hls_I (hls_I (hls_N hls_0))))) hst_0 (by rw [hRm]; exact Nat.le_of_ble_eq_true rfl) (by rw [hRm]; show 0 + N ≤ 1402; omega) (fun g1 ga1 e1 rb1 => ?_)
  have hC1 := CxOK.ga ga1 hC
  have hk1 : (push S n (22, N)).1 r = (22, m) := (push_o (by omega)).trans hk
  have hB1 : BY (setR M n (fun _ => 0)) r m := fun j a b => by rw [setR_o (by omega)]; exact hBY j a b
  refine R_astore_4 hC1 dAR_copyOfRangeByte_39247_12 rfl ?_
  refine R_aload_0 hC1 dAR_copyOfRangeByte_39247_14 ?_
  refine R_iload_1 hC1 dAR_copyOfRangeByte_39247_15 ?_
  refine R_aload_4 hC1 dAR_copyOfRangeByte_39247_16 ?_
  refine R_iconst hC1 dAR_copyOfRangeByte_39247_18 ⟨by decide, by decide⟩ ?_
  refine R_aload_0 hC1 dAR_copyOfRangeByte_39247_19 ?_
  refine R_alen hC1 dAR_copyOfRangeByte_39247_20 (by omega) hk1 (by decide) (by decide) (by omega) ?_
  refine R_iload_1 hC1 dAR_copyOfRangeByte_39247_21 ?_
  refine R_isub hC1 dAR_copyOfRangeByte_39247_22 ⟨by omega, by omega⟩ ?_
  rw [show (m : Int) - 0 = m by omega]
  refine R_iload_3 hC1 dAR_copyOfRangeByte_39247_23 ?_
  refine R_minG hC1 dAR_copyOfRangeByte_39247_24 mlAR_304 (by rw [hRm]; exact ⟨Nat.le_of_ble_eq_true rfl, Nat.le_of_ble_eq_true rfl, Nat.le_of_ble_eq_true rfl, by show 0 + N ≤ 1402; omega⟩) (Nat.le_of_ble_eq_true rfl) ?_
  rw [show min (m : Int) N = N by omega]
  refine R_copyB hC1 dAR_copyOfRangeByte_39247_27 mlAR_150 (by omega) hk1 (by omega) push_s (by decide) (by decide) (by omega) (by omega) (by omega) hB1 (by rw [hRm]; exact ⟨Nat.le_of_ble_eq_true rfl, Nat.le_of_ble_eq_true rfl⟩) (Nat.le_of_ble_eq_true rfl) ?_
  refine R_aload_4 hC1 dAR_copyOfRangeByte_39247_30 ?_
  exact R_aretD hC1 dAR_copyOfRangeByte_39247_32 rfl (.inr ⟨_, rfl⟩) (by decide) (by omega) ga1 (Nat.le_succ n) e1 (fun h hh => push_o (by omega)) (rb1.row push_s (fun a z => cpM_ne z)) (.inl (Nat.lt_succ_self n)) ⟨rfl, rfl, rfl, (fun j => if 0 ≤ j ∧ j < N then M r j else 0), cp_set (by omega) (by omega), fun j a b => if_pos ⟨a, b⟩⟩
set_option maxHeartbeats 1000000 in
theorem a_range {g : Nat → Nat} {q : Gq} {S : Sh} {n : Nat} {l : Launch} {M : Mem} {r m N : Nat} (e : EX S n) (rb : RB S n M) (hn : n < 1000) (hr : r < n) (hk : S.1 r = (22, m)) (hBY : BY M r m) (h1 : N ≤ m) (h2 : m ≤ 1402) : CtD g q S n l 2 1 1402 mAR_copyOfRange_39247 [vR r, vI 0, vI (N : Int)] M (fun o S' n' M' => o = some (vR n) ∧ S' = push S n (22, N) ∧ n' = n + 1 ∧ ∃ f : Int → Int, M' = setR M n f ∧ ∀ j : Int, 0 ≤ j → j < N → f j = M r j) := by
  refine R_startD (by decide +kernel) (Nat.le_of_ble_eq_true rfl) (fun C hC hN hRm hlau => ?_)
  show RZ (g, q) S C (ZD g q S n C (fun o S' n' M' => o = some (vR n) ∧ S' = push S n (22, N) ∧ n' = n + 1 ∧ ∃ f : Int → Int, M' = setR M n f ∧ ∀ j : Int, 0 ≤ j → j < N → f j = M r j) 1 1402) 0 0 n 0 [some (vR r), some (vI 0), some (vI (N : Int))] [] M
  have hR0 : RmOK C 2 := ⟨by rw [hRm]; exact Nat.le_refl _, by rw [hRm]; exact Nat.le_refl _⟩
  refine R_iload_1 hC dAR_copyOfRange_39247_0 ?_
  refine R_if_ne hC dAR_copyOfRange_39247_1 (tgt := 10) (by decide) (fun hj => ?_) (fun hj => ?_)
  · exact absurd rfl hj
  refine R_iload_2 hC dAR_copyOfRange_39247_4 ?_
  refine R_aload_0 hC dAR_copyOfRange_39247_5 ?_
  refine R_alen hC dAR_copyOfRange_39247_6 hr hk (by decide) (by decide) (by omega) ?_
  refine R_icmp_eq hC dAR_copyOfRange_39247_7 (tgt := 17) (by decide) (fun hj => ?_) (fun hj => ?_)
  · obtain rfl : N = m := by omega
    refine R_aload_0 hC dAR_copyOfRange_39247_17 ?_
    refine R_cloneB hC e dAR_copyOfRange_39247_18 mlAR_310 wcl_same wcl_nat wcl_inst wcl_sel wcl_cast hr hk (by omega) hBY hn rb (hls_R hr (hls_I (hls_I hls_0))) hst_0 (by rw [hRm]; exact ⟨Nat.le_of_ble_eq_true rfl, Nat.le_of_ble_eq_true rfl⟩) (Nat.le_of_ble_eq_true rfl) (by rw [hRm]; exact Nat.le_of_ble_eq_true rfl) (by rw [hRm]; show 0 + N ≤ 1402; omega) (fun g1 ga1 e1 rb1 => ?_)
    have hC1 := CxOK.ga ga1 hC
    refine R_castB hC1 dAR_copyOfRange_39247_21 cwAR_311 (by omega) push_s ?_
    exact R_aretD hC1 dAR_copyOfRange_39247_24 rfl (.inr ⟨_, rfl⟩) (by decide) (by omega) ga1 (Nat.le_succ n) e1 (fun h hh => push_o (by omega)) rb1 (.inl (Nat.lt_succ_self n)) ⟨rfl, rfl, rfl, _, rfl, fun j _ _ => rfl⟩
  · skip
    refine R_aload_0 hC dAR_copyOfRange_39247_10 ?_
    refine R_iload_1 hC dAR_copyOfRange_39247_11 ?_
    refine R_iload_2 hC dAR_copyOfRange_39247_12 ?_
    refine R_callSD (as := [vR r, vI 0, vI N]) hC dAR_copyOfRange_39247_13 momAR_copyOfRangeByte_39247 mlAR_339 (a_rangeB e rb hn hr hk hBY h1 h2) rfl rfl (by rw [hRm]; exact ⟨Nat.le_of_ble_eq_true rfl, Nat.le_of_ble_eq_true rfl, Nat.le_of_ble_eq_true rfl, Nat.le_of_ble_eq_true rfl⟩) (Nat.le_of_ble_eq_true rfl) (hls_R hr (hls_I (hls_I hls_0))) hst_0 (fun g1 S1 n1 o1 M1 ga1 hn1 e1 hs1 hq rb1 ho => ?_)
    obtain ⟨rfl, rfl, rfl, hf⟩ := hq
    have hC1 := CxOK.ga ga1 hC
    show RZ (g1, q) (push S n (22, N)) C _ _ _ (n + 1) 16 _ [vR n] M1
    exact R_aretD hC1 dAR_copyOfRange_39247_16 rfl (.inr ⟨_, rfl⟩) (by decide) (by decide) ga1 (Nat.le_succ n) e1 hs1 rb1 (.inl (Nat.lt_succ_self n)) ⟨rfl, rfl, rfl, hf⟩
set_option maxHeartbeats 1000000 in
theorem b_ensure {g : Nat → Nat} {q : Gq} {S : Sh} {n : Nat} {l : Launch} {M : Mem} {b r m : Nat} {τ : List Int} (e : EX S n) (rb : RB S n M) (hn : n < 1000) (hb : b < n) (hr : r < n) (hB : BLD S M b r m τ) {c : Nat} (hc : c ≤ 700) : CtD g q S n l 3 1 1402 mAB_ensureCapacityInternal_d00df [vR b, vI (c : Int)] M (fun o S' n' M' => o = none ∧ n' ≤ n + 1 ∧ ∃ r' m' : Nat, r' < n' ∧ (r' = r ∨ r' = n) ∧ BLD S' M' b r' m' τ ∧ c ≤ m' ∧ ∀ h, h < n → h ≠ b → M' h = M h) := by
  refine R_startD (by decide +kernel) (Nat.le_of_ble_eq_true rfl) (fun C hC hN hRm hlau => ?_)
  show RZ (g, q) S C (ZD g q S n C (fun o S' n' M' => o = none ∧ n' ≤ n + 1 ∧ ∃ r' m' : Nat, r' < n' ∧ (r' = r ∨ r' = n) ∧ BLD S' M' b r' m' τ ∧ c ≤ m' ∧ ∀ h, h < n → h ≠ b → M' h = M h) 1 1402) 0 0 n 0 [some (vR b), some (vI (c : Int)), none] [] M
  have hR0 : RmOK C 3 := ⟨by rw [hRm]; exact Nat.le_refl _, by rw [hRm]; exact Nat.le_refl _⟩
  have hmb := hB.2.2.2.2.2.1.2
  refine R_aload_0 hC dAB_ensureCapacityInternal_d00df_0 ?_
  refine R_getR hC dAB_ensureCapacityInternal_d00df_1 flAB_15 hb hB.1 (by decide) (by rw [e.2.2.1]; rfl) (fi := 0) rfl (r := r) (hB.2.2.1) ?_
  refine R_alen hC dAB_ensureCapacityInternal_d00df_4 hr hB.2.1 (by decide) (by decide) (by omega) ?_
  refine R_aload_0 hC dAB_ensureCapacityInternal_d00df_5 ?_
  refine R_getIE hC dAB_ensureCapacityInternal_d00df_6 flAB_22 hb hB.1 (by decide) (by rw [e.2.2.1]; decide) (fi := 1) rfl (hB.2.2.2.1) ?_
  refine R_ishr hC dAB_ensureCapacityInternal_d00df_9 (by decide) (by decide) ?_
  rw [show (m : Int) / 2 ^ (0 : Int).toNat = m by simp]
  refine R_istore_2 hC dAB_ensureCapacityInternal_d00df_10 rfl ?_
  refine R_iload_1 hC dAB_ensureCapacityInternal_d00df_11 ?_
  refine R_iload_2 hC dAB_ensureCapacityInternal_d00df_12 ?_
  refine R_isub hC dAB_ensureCapacityInternal_d00df_13 ⟨by omega, by omega⟩ ?_
  refine R_if_le hC dAB_ensureCapacityInternal_d00df_14 (tgt := 38) (by decide) (fun hj => ?_) (fun hj => ?_)
  · exact R_vretD hC dAB_ensureCapacityInternal_d00df_38 rfl (by decide) (by decide) GA.rf (Nat.le_refl n) e (fun _ _ => rfl) rb ⟨rfl, Nat.le_succ n, r, m, hr, .inl rfl, hB, by omega, fun _ _ _ => rfl⟩
  have hN : ∃ N : Nat, (N : Int) = (m : Int) + max ((c : Int) - m) (m + 2) ∧ m < N ∧ N ≤ 1402 ∧ c ≤ N := ⟨m + max (c - m) (m + 2), by omega, by omega, by omega, by omega⟩
  obtain ⟨N, eN, N1, N2, N3⟩ := hN
  refine R_aload_0 hC dAB_ensureCapacityInternal_d00df_17 ?_
  refine R_aload_0 hC dAB_ensureCapacityInternal_d00df_18 ?_
  refine R_getR hC dAB_ensureCapacityInternal_d00df_19 flAB_15 hb hB.1 (by decide) (by rw [e.2.2.1]; rfl) (fi := 0) rfl (r := r) (hB.2.2.1) ?_
  refine R_aload_0 hC dAB_ensureCapacityInternal_d00df_22 ?_
  refine R_iload_1 hC dAB_ensureCapacityInternal_d00df_23 ?_
  refine R_callU (as := [vI c]) hC dAB_ensureCapacityInternal_d00df_24 mumAB_newCapacity_0f7a4 semAB_newCapacity_0f7a4 mlAB_104 hb hB.1 rfl (b_newCap e hb hr hB (by omega) (by omega)) rfl rfl (by rw [hRm]; exact ⟨Nat.le_of_ble_eq_true rfl, Nat.le_of_ble_eq_true rfl, Nat.le_of_ble_eq_true rfl, Nat.le_of_ble_eq_true rfl⟩) (Nat.le_of_ble_eq_true rfl) (fun o M' h => ?_)
  rw [h.1, h.2]
  show RZ (g, q) S C _ 0 0 n 27 _ [vI _, vR r, vR b] M
  rw [← eN]
  refine R_aload_0 hC dAB_ensureCapacityInternal_d00df_27 ?_
  refine R_getIE hC dAB_ensureCapacityInternal_d00df_28 flAB_22 hb hB.1 (by decide) (by rw [e.2.2.1]; decide) (fi := 1) rfl (hB.2.2.2.1) ?_
  refine R_ishl hC dAB_ensureCapacityInternal_d00df_31 (by decide) (by decide) (by rw [show (N : Int) * 2 ^ (0 : Int).toNat = (N : Int) by simp]; exact ⟨by omega, by omega⟩) ?_
  rw [show (N : Int) * 2 ^ (0 : Int).toNat = (N : Int) by simp]
  refine R_callSD (as := [vR r, vI N]) hC dAB_ensureCapacityInternal_d00df_32 momAR_copyOf_9075b mlAB_108 (a_copyOf e rb hn hr hB.2.1 hB.2.2.2.2.2.2.1 N1 N2) rfl rfl (by rw [hRm]; exact ⟨Nat.le_of_ble_eq_true rfl, Nat.le_of_ble_eq_true rfl, Nat.le_of_ble_eq_true rfl, Nat.le_of_ble_eq_true rfl⟩) (Nat.le_of_ble_eq_true rfl) (hls_R hb (hls_I (hls_I hls_0))) (hst_R hb hst_0) (fun g1 S1 n1 o1 M1 ga1 hn1 e1 hs1 hq rb1 ho => ?_)
  obtain ⟨rfl, rfl, rfl, rfl⟩ := hq
  have hC1 := CxOK.ga ga1 hC
  show RZ (g1, q) (push S n (22, N)) C _ _ _ (n + 1) 35 _ [vR n, vR b] _
  refine R_putR hC1 dAB_ensureCapacityInternal_d00df_35 flAB_15 (by omega) ((push_o (by omega)).trans hB.1) (by decide) (by rw [e1.2.2.1]; rfl) (by omega) (fi := 0) rfl ?_
  exact R_vretD hC1 dAB_ensureCapacityInternal_d00df_38 rfl (by decide) (by decide) ga1 (Nat.le_succ n) e1 hs1 (rb1.put (Int.ofNat_lt.mpr (Nat.lt_succ_self n))) ⟨rfl, Nat.le_refl _, n, N, Nat.lt_succ_self n, .inr rfl, hB.grow hb hr (by omega) N2, N3, fun h hh hne => (uM_ne hne).trans ((cpM_ne (by omega)).trans (funext fun j => setR_o (by omega)))⟩
set_option maxHeartbeats 1000000 in
theorem w_app5 {g : Nat → Nat} {q : Gq} {S : Sh} {n : Nat} {l : Launch} {M : Mem} {b r m : Nat} {τ : List Int} (e : EX S n) (rb : RB S n M) (hn : n < 1000) (hb : b < n) (hr : r < n) (hB : BLD S M b r m τ) {t r2 : Nat} {σ : List Int} (ht : t < n) (hr2 : r2 < n) (hne : r2 ≠ r) (hS : STG S M t r2 σ) (hb9 : τ.length + σ.length ≤ 700) : CtD g q S n l 4 1 1402 mAB_append_cf1ce [vR b, vR t] M (fun o S' n' M' => o = some (vR b) ∧ n' ≤ n + 1 ∧ ∃ r' m' : Nat, r' < n' ∧ (r' = r ∨ r' = n) ∧ BLD S' M' b r' m' (τ ++ σ) ∧ ∀ h, h < n → h ≠ b → h ≠ r → M' h = M h) := by
  refine R_startD (by decide +kernel) (Nat.le_of_ble_eq_true rfl) (fun C hC hN hRm hlau => ?_)
  show RZ (g, q) S C (ZD g q S n C (fun o S' n' M' => o = some (vR b) ∧ n' ≤ n + 1 ∧ ∃ r' m' : Nat, r' < n' ∧ (r' = r ∨ r' = n) ∧ BLD S' M' b r' m' (τ ++ σ) ∧ ∀ h, h < n → h ≠ b → h ≠ r → M' h = M h) 1 1402) 0 0 n 0 [some (vR b), some (vR t), none] [] M
  have hR0 : RmOK C 4 := ⟨by rw [hRm]; exact Nat.le_refl _, by rw [hRm]; exact Nat.le_refl _⟩
  refine R_aload_1 hC dAB_append_cf1ce_0 ?_
  refine R_ifnonnull hC dAB_append_cf1ce_1 (tgt := 9) (by decide) ?_
  refine R_aload_1 hC dAB_append_cf1ce_9 ?_
  refine R_callV (as := []) hC dAB_append_cf1ce_10 mo_107_length mlAB_32 ht hS.1 rfl (w_length e ht hr2 hS (by omega)) rfl rfl (by rw [hRm]; exact ⟨Nat.le_of_ble_eq_true rfl, Nat.le_of_ble_eq_true rfl, Nat.le_of_ble_eq_true rfl, Nat.le_of_ble_eq_true rfl⟩) (Nat.le_of_ble_eq_true rfl) (fun o M' h => ?_)
  rw [h.1, h.2]
  show RZ (g, q) S C _ 0 0 n 13 _ [vI (σ.length : Int)] M
  refine R_istore_2 hC dAB_append_cf1ce_13 rfl ?_
  refine R_aload_0 hC dAB_append_cf1ce_14 ?_
  refine R_aload_0 hC dAB_append_cf1ce_15 ?_
  refine R_getIE hC dAB_append_cf1ce_16 flAB_79 hb hB.1 (by decide) (by rw [e.2.2.1]; decide) (fi := 3) rfl (hB.2.2.2.2.1) ?_
  refine R_iload_2 hC dAB_append_cf1ce_19 ?_
  refine R_iadd hC dAB_append_cf1ce_20 ⟨by omega, by omega⟩ ?_
  rw [show (τ.length : Int) + (σ.length : Int) = ((τ.length + σ.length : Nat) : Int) by omega]
  refine R_callUD (as := [vI ((τ.length + σ.length : Nat) : Int)]) hC dAB_append_cf1ce_21 mumAB_ensureCapacityInternal_d00df semAB_ensureCapacityInternal_d00df mlAB_100 hb hB.1 rfl (b_ensure e rb hn hb hr hB hb9) rfl rfl (by rw [hRm]; exact ⟨Nat.le_of_ble_eq_true rfl, Nat.le_of_ble_eq_true rfl, Nat.le_of_ble_eq_true rfl, Nat.le_of_ble_eq_true rfl⟩) (Nat.le_of_ble_eq_true rfl) (hls_R hb (hls_R ht (hls_I hls_0))) hst_0 (fun g1 S1 n1 o1 M1 ga1 hn1 e1 hs1 hq rb1 ho => ?_)
  obtain ⟨rfl, hn2, r1, m1, hr1, hr1e, hB1, hc1, hk1⟩ := hq
  have hC1 := CxOK.ga ga1 hC
  have hb1 : b < n1 := by omega
  have ht1 : t < n1 := by omega
  have hr21 : r2 < n1 := by omega
  have htb : t ≠ b := fun z => by have := hS.1; rw [z, hB.1] at this; cases this
  have hrb : r2 ≠ b := fun z => by have := hS.2.1; rw [z, hB.1] at this; cases this
  have hS1 : STG S1 M1 t r2 σ := hS.keep ht hr2 hs1 (hk1 t ht htb) (hk1 r2 hr2 hrb)
  show RZ (g1, q) S1 C _ _ _ n1 24 _ [] M1
  refine R_aload_0 hC1 dAB_append_cf1ce_24 ?_
  refine R_aload_0 hC1 dAB_append_cf1ce_25 ?_
  refine R_getIE hC1 dAB_append_cf1ce_26 flAB_79 hb1 hB1.1 (by decide) (by rw [e1.2.2.1]; decide) (fi := 3) rfl (hB1.2.2.2.2.1) ?_
  refine R_aload_1 hC1 dAB_append_cf1ce_29 ?_
  refine R_callU (as := [vI τ.length, vR t]) hC1 dAB_append_cf1ce_30 mumAB_putStringAt_47b60 semAB_putStringAt_47b60 mlAB_208 hb1 hB1.1 rfl (w_putS e1 hb1 hr1 hB1 ht1 hr21 hS1 (by omega) (by omega) (by omega)) rfl rfl (by rw [hRm]; exact ⟨Nat.le_of_ble_eq_true rfl, Nat.le_of_ble_eq_true rfl, Nat.le_of_ble_eq_true rfl, Nat.le_of_ble_eq_true rfl⟩) (Nat.le_of_ble_eq_true rfl) (fun o2 M2 h2 => ?_)
  obtain ⟨rfl, rfl⟩ := h2
  have hA : ADD M1 (cpM M1 r1 (τ.length : Int) r2 0 σ.length) r1 τ.length σ := ADD.S hS1 (by rcases hr1e with z | z <;> omega)
  show RZ (g1, q) S1 C _ _ _ n1 33 _ [] (cpM M1 r1 (τ.length : Int) r2 0 σ.length)
  refine R_aload_0 hC1 dAB_append_cf1ce_33 ?_
  refine R_dup hC1 dAB_append_cf1ce_34 rfl ?_
  refine R_getIE hC1 dAB_append_cf1ce_35 flAB_79 hb1 hB1.1 (by decide) (by rw [e1.2.2.1]; decide) (fi := 3) rfl ((congrFun (hA.1 b hB1.ne) 3).trans hB1.2.2.2.2.1) ?_
  refine R_iload_2 hC1 dAB_append_cf1ce_38 ?_
  refine R_iadd hC1 dAB_append_cf1ce_39 ⟨by omega, by omega⟩ ?_
  refine R_putI hC1 dAB_append_cf1ce_40 flAB_79 hb1 hB1.1 (by decide) (by rw [e1.2.2.1]; rfl) (fi := 3) rfl ?_
  refine R_aload_0 hC1 dAB_append_cf1ce_43 ?_
  exact R_aretD hC1 dAB_append_cf1ce_44 rfl (.inl ⟨_, rfl⟩) (by decide) (by decide) ga1 hn1 e1 hs1 (RB.putI (f := 3) (rb1.row hB1.2.1 hA.1) (by rw [hB1.1, e1.2.2.1]; decide)) (.inl hb1) ⟨rfl, hn2, r1, m1, hr1, hr1e, hB1.add hA (hS.2.2.2.2.2) (by omega) (by rw [List.length_append]; omega), fun h hh hne hnr => (uM_ne hne).trans ((hA.1 h (by rcases hr1e with z | z <;> omega)).trans (hk1 h hh hne))⟩
set_option maxHeartbeats 1000000 in
theorem w_app {g : Nat → Nat} {q : Gq} {S : Sh} {n : Nat} {l : Launch} {M : Mem} {b r m : Nat} {τ : List Int} (e : EX S n) (rb : RB S n M) (hn : n < 1000) (hb : b < n) (hr : r < n) (hB : BLD S M b r m τ) {t r2 : Nat} {σ : List Int} (ht : t < n) (hr2 : r2 < n) (hne : r2 ≠ r) (hS : STG S M t r2 σ) (hb9 : τ.length + σ.length ≤ 700) : CtD g q S n l 5 1 1402 mSB_append_15ec4 [vR b, vR t] M (fun o S' n' M' => o = some (vR b) ∧ n' ≤ n + 1 ∧ ∃ r' m' : Nat, r' < n' ∧ (r' = r ∨ r' = n) ∧ BLD S' M' b r' m' (τ ++ σ) ∧ ∀ h, h < n → h ≠ b → h ≠ r → M' h = M h) := by
  refine R_startD (by decide +kernel) (Nat.le_of_ble_eq_true rfl) (fun C hC hN hRm hlau => ?_)
  show RZ (g, q) S C (ZD g q S n C (fun o S' n' M' => o = some (vR b) ∧ n' ≤ n + 1 ∧ ∃ r' m' : Nat, r' < n' ∧ (r' = r ∨ r' = n) ∧ BLD S' M' b r' m' (τ ++ σ) ∧ ∀ h, h < n → h ≠ b → h ≠ r → M' h = M h) 1 1402) 0 0 n 0 [some (vR b), some (vR t)] [] M
  have hR0 : RmOK C 5 := ⟨by rw [hRm]; exact Nat.le_refl _, by rw [hRm]; exact Nat.le_refl _⟩
  refine R_aload_0 hC dSB_append_15ec4_0 ?_
  refine R_aload_1 hC dSB_append_15ec4_1 ?_
  refine R_callSuD (as := [vR t]) hC dSB_append_15ec4_2 mumAB_append_cf1ces su_SB (by decide) mlSB_29 hb hB.1 rfl (w_app5 e rb hn hb hr hB ht hr2 hne hS hb9) rfl rfl (by rw [hRm]; exact ⟨Nat.le_of_ble_eq_true rfl, Nat.le_of_ble_eq_true rfl, Nat.le_of_ble_eq_true rfl, Nat.le_of_ble_eq_true rfl⟩) (Nat.le_of_ble_eq_true rfl) (hls_R hb (hls_R ht hls_0)) hst_0 (fun g1 S1 n1 o1 M1 ga1 hn1 e1 hs1 hq rb1 ho => ?_)
  have hC1 := CxOK.ga ga1 hC
  obtain ⟨rfl, hq2⟩ := hq
  have hb1 : b < n1 := by omega
  show RZ (g1, q) S1 C _ _ _ n1 5 _ [vR b] M1
  refine R_pop hC1 dSB_append_15ec4_5 rfl ?_
  refine R_aload_0 hC1 dSB_append_15ec4_6 ?_
  exact R_aretD hC1 dSB_append_15ec4_7 rfl (.inl ⟨_, rfl⟩) (by decide) (by decide) ga1 hn1 e1 hs1 rb1 (.inl hb1) ⟨rfl, hq2⟩
set_option maxHeartbeats 1000000 in
theorem c_app5 {g : Nat → Nat} {q : Gq} {S : Sh} {n : Nat} {l : Launch} {M : Mem} {b r m : Nat} {τ : List Int} (e : EX S n) (rb : RB S n M) (hn : n < 1000) (hb : b < n) (hr : r < n) (hB : BLD S M b r m τ) {i : Nat} (hi : i < 13) (hb9 : τ.length + (sL i).length ≤ 700) : CtD g q S n l 4 1 1402 mAB_append_cf1ce [vR b, vR (1000 + i)] M (fun o S' n' M' => o = some (vR b) ∧ n' ≤ n + 1 ∧ ∃ r' m' : Nat, r' < n' ∧ (r' = r ∨ r' = n) ∧ BLD S' M' b r' m' (τ ++ (sL i)) ∧ ∀ h, h < n → h ≠ b → h ≠ r → M' h = M h) := by
  refine R_startD (by decide +kernel) (Nat.le_of_ble_eq_true rfl) (fun C hC hN hRm hlau => ?_)
  show RZ (g, q) S C (ZD g q S n C (fun o S' n' M' => o = some (vR b) ∧ n' ≤ n + 1 ∧ ∃ r' m' : Nat, r' < n' ∧ (r' = r ∨ r' = n) ∧ BLD S' M' b r' m' (τ ++ (sL i)) ∧ ∀ h, h < n → h ≠ b → h ≠ r → M' h = M h) 1 1402) 0 0 n 0 [some (vR b), some (vR (1000 + i)), none] [] M
  have hR0 : RmOK C 4 := ⟨by rw [hRm]; exact Nat.le_refl _, by rw [hRm]; exact Nat.le_refl _⟩
  have hsl := sL_len i hi
  refine R_aload_1 hC dAB_append_cf1ce_0 ?_
  refine R_ifnonnull hC dAB_append_cf1ce_1 (tgt := 9) (by decide) ?_
  refine R_aload_1 hC dAB_append_cf1ce_9 ?_
  refine R_callVSG (as := []) hC dAB_append_cf1ce_10 mo_107_length mlAB_32 hi rfl (c107_length hi) rfl rfl (by rw [hRm]; exact ⟨Nat.le_of_ble_eq_true rfl, Nat.le_of_ble_eq_true rfl, Nat.le_of_ble_eq_true rfl, Nat.le_of_ble_eq_true rfl⟩) (Nat.le_of_ble_eq_true rfl) (fun o M' h => ?_)
  rw [h.1, h.2]
  show RZ (g, q) S C _ 0 0 n 13 _ [vI (lnS i : Int)] M
  refine R_istore_2 hC dAB_append_cf1ce_13 rfl ?_
  refine R_aload_0 hC dAB_append_cf1ce_14 ?_
  refine R_aload_0 hC dAB_append_cf1ce_15 ?_
  refine R_getIE hC dAB_append_cf1ce_16 flAB_79 hb hB.1 (by decide) (by rw [e.2.2.1]; decide) (fi := 3) rfl (hB.2.2.2.2.1) ?_
  refine R_iload_2 hC dAB_append_cf1ce_19 ?_
  refine R_iadd hC dAB_append_cf1ce_20 ⟨by omega, by omega⟩ ?_
  rw [show (τ.length : Int) + (lnS i : Int) = ((τ.length + (sL i).length : Nat) : Int) by omega]
  refine R_callUD (as := [vI ((τ.length + (sL i).length : Nat) : Int)]) hC dAB_append_cf1ce_21 mumAB_ensureCapacityInternal_d00df semAB_ensureCapacityInternal_d00df mlAB_100 hb hB.1 rfl (b_ensure e rb hn hb hr hB hb9) rfl rfl (by rw [hRm]; exact ⟨Nat.le_of_ble_eq_true rfl, Nat.le_of_ble_eq_true rfl, Nat.le_of_ble_eq_true rfl, Nat.le_of_ble_eq_true rfl⟩) (Nat.le_of_ble_eq_true rfl) (hls_R hb (hls_K (Nat.le_add_right 1000 i) (hls_I hls_0))) hst_0 (fun g1 S1 n1 o1 M1 ga1 hn1 e1 hs1 hq rb1 ho => ?_)
  obtain ⟨rfl, hn2, r1, m1, hr1, hr1e, hB1, hc1, hk1⟩ := hq
  have hC1 := CxOK.ga ga1 hC
  have hb1 : b < n1 := by omega
  show RZ (g1, q) S1 C _ _ _ n1 24 _ [] M1
  refine R_aload_0 hC1 dAB_append_cf1ce_24 ?_
  refine R_aload_0 hC1 dAB_append_cf1ce_25 ?_
  refine R_getIE hC1 dAB_append_cf1ce_26 flAB_79 hb1 hB1.1 (by decide) (by rw [e1.2.2.1]; decide) (fi := 3) rfl (hB1.2.2.2.2.1) ?_
  refine R_aload_1 hC1 dAB_append_cf1ce_29 ?_
  refine R_callU (as := [vI τ.length, vR (1000 + i)]) hC1 dAB_append_cf1ce_30 mumAB_putStringAt_47b60 semAB_putStringAt_47b60 mlAB_208 hb1 hB1.1 rfl (c_putS e1 hb1 hr1 hB1 hi (by omega) (by omega)) rfl rfl (by rw [hRm]; exact ⟨Nat.le_of_ble_eq_true rfl, Nat.le_of_ble_eq_true rfl, Nat.le_of_ble_eq_true rfl, Nat.le_of_ble_eq_true rfl⟩) (Nat.le_of_ble_eq_true rfl) (fun o2 M2 h2 => ?_)
  obtain ⟨rfl, rfl⟩ := h2
  have hA : ADD M1 (cpT M1 r1 (τ.length : Int) i (lnS i)) r1 τ.length (sL i) := ADD.T hi
  show RZ (g1, q) S1 C _ _ _ n1 33 _ [] (cpT M1 r1 (τ.length : Int) i (lnS i))
  refine R_aload_0 hC1 dAB_append_cf1ce_33 ?_
  refine R_dup hC1 dAB_append_cf1ce_34 rfl ?_
  refine R_getIE hC1 dAB_append_cf1ce_35 flAB_79 hb1 hB1.1 (by decide) (by rw [e1.2.2.1]; decide) (fi := 3) rfl ((congrFun (hA.1 b hB1.ne) 3).trans hB1.2.2.2.2.1) ?_
  refine R_iload_2 hC1 dAB_append_cf1ce_38 ?_
  refine R_iadd hC1 dAB_append_cf1ce_39 ⟨by omega, by omega⟩ ?_
  refine R_putI hC1 dAB_append_cf1ce_40 flAB_79 hb1 hB1.1 (by decide) (by rw [e1.2.2.1]; rfl) (fi := 3) rfl ?_
  refine R_aload_0 hC1 dAB_append_cf1ce_43 ?_
  exact R_aretD hC1 dAB_append_cf1ce_44 rfl (.inl ⟨_, rfl⟩) (by decide) (by decide) ga1 hn1 e1 hs1 (RB.putI (f := 3) (rb1.row hB1.2.1 hA.1) (by rw [hB1.1, e1.2.2.1]; decide)) (.inl hb1) ⟨rfl, hn2, r1, m1, hr1, hr1e, hB1.add hA (sL_7 i hi) (by omega) (by rw [List.length_append]; omega), fun h hh hne hnr => (uM_ne hne).trans ((hA.1 h (by rcases hr1e with z | z <;> omega)).trans (hk1 h hh hne))⟩
set_option maxHeartbeats 1000000 in
theorem c_app {g : Nat → Nat} {q : Gq} {S : Sh} {n : Nat} {l : Launch} {M : Mem} {b r m : Nat} {τ : List Int} (e : EX S n) (rb : RB S n M) (hn : n < 1000) (hb : b < n) (hr : r < n) (hB : BLD S M b r m τ) {i : Nat} (hi : i < 13) (hb9 : τ.length + (sL i).length ≤ 700) : CtD g q S n l 5 1 1402 mSB_append_15ec4 [vR b, vR (1000 + i)] M (fun o S' n' M' => o = some (vR b) ∧ n' ≤ n + 1 ∧ ∃ r' m' : Nat, r' < n' ∧ (r' = r ∨ r' = n) ∧ BLD S' M' b r' m' (τ ++ (sL i)) ∧ ∀ h, h < n → h ≠ b → h ≠ r → M' h = M h) := by
  refine R_startD (by decide +kernel) (Nat.le_of_ble_eq_true rfl) (fun C hC hN hRm hlau => ?_)
  show RZ (g, q) S C (ZD g q S n C (fun o S' n' M' => o = some (vR b) ∧ n' ≤ n + 1 ∧ ∃ r' m' : Nat, r' < n' ∧ (r' = r ∨ r' = n) ∧ BLD S' M' b r' m' (τ ++ (sL i)) ∧ ∀ h, h < n → h ≠ b → h ≠ r → M' h = M h) 1 1402) 0 0 n 0 [some (vR b), some (vR (1000 + i))] [] M
  have hR0 : RmOK C 5 := ⟨by rw [hRm]; exact Nat.le_refl _, by rw [hRm]; exact Nat.le_refl _⟩
  refine R_aload_0 hC dSB_append_15ec4_0 ?_
  refine R_aload_1 hC dSB_append_15ec4_1 ?_
  refine R_callSuD (as := [vR (1000 + i)]) hC dSB_append_15ec4_2 mumAB_append_cf1ces su_SB (by decide) mlSB_29 hb hB.1 rfl (c_app5 e rb hn hb hr hB hi hb9) rfl rfl (by rw [hRm]; exact ⟨Nat.le_of_ble_eq_true rfl, Nat.le_of_ble_eq_true rfl, Nat.le_of_ble_eq_true rfl, Nat.le_of_ble_eq_true rfl⟩) (Nat.le_of_ble_eq_true rfl) (hls_R hb (hls_K (Nat.le_add_right 1000 i) hls_0)) hst_0 (fun g1 S1 n1 o1 M1 ga1 hn1 e1 hs1 hq rb1 ho => ?_)
  have hC1 := CxOK.ga ga1 hC
  obtain ⟨rfl, hq2⟩ := hq
  have hb1 : b < n1 := by omega
  show RZ (g1, q) S1 C _ _ _ n1 5 _ [vR b] M1
  refine R_pop hC1 dSB_append_15ec4_5 rfl ?_
  refine R_aload_0 hC1 dSB_append_15ec4_6 ?_
  exact R_aretD hC1 dSB_append_15ec4_7 rfl (.inl ⟨_, rfl⟩) (by decide) (by decide) ga1 hn1 e1 hs1 rb1 (.inl hb1) ⟨rfl, hq2⟩
set_option maxHeartbeats 1000000 in
theorem i_app5 {g : Nat → Nat} {q : Gq} {S : Sh} {n : Nat} {l : Launch} {M : Mem} {b r m : Nat} {τ : List Int} (e : EX S n) (rb : RB S n M) (hn : n < 1000) (hb : b < n) (hr : r < n) (hB : BLD S M b r m τ) {v : Int} (h0 : 0 ≤ v) (h1 : v < 100) (hb9 : τ.length + 2 ≤ 700) : CtD g q S n l 4 1 1402 mAB_append_c97b9 [vR b, vI v] M (fun o S' n' M' => o = some (vR b) ∧ n' ≤ n + 1 ∧ ∃ r' m' : Nat, r' < n' ∧ (r' = r ∨ r' = n) ∧ BLD S' M' b r' m' (τ ++ dcL v) ∧ ∀ h, h < n → h ≠ b → h ≠ r → M' h = M h) := by
  refine R_startD (by decide +kernel) (Nat.le_of_ble_eq_true rfl) (fun C hC hN hRm hlau => ?_)
  show RZ (g, q) S C (ZD g q S n C (fun o S' n' M' => o = some (vR b) ∧ n' ≤ n + 1 ∧ ∃ r' m' : Nat, r' < n' ∧ (r' = r ∨ r' = n) ∧ BLD S' M' b r' m' (τ ++ dcL v) ∧ ∀ h, h < n → h ≠ b → h ≠ r → M' h = M h) 1 1402) 0 0 n 0 [some (vR b), some (vI v), none, none] [] M
  have hR0 : RmOK C 4 := ⟨by rw [hRm]; exact Nat.le_refl _, by rw [hRm]; exact Nat.le_refl _⟩
  refine R_aload_0 hC dAB_append_c97b9_0 ?_
  refine R_getIE hC dAB_append_c97b9_1 flAB_79 hb hB.1 (by decide) (by rw [e.2.2.1]; decide) (fi := 3) rfl (hB.2.2.2.2.1) ?_
  refine R_istore_2 hC dAB_append_c97b9_4 rfl ?_
  refine R_iload_2 hC dAB_append_c97b9_5 ?_
  refine R_iload_1 hC dAB_append_c97b9_6 ?_
  refine R_callSq (as := [vI _]) hC dAB_append_c97b9_7 momIN_stringSize_0f7a4 mlAB_245 (i_size h0 h1) rfl rfl hR0 (by decide) (by decide) (Nat.le_of_ble_eq_true rfl) ?_
  refine R_iadd hC dAB_append_c97b9_10 ⟨by split <;> omega, by split <;> omega⟩ ?_
  have hdl := dcL_len v
  rw [show (τ.length : Int) + (if v < 10 then 1 else 2) = ((τ.length + (dcL v).length : Nat) : Int) by omega]
  refine R_istore_3 hC dAB_append_c97b9_11 rfl ?_
  refine R_aload_0 hC dAB_append_c97b9_12 ?_
  refine R_iload_3 hC dAB_append_c97b9_13 ?_
  refine R_callUD (as := [vI ((τ.length + (dcL v).length : Nat) : Int)]) hC dAB_append_c97b9_14 mumAB_ensureCapacityInternal_d00df semAB_ensureCapacityInternal_d00df mlAB_100 hb hB.1 rfl (b_ensure e rb hn hb hr hB (by split at hdl <;> omega)) rfl rfl (by rw [hRm]; exact ⟨Nat.le_of_ble_eq_true rfl, Nat.le_of_ble_eq_true rfl, Nat.le_of_ble_eq_true rfl, Nat.le_of_ble_eq_true rfl⟩) (Nat.le_of_ble_eq_true rfl) (hls_R hb (hls_I (hls_I (hls_I hls_0)))) hst_0 (fun g1 S1 n1 o1 M1 ga1 hn1 e1 hs1 hq rb1 ho => ?_)
  obtain ⟨rfl, hn2, r1, m1, hr1, hr1e, hB1, hc1, hk1⟩ := hq
  have hC1 := CxOK.ga ga1 hC
  have hb1 : b < n1 := by omega
  show RZ (g1, q) S1 C _ _ _ n1 17 _ [] M1
  refine R_aload_0 hC1 dAB_append_c97b9_17 ?_
  refine R_callU (as := []) hC1 dAB_append_c97b9_18 mumAB_isLatin1_aae02 semAB_isLatin1_aae02 mlAB_83 hb1 hB1.1 rfl (b_isLatin1 e1 hb1 hr1 hB1) rfl rfl (by rw [hRm]; exact ⟨Nat.le_of_ble_eq_true rfl, Nat.le_of_ble_eq_true rfl, Nat.le_of_ble_eq_true rfl, Nat.le_of_ble_eq_true rfl⟩) (Nat.le_of_ble_eq_true rfl) (fun o2 M2 h2 => ?_)
  rw [h2.1, h2.2]
  show RZ (g1, q) S1 C _ _ _ n1 21 _ [vI 1] M1
  refine R_if_eq hC1 dAB_append_c97b9_21 (tgt := 37) (by decide) (fun hj => ?_) (fun hj => ?_)
  · exact absurd hj (by decide)
  refine R_iload_1 hC1 dAB_append_c97b9_24 ?_
  refine R_iload_3 hC1 dAB_append_c97b9_25 ?_
  refine R_aload_0 hC1 dAB_append_c97b9_26 ?_
  refine R_getR hC1 dAB_append_c97b9_27 flAB_15 hb1 hB1.1 (by decide) (by rw [e1.2.2.1]; rfl) (fi := 0) rfl (r := r1) (hB1.2.2.1) ?_
  refine R_callS (as := [vI v, vI ((τ.length + (dcL v).length : Nat) : Int), vR r1]) hC1 dAB_append_c97b9_30 momIN_getChars_ba4f3 mlAB_248 (i_chars (c := (τ.length : Int)) hr1 hB1.2.1 h0 h1 (by omega) (by omega) (by omega) (by have := hB1.2.2.2.2.2.1.2; omega)) rfl rfl (by rw [hRm]; exact ⟨Nat.le_of_ble_eq_true rfl, Nat.le_of_ble_eq_true rfl, Nat.le_of_ble_eq_true rfl, Nat.le_of_ble_eq_true rfl⟩) (Nat.le_of_ble_eq_true rfl) (fun o2 M2 h2 => ?_)
  obtain ⟨v2, rfl, rfl⟩ := h2
  have hA : ADD M1 (dgM M1 r1 (τ.length : Int) v) r1 τ.length (dcL v) := ADD.D
  show RZ (g1, q) S1 C _ _ _ n1 33 _ [vI v2] (dgM M1 r1 (τ.length : Int) v)
  refine R_pop hC1 dAB_append_c97b9_33 rfl ?_
  refine R_goto hC1 dAB_append_c97b9_34 (tgt := 48) (by decide) ?_
  refine R_aload_0 hC1 dAB_append_c97b9_48 ?_
  refine R_iload_3 hC1 dAB_append_c97b9_49 ?_
  refine R_putI hC1 dAB_append_c97b9_50 flAB_79 hb1 hB1.1 (by decide) (by rw [e1.2.2.1]; rfl) (fi := 3) rfl ?_
  refine R_aload_0 hC1 dAB_append_c97b9_53 ?_
  exact R_aretD hC1 dAB_append_c97b9_54 rfl (.inl ⟨_, rfl⟩) (by decide) (by decide) ga1 hn1 e1 hs1 (RB.putI (f := 3) (rb1.row hB1.2.1 hA.1) (by rw [hB1.1, e1.2.2.1]; decide)) (.inl hb1) ⟨rfl, hn2, r1, m1, hr1, hr1e, hB1.add hA (dcL_7 h0 h1) (by omega) (by rw [List.length_append]), fun h hh hne hnr => (uM_ne hne).trans ((hA.1 h (by rcases hr1e with z | z <;> omega)).trans (hk1 h hh hne))⟩
set_option maxHeartbeats 1000000 in
theorem i_app {g : Nat → Nat} {q : Gq} {S : Sh} {n : Nat} {l : Launch} {M : Mem} {b r m : Nat} {τ : List Int} (e : EX S n) (rb : RB S n M) (hn : n < 1000) (hb : b < n) (hr : r < n) (hB : BLD S M b r m τ) {v : Int} (h0 : 0 ≤ v) (h1 : v < 100) (hb9 : τ.length + 2 ≤ 700) : CtD g q S n l 5 1 1402 mSB_append_bf812 [vR b, vI v] M (fun o S' n' M' => o = some (vR b) ∧ n' ≤ n + 1 ∧ ∃ r' m' : Nat, r' < n' ∧ (r' = r ∨ r' = n) ∧ BLD S' M' b r' m' (τ ++ dcL v) ∧ ∀ h, h < n → h ≠ b → h ≠ r → M' h = M h) := by
  refine R_startD (by decide +kernel) (Nat.le_of_ble_eq_true rfl) (fun C hC hN hRm hlau => ?_)
  show RZ (g, q) S C (ZD g q S n C (fun o S' n' M' => o = some (vR b) ∧ n' ≤ n + 1 ∧ ∃ r' m' : Nat, r' < n' ∧ (r' = r ∨ r' = n) ∧ BLD S' M' b r' m' (τ ++ dcL v) ∧ ∀ h, h < n → h ≠ b → h ≠ r → M' h = M h) 1 1402) 0 0 n 0 [some (vR b), some (vI v)] [] M
  have hR0 : RmOK C 5 := ⟨by rw [hRm]; exact Nat.le_refl _, by rw [hRm]; exact Nat.le_refl _⟩
  refine R_aload_0 hC dSB_append_bf812_0 ?_
  refine R_iload_1 hC dSB_append_bf812_1 ?_
  refine R_callSuD (as := [vI v]) hC dSB_append_bf812_2 mumAB_append_c97b9s su_SB (by decide) mlSB_53 hb hB.1 rfl (i_app5 e rb hn hb hr hB h0 h1 hb9) rfl rfl (by rw [hRm]; exact ⟨Nat.le_of_ble_eq_true rfl, Nat.le_of_ble_eq_true rfl, Nat.le_of_ble_eq_true rfl, Nat.le_of_ble_eq_true rfl⟩) (Nat.le_of_ble_eq_true rfl) (hls_R hb (hls_I hls_0)) hst_0 (fun g1 S1 n1 o1 M1 ga1 hn1 e1 hs1 hq rb1 ho => ?_)
  have hC1 := CxOK.ga ga1 hC
  obtain ⟨rfl, hq2⟩ := hq
  have hb1 : b < n1 := by omega
  show RZ (g1, q) S1 C _ _ _ n1 5 _ [vR b] M1
  refine R_pop hC1 dSB_append_bf812_5 rfl ?_
  refine R_aload_0 hC1 dSB_append_bf812_6 ?_
  exact R_aretD hC1 dSB_append_bf812_7 rfl (.inl ⟨_, rfl⟩) (by decide) (by decide) ga1 hn1 e1 hs1 rb1 (.inl hb1) ⟨rfl, hq2⟩
