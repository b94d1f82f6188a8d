abbrev mW_text : Mt := (yL_text, cL_text, 4, (some (FieldType.object "java/lang/String")))
theorem cwW_44 : Cond.classLink RL 44 "java/lang/StringBuilder" ∈ Ts := Ts_in (in_t5 _ (List.mem_of_getElem? (i := 42) rfl)) rfl
theorem wi_StringBuilder : Cond.instantiable "java/lang/StringBuilder" 4 ∈ Ts := Ts_in (in_t5 _ (List.mem_of_getElem? (i := 43) rfl)) rfl
theorem wz_StringBuilder : Cond.initialized "java/lang/StringBuilder" ∈ Ts := Ts_in (in_t1 _ (List.mem_of_getElem? (i := 14) rfl)) rfl
theorem mimSB_init_da8c8 : MI mSB_init_da8c8 0 := ⟨Ts_in (in_t5 _ (List.mem_of_getElem? (i := 46) rfl)) rfl, Ts_in (in_t1 _ (List.mem_of_getElem? (i := 14) rfl)) rfl, ⟨by decide +kernel, by decide +kernel, by decide +kernel⟩, Ts_in (in_t5 _ (List.mem_of_getElem? (i := 45) rfl)) rfl, rfl, rfl⟩
theorem mlW_46 : Cond.methodLink RL 46 mSB_init_da8c8.1 ∈ Ts := Ts_in (in_t5 _ (List.mem_of_getElem? (i := 44) rfl)) rfl
theorem mlW_47 : Cond.methodLink RL 47 mSB_append_15ec4.1 ∈ Ts := Ts_in (in_t5 _ (List.mem_of_getElem? (i := 72) rfl)) rfl
theorem mlW_53 : Cond.methodLink RL 53 mSB_append_bf812.1 ∈ Ts := Ts_in (in_t5 _ (List.mem_of_getElem? (i := 168) rfl)) rfl
theorem mlW_58 : Cond.methodLink RL 58 mSB_toString_0e30d.1 ∈ Ts := Ts_in (in_t5 _ (List.mem_of_getElem? (i := 194) rfl)) rfl
theorem momSB_append_15ec4 : MO mSB_append_15ec4 1 false := ⟨Ts_in (in_t5 _ (List.mem_of_getElem? (i := 75) rfl)) rfl, Ts_in (in_t1 _ (List.mem_of_getElem? (i := 14) rfl)) rfl, ⟨by decide +kernel, by decide +kernel, by decide +kernel⟩, ⟨Ts_in (in_t5 _ (List.mem_of_getElem? (i := 73) rfl)) rfl, Ts_in (in_t5 _ (List.mem_of_getElem? (i := 74) rfl)) rfl⟩⟩
theorem momSB_append_bf812 : MO mSB_append_bf812 1 false := ⟨Ts_in (in_t5 _ (List.mem_of_getElem? (i := 171) rfl)) rfl, Ts_in (in_t1 _ (List.mem_of_getElem? (i := 14) rfl)) rfl, ⟨by decide +kernel, by decide +kernel, by decide +kernel⟩, ⟨Ts_in (in_t5 _ (List.mem_of_getElem? (i := 169) rfl)) rfl, Ts_in (in_t5 _ (List.mem_of_getElem? (i := 170) rfl)) rfl⟩⟩
theorem momSB_toString_0e30d : MO mSB_toString_0e30d 0 false := ⟨Ts_in (in_t5 _ (List.mem_of_getElem? (i := 197) rfl)) rfl, Ts_in (in_t1 _ (List.mem_of_getElem? (i := 14) rfl)) rfl, ⟨by decide +kernel, by decide +kernel, by decide +kernel⟩, ⟨Ts_in (in_t5 _ (List.mem_of_getElem? (i := 195) rfl)) rfl, Ts_in (in_t5 _ (List.mem_of_getElem? (i := 196) rfl)) rfl⟩⟩
/-! the law's text: its rules -/
section TXR
variable {g0 g : Nat → Nat} {q : Gq} {S0 S : Sh} {C : Cx} {Z : State → Prop} {k w n0 n : Nat} {pc : Nat} {ls : List (Option V)} {st : List V} {M0 M : Mem} {kc kw : Nat}
/-- a world that has grown since the first: what was there is as it was -/
def WG (g0 : Nat → Nat) (S0 : Sh) (n0 : Nat) (M0 : Mem) (g : Nat → Nat) (S : Sh) (n : Nat) (M : Mem) : Prop := GA g0 g n0 ∧ n0 ≤ n ∧ EX S n ∧ (∀ h, h < n0 → S.1 h = S0.1 h) ∧ RB S n M ∧ ∀ h, h < n0 → M h = M0 h
theorem WG.rf (e : EX S n) (rb : RB S n M) : WG g S n M g S n M := ⟨GA.rf, Nat.le_refl n, e, fun _ _ => rfl, rb, fun _ _ => rfl⟩
theorem WG.step {g1 : Nat → Nat} {S1 : Sh} {n1 : Nat} {M1 : Mem} {b r : Nat} (W : WG g0 S0 n0 M0 g S n M) (ga : GA g g1 n) (hn : n ≤ n1) (e : EX S1 n1) (hS : ∀ h, h < n → S1.1 h = S.1 h) (rb : RB S1 n1 M1) (hb : n0 ≤ b) (hr : n0 ≤ r) (hM : ∀ h, h < n → h ≠ b → h ≠ r → M1 h = M h) : WG g0 S0 n0 M0 g1 S1 n1 M1 := by
  have l := W.2.1
  exact ⟨W.1.tr ga W.2.1, Nat.le_trans W.2.1 hn, e, fun h hh => (hS h (by omega)).trans (W.2.2.2.1 h hh), rb, fun h hh => (hM h (by omega) (by omega) (by omega)).trans (W.2.2.2.2.2 h hh)⟩
theorem WG.ka (W : WG g0 S0 n0 M0 g S n M) : KA g0 g := W.1.ka
/-- a text: a constant's, or a String's -/
def ST (S : Sh) (M : Mem) (n t : Nat) (τ : List Int) : Prop := (∃ i, i < 13 ∧ t = 1000 + i ∧ τ = sL i) ∨ ∃ r, t < n ∧ r < n ∧ STG S M t r τ
theorem ST.keep {S1 : Sh} {M1 : Mem} {t : Nat} {τ : List Int} (h : ST S M n t τ) (hS : ∀ h, h < n → S1.1 h = S.1 h) (hM : ∀ h, h < n → M1 h = M h) : ST S1 M1 n t τ := h.elim .inl (fun z => by
  obtain ⟨r, a, b, c⟩ := z
  exact .inr ⟨r, a, b, c.keep a b hS (hM t a) (hM r b)⟩)
theorem ST.up {m t : Nat} {τ : List Int} (h : ST S M n t τ) (e : n ≤ m) : ST S M m t τ := h.elim .inl (fun z => by
  obtain ⟨r, a, b, c⟩ := z
  exact .inr ⟨r, by omega, by omega, c⟩)
theorem ST.ok {t : Nat} {τ : List Int} (h : ST S M n t τ) : hOK n (vR t) := by
  rcases h with ⟨i, hi, rfl, _⟩ | ⟨r, a, _⟩
  · exact .inr (Nat.le_add_right 1000 i)
  · exact .inl a
theorem hls_V {h : Nat} (hh : hOK n (vR h)) (t : ∀ v, some v ∈ ls → hOK n v) : ∀ v, some v ∈ (some (vR h) :: ls) → hOK n v := hls_c (fun v e => by cases e; exact hh) t
theorem hst_V {h : Nat} (hh : hOK n (vR h)) (t : ∀ v ∈ st, hOK n v) : ∀ v ∈ (vR h :: st), hOK n v := fun v hv => (List.mem_cons.mp hv).elim (fun e => by rw [e]; exact hh) (t v)
theorem hls_up {m : Nat} (h : ∀ v, some v ∈ ls → hOK n v) (e : n ≤ m) : ∀ v, some v ∈ ls → hOK m v := fun v hv => (h v hv).up e
theorem hst_up {m : Nat} (h : ∀ v ∈ st, hOK n v) (e : n ≤ m) : ∀ v ∈ st, hOK m v := fun v hv => (h v hv).up e
theorem T_new (hC : CxOK (g, q) mW_text C) (hRm : C.2.2.2.1 = rmN 8 kc kw) (W : WG g0 S0 n0 M0 g S n M) (hn : n + 2 < 1000) (hk : k + 2 ≤ kc) (hw : w + 20 ≤ kw) (d0 : decode cL_text pc = .ok (.new 44, 3)) (d3 : decode cL_text (pc + 3) = .ok (.dup, 1)) (d4 : decode cL_text (pc + 3 + 1) = .ok (.invokespecial 46, 3)) (hls : ∀ v, some v ∈ ls → hOK n v) (hst : ∀ v ∈ st, hOK n v) (hcat : (st.map vcat).sum ≤ 7)
    (kk : ∀ (g1 : Nat → Nat) (S1 : Sh) (M1 : Mem), CxOK (g1, q) mW_text C → GA g g1 n → WG g0 S0 n0 M0 g1 S1 (n + 2) M1 → BLD S1 M1 n (n + 1) 16 [] → (∀ h, h < n → S1.1 h = S.1 h) → (∀ h, h < n → M1 h = M h) → RZ (g1, q) S1 C Z (k + 2) (w + 20) (n + 2) (pc + 3 + 1 + 3) ls (vR n :: st) M1) : RZ (g, q) S C Z k w n pc ls st M := by
  obtain ⟨Wg, Wn, e, WS, rb, WM⟩ := W
  refine R_newOd hC e d0 cl_13 cwW_44 wi_StringBuilder wz_StringBuilder (by decide +kernel) (by omega) rb hls hst (by rw [hRm]; show k + 1 ≤ kc; omega) (by rw [hRm]; show w + 4 ≤ kw; omega) (fun g1 ga1 e1 rb1 => ?_)
  have hC1 := CxOK.ga ga1 hC
  refine R_dup hC1 d3 rfl ?_
  refine R_callID (as := []) hC1 d4 mimSB_init_da8c8 mlW_46 (b_init e1 rb1 (by omega) (Nat.lt_succ_self n) push_s (setR_s.trans (by decide))) rfl rfl (by rw [hRm]; exact ⟨Nat.le_of_ble_eq_true rfl, Nat.le_of_ble_eq_true rfl, by show k + 1 + 1 ≤ kc; omega, by show w + 4 + 16 ≤ kw; omega⟩) (by show vcat (vR n) + (st.map vcat).sum ≤ 8; show 1 + _ ≤ 8; omega) (hls_up hls (Nat.le_succ n)) (hst_R (Nat.lt_succ_self n) (hst_up hst (Nat.le_succ n))) (fun g2 S2 n2 o2 M2 ga2 hn2 e2 hs2 hq rb2 ho => ?_)
  obtain ⟨rfl, rfl, rfl, hB, hk2⟩ := hq
  have ga3 : GA g g2 n := ga1.tr ga2 (Nat.le_succ n)
  have hM : ∀ h, h < n → M2 h = M h := fun h hh => (hk2 h (by omega) (by omega)).trans (funext fun j => setR_o (by omega))
  have hS : ∀ h, h < n → (push (push S n (13, 4)) (n + 1) (22, 16)).1 h = S.1 h := fun h hh => (push_o (by omega)).trans (push_o (by omega))
  exact kk g2 _ M2 (CxOK.ga ga2 hC1) ga3 ⟨Wg.tr ga3 Wn, by omega, e2, fun h hh => (hS h (by omega)).trans (WS h hh), rb2, fun h hh => (hM h (by omega)).trans (WM h hh)⟩ hB hS hM
theorem T_app {b r m t : Nat} {τ σ : List Int} (hC : CxOK (g, q) mW_text C) (hRm : C.2.2.2.1 = rmN 8 kc kw) (W : WG g0 S0 n0 M0 g S n M) (hn : n < 1000) (hk : k + 1 ≤ kc) (hw : w + 1402 ≤ kw) (hb : b < n) (hb0 : n0 ≤ b) (hr : r < n) (hr0 : n0 ≤ r) (hB : BLD S M b r m τ)
    (hsrc : (∃ i, i < 13 ∧ t = 1000 + i ∧ σ = sL i) ∨ ∃ r2, t < n ∧ r2 < n ∧ r2 ≠ r ∧ STG S M t r2 σ) (h9 : τ.length + σ.length ≤ 700) (d : decode cL_text pc = .ok (.invokevirtual 47, 3)) (hls : ∀ v, some v ∈ ls → hOK n v) (hst : ∀ v ∈ st, hOK n v) (hcat : (st.map vcat).sum ≤ 8)
    (kk : ∀ (g1 : Nat → Nat) (S1 : Sh) (n1 : Nat) (M1 : Mem) (r1 m1 : Nat), CxOK (g1, q) mW_text C → GA g g1 n → WG g0 S0 n0 M0 g1 S1 n1 M1 → (n ≤ n1 ∧ n1 ≤ n + 1) → (∀ h, h < n → S1.1 h = S.1 h) → (r1 < n1 ∧ (r1 = r ∨ r1 = n)) → BLD S1 M1 b r1 m1 (τ ++ σ) → (∀ h, h < n → h ≠ b → h ≠ r → M1 h = M h) → RZ (g1, q) S1 C Z (k + 1) (w + 1402) n1 (pc + 3) ls (vR b :: st) M1) : RZ (g, q) S C Z k w n pc ls (vR t :: vR b :: st) M := by
  obtain ⟨Wg, Wn, e, WS, rb, WM⟩ := W
  have fin : ∀ (g1 : Nat → Nat) (S1 : Sh) (n1 : Nat) (o : Option V) (M1 : Mem), GA g g1 n → n ≤ n1 → EX S1 n1 → (∀ h, h < n → S1.1 h = S.1 h) → (o = some (vR b) ∧ n1 ≤ n + 1 ∧ ∃ r' m' : Nat, r' < n1 ∧ (r' = r ∨ r' = n) ∧ BLD S1 M1 b r' m' (τ ++ σ) ∧ ∀ h, h < n → h ≠ b → h ≠ r → M1 h = M h) → RB S1 n1 M1 → RZ (g1, q) S1 C Z (k + 1) (w + 1402) n1 (pc + 3) ls (o.toList ++ st) M1 := fun g1 S1 n1 o M1 ga hn1 e1 hS hq rb1 => by
    obtain ⟨rfl, hn2, r1, m1, hr1, hre, hB1, hM⟩ := hq
    exact kk g1 S1 n1 M1 r1 m1 (CxOK.ga ga hC) ga (WG.step (b := b) (r := r) ⟨Wg, Wn, e, WS, rb, WM⟩ ga hn1 e1 hS rb1 hb0 hr0 hM) ⟨hn1, hn2⟩ hS ⟨hr1, hre⟩ hB1 hM
  have hR : 5 + 1 ≤ C.2.2.2.1.frames ∧ 8 + (2 + 11) + (40 * 5 + 40) ≤ C.2.2.2.1.locals ∧ k + 1 ≤ C.2.2.2.1.cells ∧ w + 1402 ≤ C.2.2.2.1.slots := by
    rw [hRm]
    exact ⟨Nat.le_of_ble_eq_true rfl, Nat.le_of_ble_eq_true rfl, hk, hw⟩
  rcases hsrc with ⟨i, hi, rfl, rfl⟩ | ⟨r2, ht, hr2, hne, hS⟩
  · exact R_callVD (as := [vR (1000 + i)]) hC d momSB_append_15ec4 mlW_47 hb hB.1 rfl (c_app e rb hn hb hr hB hi h9) rfl rfl hR hcat hls hst (fun g1 S1 n1 o M1 ga hn1 e1 hS1 hq rb1 ho => fin g1 S1 n1 o M1 ga hn1 e1 hS1 hq rb1)
  · exact R_callVD (as := [vR t]) hC d momSB_append_15ec4 mlW_47 hb hB.1 rfl (w_app e rb hn hb hr hB ht hr2 hne hS h9) rfl rfl hR hcat hls hst (fun g1 S1 n1 o M1 ga hn1 e1 hS1 hq rb1 ho => fin g1 S1 n1 o M1 ga hn1 e1 hS1 hq rb1)
theorem T_appI {b r m : Nat} {τ : List Int} {v : Int} (hC : CxOK (g, q) mW_text C) (hRm : C.2.2.2.1 = rmN 8 kc kw) (W : WG g0 S0 n0 M0 g S n M) (hn : n < 1000) (hk : k + 1 ≤ kc) (hw : w + 1402 ≤ kw) (hb : b < n) (hb0 : n0 ≤ b) (hr : r < n) (hr0 : n0 ≤ r) (hB : BLD S M b r m τ)
    (h0 : 0 ≤ v) (h1 : v < 100) (h9 : τ.length + 2 ≤ 700) (d : decode cL_text pc = .ok (.invokevirtual 53, 3)) (hls : ∀ v, some v ∈ ls → hOK n v) (hst : ∀ v ∈ st, hOK n v) (hcat : (st.map vcat).sum ≤ 8)
    (kk : ∀ (g1 : Nat → Nat) (S1 : Sh) (n1 : Nat) (M1 : Mem) (r1 m1 : Nat), CxOK (g1, q) mW_text C → GA g g1 n → WG g0 S0 n0 M0 g1 S1 n1 M1 → (n ≤ n1 ∧ n1 ≤ n + 1) → (∀ h, h < n → S1.1 h = S.1 h) → (r1 < n1 ∧ (r1 = r ∨ r1 = n)) → BLD S1 M1 b r1 m1 (τ ++ dcL v) → (∀ h, h < n → h ≠ b → h ≠ r → M1 h = M h) → RZ (g1, q) S1 C Z (k + 1) (w + 1402) n1 (pc + 3) ls (vR b :: st) M1) : RZ (g, q) S C Z k w n pc ls (vI v :: vR b :: st) M := by
  obtain ⟨Wg, Wn, e, WS, rb, WM⟩ := W
  refine R_callVD (as := [vI v]) hC d momSB_append_bf812 mlW_53 hb hB.1 rfl (i_app e rb hn hb hr hB h0 h1 h9) rfl rfl (by
    rw [hRm]
    exact ⟨Nat.le_of_ble_eq_true rfl, Nat.le_of_ble_eq_true rfl, hk, hw⟩) hcat hls hst (fun g1 S1 n1 o M1 ga hn1 e1 hS hq rb1 ho => ?_)
  obtain ⟨rfl, hn2, r1, m1, hr1, hre, hB1, hM⟩ := hq
  exact kk g1 S1 n1 M1 r1 m1 (CxOK.ga ga hC) ga (WG.step (b := b) (r := r) ⟨Wg, Wn, e, WS, rb, WM⟩ ga hn1 e1 hS rb1 hb0 hr0 hM) ⟨hn1, hn2⟩ hS ⟨hr1, hre⟩ hB1 hM
theorem T_str {b r m : Nat} {τ : List Int} (hC : CxOK (g, q) mW_text C) (hRm : C.2.2.2.1 = rmN 8 kc kw) (W : WG g0 S0 n0 M0 g S n M) (hn : n + 1 < 1000) (hk : k + 2 ≤ kc) (hw : w + 1406 ≤ kw) (hb : b < n) (hr : r < n) (hB : BLD S M b r m τ)
    (d : decode cL_text pc = .ok (.invokevirtual 58, 3)) (hls : ∀ v, some v ∈ ls → hOK n v) (hst : ∀ v ∈ st, hOK n v) (hcat : (st.map vcat).sum ≤ 8)
    (kk : ∀ (g1 : Nat → Nat) (S1 : Sh) (M1 : Mem), CxOK (g1, q) mW_text C → GA g g1 n → WG g0 S0 n0 M0 g1 S1 (n + 2) M1 → (∀ h, h < n → S1.1 h = S.1 h) → STG S1 M1 n (n + 1) τ → (∀ h, h < n → M1 h = M h) → RZ (g1, q) S1 C Z (k + 2) (w + 1406) (n + 2) (pc + 3) ls (vR n :: st) M1) : RZ (g, q) S C Z k w n pc ls (vR b :: st) M := by
  obtain ⟨Wg, Wn, e, WS, rb, WM⟩ := W
  refine R_callVD (as := []) hC d momSB_toString_0e30d mlW_58 hb hB.1 rfl (b_toString e rb hn hb hr hB) rfl rfl (by
    rw [hRm]
    exact ⟨Nat.le_of_ble_eq_true rfl, Nat.le_of_ble_eq_true rfl, hk, hw⟩) hcat hls hst (fun g1 S1 n1 o M1 ga hn1 e1 hS hq rb1 ho => ?_)
  obtain ⟨rfl, rfl, hG, hM⟩ := hq
  exact kk g1 S1 M1 (CxOK.ga ga hC) ga ⟨Wg.tr ga Wn, by omega, e1, fun h hh => (hS h (by omega)).trans (WS h hh), rb1, fun h hh => (hM h (by omega)).trans (WM h hh)⟩ hS hG hM
end TXR

