/-! building texts: constructors, toString -/
section NUL
variable {g g' : Nat → Nat} {q : Gq} {S S' : Sh} {C : Cx} {Z : State → Prop} {k w n n' : Nat} {pc : Nat} {ls : List (Option V)} {st : List V} {M : Mem} {y : Mt}
def CtDA (g : Nat → Nat) (q : Gq) (S : Sh) (n : Nat) (l : Launch) (d kc kw : Nat) (y : Mt) (As : List Value) (M : Mem) (Q : Option V → Sh → Nat → Mem → Prop) : Prop :=
  Met l y.1 (wsY y) (rmN d kc kw) (PnA (g, q) S n As M) (QD g q S n Q) kc kw (aA (g, q))
theorem R_startDA {l : Launch} {d kc kw : Nat} {As : List Value} {Q : Option V → Sh → Nat → Mem → Prop} (hy : plainName y.1.cls = true) (hls : lsR (g, q) y.2.2.1 ls ((lg_sl As ++ List.replicate (y.2.2.1 - (lg_sl As).length) Slot.unset).toArray)) (hok : okLs ls)
    (h : ∀ C : Cx, CxOK (g, q) y C → (y.1.name = "<init>" → inI0 C) → C.2.2.2.1 = rmN d kc kw → C.2.1 = l → RZ (g, q) S C (ZD g q S n C Q kc kw) 0 0 n 0 ls [] M) : CtDA g q S n l d kc kw y As M Q := by
  refine Met.ofW (cc := y.2.1) (maxL := y.2.2.1) (ret := y.2.2.2) hy rfl ?_
  intro p e s m ars below meth c s₁ B hml hv
  obtain ⟨rfl, hp, hK, hm, hz⟩ := hv
  have hts : ∀ u ∈ Ts, u.before As.toArray s = true := fun w hw => atoms_spec (ws := wsY y) B.pre w (List.mem_cons_of_mem _ hw)
  have hC : CxOK (g, q) y (p, l, e, (headSpec (wsY y) (rmN d kc kw)).room, s, m, As.toArray, below, meth, c) :=
    ⟨B.exec, B.bytes, hml, findClass_of_methodNamed B.named, hts, hK, B.notSynchronized, B.returns, hz⟩
  have hin : y.1.name = "<init>" → meth.name = "<init>" := fun e => ((name_of_methodNamed B.named B.method).1).trans e
  have hW := h _ hC hin rfl rfl s.heap [] _ hp va_S.rf hm hok trivial (by
    show lsR (g, q) c.maxLocals _ _
    rw [hml]
    exact hls)
  rw [lg_entry_eq]
  exact hW
theorem R_callNull {d kc kw idx t b : Nat} {z : Mt} {Q : Option V → Sh → Nat → Mem → Prop} (hC : CxOK (g, q) y C) (d0 : decode y.2.1 pc = .ok (.aconst_null, 1)) (d1 : decode y.2.1 (pc + 1) = .ok (.invokespecial idx, 3)) (hz : MI z 2) (hlk : Cond.methodLink y.1.cls idx z.1 ∈ Ts)
    (hct : CtDA g q S n C.2.1 d kc kw z [.ref (g t), .ref (g b), .null] M Q)
    (hR : d + 1 ≤ C.2.2.2.1.frames ∧ 8 + (z.2.2.1 + 11) + (40 * d + 40) ≤ C.2.2.2.1.locals ∧ k + kc ≤ C.2.2.2.1.cells ∧ w + kw ≤ C.2.2.2.1.slots) (hls : ∀ v, some v ∈ ls → hOK n v)
    (kk : ∀ (g' : Nat → Nat) (S' : Sh) (n' : Nat) (r : Option V) (M' : Mem), GA g g' n → n ≤ n' → EX S' n' → (∀ h, h < n → S'.1 h = S.1 h) → Q r S' n' M' → RB S' n' M' → (∀ v ∈ r.toList, hOK n' v) → RZ (g', q) S' C Z (k + kc) (w + kw) n' (pc + 1 + 3) ls (r.toList ++ []) M') : RZ (g, q) S C Z k w n pc ls [vR b, vR t] M := by
  intro H locs ar hp hs hm hl hv ha
  obtain ⟨z1, z2, z3, z4, z5, z6⟩ := hz
  have z1' : Cond.code z.1 z.2.1 z.2.2.1 z.2.2.2 ∈ Ts := by rw [z6]; exact z1
  refine lv_null hC.1 hC.2.1 d0 ?_
  refine R_callD (pc := pc + 1) (st := []) (args := []) hC hs hl trivial ha hls (fun v h => absurd h List.not_mem_nil) ?_ kk
  exact va_runI (As := [.ref (g b), .null]) (b := g t) (ws := wsY z) (nL := C.2.2.2.2.2.2.2.2.2.maxLocals) (cc := y.2.1) ⟨hC.1, hC.2.1, rfl, hC.2.2.2.1, hC.2.2.2.2.1⟩ hct
    (cwI 2 (hC.2.2.2.2.1) (good_wsY z1') (by unfold wsY; rw [z6]) rfl rfl (hC.2.2.2.2.1 _ z2) (hC.2.2.2.2.1 _ hlk) (hC.2.2.2.2.1 _ z4) z5 z3 ⟨hR.1, hR.2.1⟩) (PnA.pre hC hp hs hm) rfl rfl ha.1 rfl (Nat.le_of_ble_eq_true rfl) d1 ⟨hR.2.2.1, hR.2.2.2⟩
/-- a method that the receiver's class overrides -/
theorem R_callO {G : Gl} {d na idx h ci nf : Nat} {x : MethodName} {z : Mt} {as : List V} {st0 : List V} {Cn : String} {Q : Option V → Mem → Prop} {b0 : ByteArray} {m0 : Nat} {r0 : Option FieldType} (hC : CxOK G y C) (hd : decode y.2.1 pc = .ok (.invokevirtual idx, 3))
    (hw : ∀ u ∈ va_wsO y.1.cls idx Cn x.cls x z.1 [], u ∈ Ts) (hc : Cond.code z.1 z.2.1 z.2.2.1 z.2.2.2 ∈ Ts) (h0 : Cond.code ⟨x.cls, x.name, x.desc⟩ b0 m0 r0 ∈ Ts) (hpl : x.cls ≠ "java/lang/invoke/MethodHandle" ∧ x.cls ≠ "java/lang/invoke/VarHandle" ∧ (parseMethodDescriptor x.desc).map (fun d => d.parameters.length) = some na)
    (hh : h < n) (hk : S.1 h = (ci, nf)) (hci : (vwCl[ci]?).map (fun q => q.1) = some Cn) (hct : Ct G S n C.2.1 d z (vR h :: as) M Q) (hst : st0 = as.reverse ++ vR h :: st) (hna : as.length = na)
    (hR : d + 1 ≤ C.2.2.2.1.frames ∧ 8 + (z.2.2.1 + 11) + (40 * d + 40) ≤ C.2.2.2.1.locals ∧ k ≤ C.2.2.2.1.cells ∧ w ≤ C.2.2.2.1.slots) (hcat : (st.map vcat).sum ≤ 8)
    (kk : ∀ (r : Option V) (M' : Mem), Q r M' → RZ G S C Z k w n (pc + 3) ls (r.toList ++ st) M') : RZ G S C Z k w n pc ls st0 M := by
  intro H locs ar hp hs hm hl hv ha
  subst hst
  have hv2 := (okVs_app _ _).mp hv
  obtain ⟨cq, hq1, hq2⟩ := cls_ci hci
  have hrv := va_recv hC.2.2.2.2.2.1.1 hp.1 hq1 ((wsM_at hh).trans (by rw [ent_obj hk (cl_lt hq1)]))
  rw [hq2] at hrv
  have hpre := Pn.pre (args := vR h :: as) hC hp hs hm ⟨trivial, okVs_rev _ hv2.1⟩
  have hGo : GoodIn Ts (va_wsO y.1.cls idx Cn x.cls x z.1 (wsY z)) := by
    intro u hu
    have hu2 : u ∈ Ts := by
      unfold va_wsO at hu hw
      rcases List.mem_append.mp hu with e | e
      · exact hw u (by rw [List.append_nil]; exact e)
      · exact (good_wsY hc u e).1
    exact ⟨hu2, good_of_word (List.mem_filter.mp hu2).2⟩
  refine R_call (args := vR h :: as) hC hcat hs hl hv2.2.2 ha ?_ kk
  exact va_runU (C := Cn) (owner := x.cls) (x := x) (y := z.1) (As := as.map (enc G)) (b := G.1 h) (ws := wsY z) (nL := C.2.2.2.2.2.2.2.2.2.maxLocals) (cc := y.2.1) ⟨hC.1, hC.2.1, rfl, hC.2.2.2.1, hC.2.2.2.2.1⟩ hct (va_cwO na (hC.2.2.2.2.1) hGo rfl rfl rfl h0 hpl ⟨hR.1, hR.2.1⟩) ⟨hpre.1, hrv, hpre.2⟩ rfl (by rw [List.length_map]; exact hna) ha.1 revm (lv_room (by rw [enc_cats]; exact hcat)) hd ⟨hR.2.2.1, hR.2.2.2⟩
end NUL
theorem BLD.t7 {S : Sh} {M : Mem} {b r m : Nat} {τ : List Int} (h : BLD S M b r m τ) : tx7 τ := fun x hx => by
  obtain ⟨i, hi, rfl⟩ := List.mem_iff_getElem.mp hx
  have h1 := h.2.2.2.2.2.2.2 i hi
  have h2 := h.2.2.2.2.2.2.1 (i : Int) (by omega) (by have := h.2.2.2.2.2.1.1; omega)
  rw [h1, List.getD_eq_getElem?_getD, List.getElem?_eq_getElem hi] at h2
  exact h2

theorem mlAB_3o : Cond.methodLink RJ5 3 objectInit ∈ Ts := Ts_in (in_t5 _ (List.mem_of_getElem? (i := 50) rfl)) rfl
abbrev mAB_init_d00df : Mt := (yJ5_init_d00df, cJ5_init_d00df, 2, (none : Option FieldType))
theorem dAB_init_d00df_0 : decode cJ5_init_d00df 0 = .ok (.aload_n 0, 1) := by decide +kernel
theorem dAB_init_d00df_1 : decode cJ5_init_d00df 1 = .ok (.invokespecial 3, 3) := by decide +kernel
theorem dAB_init_d00df_4 : decode cJ5_init_d00df 4 = .ok (.getstatic 18, 3) := by decide +kernel
theorem dAB_init_d00df_7 : decode cJ5_init_d00df 7 = .ok (.ifCond .eq 18, 3) := by decide +kernel
theorem dAB_init_d00df_10 : decode cJ5_init_d00df 10 = .ok (.aload_n 0, 1) := by decide +kernel
theorem dAB_init_d00df_11 : decode cJ5_init_d00df 11 = .ok (.iload_n 1, 1) := by decide +kernel
theorem dAB_init_d00df_12 : decode cJ5_init_d00df 12 = .ok (.newarray .byte, 2) := by decide +kernel
theorem dAB_init_d00df_14 : decode cJ5_init_d00df 14 = .ok (.putfield 15, 3) := by decide +kernel
theorem dAB_init_d00df_17 : decode cJ5_init_d00df 17 = .ok (.aload_n 0, 1) := by decide +kernel
theorem dAB_init_d00df_18 : decode cJ5_init_d00df 18 = .ok (.iconst 0, 1) := by decide +kernel
theorem dAB_init_d00df_19 : decode cJ5_init_d00df 19 = .ok (.putfield 22, 3) := by decide +kernel
theorem dAB_init_d00df_22 : decode cJ5_init_d00df 22 = .ok (.goto 16, 3) := by decide +kernel
theorem dAB_init_d00df_38 : decode cJ5_init_d00df 38 = .ok (.return_, 1) := by decide +kernel
theorem mimAB_init_d00df : MI mAB_init_d00df 1 := ⟨Ts_in (in_t5 _ (List.mem_of_getElem? (i := 49) rfl)) rfl, Ts_in (in_t1 _ (List.mem_of_getElem? (i := 13) rfl)) rfl, ⟨by decide +kernel, by decide +kernel, by decide +kernel⟩, Ts_in (in_t5 _ (List.mem_of_getElem? (i := 48) rfl)) rfl, rfl, rfl⟩
theorem mlSB_1 : Cond.methodLink RJ4 1 mAB_init_d00df.1 ∈ Ts := Ts_in (in_t5 _ (List.mem_of_getElem? (i := 47) rfl)) rfl
abbrev mSB_init_da8c8 : Mt := (yJ4_init_da8c8, cJ4_init_da8c8, 1, (none : Option FieldType))
theorem dSB_init_da8c8_0 : decode cJ4_init_da8c8 0 = .ok (.aload_n 0, 1) := by decide +kernel
theorem dSB_init_da8c8_1 : decode cJ4_init_da8c8 1 = .ok (.bipush 16, 2) := by decide +kernel
theorem dSB_init_da8c8_3 : decode cJ4_init_da8c8 3 = .ok (.invokespecial 1, 3) := by decide +kernel
theorem dSB_init_da8c8_6 : decode cJ4_init_da8c8 6 = .ok (.return_, 1) := by decide +kernel
abbrev mS_init_db425 : Mt := (yJ0_init_db425, cJ0_init_db425, 5, (none : Option FieldType))
theorem xo_len : ∀ u ∈ va_wsO RJ0 549 RJ4 RJ5 yJ5_length_8abf5 yJ4_length_8abf5 [], u ∈ Ts := List.forall_mem_cons.mpr ⟨Ts_in (in_t5 _ (List.mem_of_getElem? (i := 212) rfl)) rfl, List.forall_mem_cons.mpr ⟨Ts_in (in_t5 _ (List.mem_of_getElem? (i := 214) rfl)) rfl, List.forall_mem_cons.mpr ⟨Ts_in (in_t5 _ (List.mem_of_getElem? (i := 213) rfl)) rfl, List.forall_mem_cons.mpr ⟨Ts_in (in_t5 _ (List.mem_of_getElem? (i := 215) rfl)) rfl, List.forall_mem_cons.mpr ⟨Ts_in (in_t5 _ (List.mem_of_getElem? (i := 216) rfl)) rfl, List.forall_mem_cons.mpr ⟨Ts_in (in_t1 _ (List.mem_of_getElem? (i := 14) rfl)) rfl, fun u h => absurd h List.not_mem_nil⟩⟩⟩⟩⟩⟩
theorem mlS_1o : Cond.methodLink RJ0 1 objectInit ∈ Ts := Ts_in (in_t5 _ (List.mem_of_getElem? (i := 206) rfl)) rfl
theorem semAB_getValue_6d5f1 : Cond.selects RJ4 mAB_getValue_6d5f1.1 mAB_getValue_6d5f1.1 ∈ Ts := Ts_in (in_t5 _ (List.mem_of_getElem? (i := 210) rfl)) rfl
theorem mumAB_getValue_6d5f1 : MU RJ4 mAB_getValue_6d5f1 0 := ⟨Ts_in (in_t5 _ (List.mem_of_getElem? (i := 211) rfl)) rfl, Ts_in (in_t1 _ (List.mem_of_getElem? (i := 13) rfl)) rfl, ⟨by decide +kernel, by decide +kernel, by decide +kernel⟩, Ts_in (in_t5 _ (List.mem_of_getElem? (i := 209) rfl)) rfl, Ts_in (in_t5 _ (List.mem_of_getElem? (i := 208) rfl)) rfl, .inl semAB_getValue_6d5f1⟩
theorem mlS_552 : Cond.methodLink RJ0 552 mAB_getValue_6d5f1.1 ∈ Ts := Ts_in (in_t5 _ (List.mem_of_getElem? (i := 207) rfl)) rfl
theorem mlS_1047 : Cond.methodLink RJ0 1047 mAB_isLatin1_aae02.1 ∈ Ts := Ts_in (in_t5 _ (List.mem_of_getElem? (i := 220) rfl)) rfl
theorem momAR_copyOfRange_39247 : MO mAR_copyOfRange_39247 3 true := ⟨Ts_in (in_t5 _ (List.mem_of_getElem? (i := 223) rfl)) rfl, Ts_in (in_t1 _ (List.mem_of_getElem? (i := 19) rfl)) rfl, ⟨by decide +kernel, by decide +kernel, by decide +kernel⟩, Ts_in (in_t5 _ (List.mem_of_getElem? (i := 222) rfl)) rfl⟩
theorem mlS_54 : Cond.methodLink RJ0 54 mAR_copyOfRange_39247.1 ∈ Ts := Ts_in (in_t5 _ (List.mem_of_getElem? (i := 221) rfl)) rfl
theorem dS_init_db425_0 : decode cJ0_init_db425 0 = .ok (.aload_n 0, 1) := by decide +kernel
theorem dS_init_db425_1 : decode cJ0_init_db425 1 = .ok (.invokespecial 1, 3) := by decide +kernel
theorem dS_init_db425_4 : decode cJ0_init_db425 4 = .ok (.aload_n 1, 1) := by decide +kernel
theorem dS_init_db425_5 : decode cJ0_init_db425 5 = .ok (.invokevirtual 552, 3) := by decide +kernel
theorem dS_init_db425_8 : decode cJ0_init_db425 8 = .ok (.astore_n 3, 1) := by decide +kernel
theorem dS_init_db425_9 : decode cJ0_init_db425 9 = .ok (.aload_n 1, 1) := by decide +kernel
theorem dS_init_db425_10 : decode cJ0_init_db425 10 = .ok (.invokevirtual 549, 3) := by decide +kernel
theorem dS_init_db425_13 : decode cJ0_init_db425 13 = .ok (.istore 4, 2) := by decide +kernel
theorem dS_init_db425_15 : decode cJ0_init_db425 15 = .ok (.aload_n 1, 1) := by decide +kernel
theorem dS_init_db425_16 : decode cJ0_init_db425 16 = .ok (.invokevirtual 1047, 3) := by decide +kernel
theorem dS_init_db425_19 : decode cJ0_init_db425 19 = .ok (.ifCond .eq 22, 3) := by decide +kernel
theorem dS_init_db425_22 : decode cJ0_init_db425 22 = .ok (.aload_n 0, 1) := by decide +kernel
theorem dS_init_db425_23 : decode cJ0_init_db425 23 = .ok (.iconst 0, 1) := by decide +kernel
theorem dS_init_db425_24 : decode cJ0_init_db425 24 = .ok (.putfield 15, 3) := by decide +kernel
theorem dS_init_db425_27 : decode cJ0_init_db425 27 = .ok (.aload_n 0, 1) := by decide +kernel
theorem dS_init_db425_28 : decode cJ0_init_db425 28 = .ok (.aload_n 3, 1) := by decide +kernel
theorem dS_init_db425_29 : decode cJ0_init_db425 29 = .ok (.iconst 0, 1) := by decide +kernel
theorem dS_init_db425_30 : decode cJ0_init_db425 30 = .ok (.iload 4, 2) := by decide +kernel
theorem dS_init_db425_32 : decode cJ0_init_db425 32 = .ok (.invokestatic 54, 3) := by decide +kernel
theorem dS_init_db425_35 : decode cJ0_init_db425 35 = .ok (.putfield 9, 3) := by decide +kernel
theorem dS_init_db425_38 : decode cJ0_init_db425 38 = .ok (.goto 59, 3) := by decide +kernel
theorem dS_init_db425_97 : decode cJ0_init_db425 97 = .ok (.return_, 1) := by decide +kernel
theorem dS_init_81219_3 : decode cJ0_init_81219 3 = .ok (.invokespecial 489, 3) := by decide +kernel
theorem mimS_init_db425 : MI mS_init_db425 2 := ⟨Ts_in (in_t5 _ (List.mem_of_getElem? (i := 205) rfl)) rfl, Ts_in (in_t1 _ (List.mem_of_getElem? (i := 15) rfl)) rfl, ⟨by decide +kernel, by decide +kernel, by decide +kernel⟩, Ts_in (in_t5 _ (List.mem_of_getElem? (i := 204) rfl)) rfl, rfl, rfl⟩
theorem mlS_489 : Cond.methodLink RJ0 489 mS_init_db425.1 ∈ Ts := Ts_in (in_t5 _ (List.mem_of_getElem? (i := 203) rfl)) rfl
abbrev mS_init_81219 : Mt := (yJ0_init_81219, cJ0_init_81219, 2, (none : Option FieldType))
theorem dS_init_81219_0 : decode cJ0_init_81219 0 = .ok (.aload_n 0, 1) := by decide +kernel
theorem dS_init_81219_1 : decode cJ0_init_81219 1 = .ok (.aload_n 1, 1) := by decide +kernel
theorem dS_init_81219_2 : decode cJ0_init_81219 2 = .ok (.aconst_null, 1) := by decide +kernel
theorem dS_init_81219_6 : decode cJ0_init_81219 6 = .ok (.return_, 1) := by decide +kernel
theorem cwSB_18 : Cond.classLink RJ4 18 "java/lang/String" ∈ Ts := Ts_in (in_t5 _ (List.mem_of_getElem? (i := 198) rfl)) rfl
theorem wi_String : Cond.instantiable "java/lang/String" 4 ∈ Ts := Ts_in (in_t5 _ (List.mem_of_getElem? (i := 199) rfl)) rfl
theorem wz_String : Cond.initialized "java/lang/String" ∈ Ts := Ts_in (in_t1 _ (List.mem_of_getElem? (i := 15) rfl)) rfl
theorem mimS_init_81219 : MI mS_init_81219 1 := ⟨Ts_in (in_t5 _ (List.mem_of_getElem? (i := 202) rfl)) rfl, Ts_in (in_t1 _ (List.mem_of_getElem? (i := 15) rfl)) rfl, ⟨by decide +kernel, by decide +kernel, by decide +kernel⟩, Ts_in (in_t5 _ (List.mem_of_getElem? (i := 201) rfl)) rfl, rfl, rfl⟩
theorem mlSB_137 : Cond.methodLink RJ4 137 mS_init_81219.1 ∈ Ts := Ts_in (in_t5 _ (List.mem_of_getElem? (i := 200) rfl)) rfl
abbrev mSB_toString_0e30d : Mt := (yJ4_toString_0e30d, cJ4_toString_0e30d, 1, (some (FieldType.object "java/lang/String")))
theorem dSB_toString_0e30d_0 : decode cJ4_toString_0e30d 0 = .ok (.new 18, 3) := by decide +kernel
theorem dSB_toString_0e30d_3 : decode cJ4_toString_0e30d 3 = .ok (.dup, 1) := by decide +kernel
theorem dSB_toString_0e30d_4 : decode cJ4_toString_0e30d 4 = .ok (.aload_n 0, 1) := by decide +kernel
theorem dSB_toString_0e30d_5 : decode cJ4_toString_0e30d 5 = .ok (.invokespecial 137, 3) := by decide +kernel
theorem dSB_toString_0e30d_8 : decode cJ4_toString_0e30d 8 = .ok (.areturn, 1) := by decide +kernel
set_option maxHeartbeats 1000000 in
theorem b_init5 {g : Nat → Nat} {q : Gq} {S : Sh} {n : Nat} {l : Launch} {M : Mem} {b : Nat} (e : EX S n) (rb : RB S n M) (hn : n < 1000) (hb : b < n) (hk : S.1 b = (13, 4)) (h3 : M b 3 = 0) : CtD g q S n l 1 1 16 mAB_init_d00df [vR b, vI 16] M (fun o S' n' M' => o = none ∧ n' = n + 1 ∧ S' = push S n (22, 16) ∧ BLD S' M' b n 16 [] ∧ ∀ h, h < n → h ≠ b → M' h = M h) := by
  refine R_startD (by decide +kernel) (Nat.le_of_ble_eq_true rfl) (fun C hC hN hRm hlau => ?_)
  show RZ (g, q) S C (ZD g q S n C (fun o S' n' M' => o = none ∧ n' = n + 1 ∧ S' = push S n (22, 16) ∧ BLD S' M' b n 16 [] ∧ ∀ h, h < n → h ≠ b → M' h = M h) 1 16) 0 0 n 0 [some (vR b), some (vI 16)] [] M
  have hR0 : RmOK C 1 := ⟨by rw [hRm]; exact Nat.le_refl _, by rw [hRm]; exact Nat.le_refl _⟩
  refine R_aload_0 hC dAB_init_d00df_0 ?_
  refine R_initO hC dAB_init_d00df_1 mlAB_3o ob_im ob_co (by rw [hRm]; exact ⟨Nat.le_of_ble_eq_true rfl, Nat.le_of_ble_eq_true rfl⟩) rfl ?_
  refine R_csz hC dAB_init_d00df_4 fwAB_18 ?_
  refine R_if_eq hC dAB_init_d00df_7 (tgt := 25) (by decide) (fun hj => ?_) (fun hj => ?_)
  · exact absurd hj (by decide)
  refine R_aload_0 hC dAB_init_d00df_10 ?_
  refine R_iload_1 hC dAB_init_d00df_11 ?_
  refine R_newAd (kd := 22) (N := 16) hC e dAB_init_d00df_12 rfl (.inr rfl) w_arrB rfl (by decide) hn rb (hls_R hb (hls_I hls_0)) (hst_R hb hst_0) (by rw [hRm]; exact Nat.le_of_ble_eq_true rfl) (by rw [hRm]; exact Nat.le_of_ble_eq_true rfl) (fun g1 ga1 e1 rb1 => ?_)
  have hC1 := CxOK.ga ga1 hC
  have hk1 : (push S n (22, 16)).1 b = (13, 4) := (push_o (by omega)).trans hk
  refine R_putR hC1 dAB_init_d00df_14 flAB_15 (by omega) hk1 (by decide) (by rw [e1.2.2.1]; rfl) (by omega) (fi := 0) rfl ?_
  refine R_aload_0 hC1 dAB_init_d00df_17 ?_
  refine R_iconst hC1 dAB_init_d00df_18 ⟨by decide, by decide⟩ ?_
  refine R_putZ hC1 dAB_init_d00df_19 flAB_22 (by omega) hk1 (by decide) (by rw [e1.2.2.1]; rfl) (.inl rfl) (fi := 1) rfl ?_
  refine R_goto hC1 dAB_init_d00df_22 (tgt := 38) (by decide) ?_
  exact R_vretD hC1 dAB_init_d00df_38 rfl (by decide) (by decide) ga1 (Nat.le_succ n) e1 (fun h hh => push_o (by omega)) (RB.putI (f := 1) (rb1.put (Int.ofNat_lt.mpr (Nat.lt_succ_self n))) (by rw [hk1, e1.2.2.1]; decide)) ⟨rfl, rfl, rfl, ⟨hk1, push_s, (uM_k (by decide)).trans uM_same, uM_same, (uM_k (by decide)).trans ((uM_k (by decide)).trans ((setR_o (by omega)).trans h3)), ⟨by decide, by decide⟩, fun j a c => by
    rw [uM_h (by omega), uM_h (by omega), setR_s]
    exact ⟨by decide, by decide⟩, fun j hj => absurd hj (Nat.not_lt_zero j)⟩, fun h hh hne => (uM_ne hne).trans ((uM_ne hne).trans (funext fun j => setR_o (by omega)))⟩
set_option maxHeartbeats 1000000 in
theorem b_init {g : Nat → Nat} {q : Gq} {S : Sh} {n : Nat} {l : Launch} {M : Mem} {b : Nat} (e : EX S n) (rb : RB S n M) (hn : n < 1000) (hb : b < n) (hk : S.1 b = (13, 4)) (h3 : M b 3 = 0) : CtD g q S n l 2 1 16 mSB_init_da8c8 [vR b] M (fun o S' n' M' => o = none ∧ n' = n + 1 ∧ S' = push S n (22, 16) ∧ BLD S' M' b n 16 [] ∧ ∀ h, h < n → h ≠ b → M' h = M h) := by
  refine R_startD (by decide +kernel) (Nat.le_of_ble_eq_true rfl) (fun C hC hN hRm hlau => ?_)
  show RZ (g, q) S C (ZD g q S n C (fun o S' n' M' => o = none ∧ n' = n + 1 ∧ S' = push S n (22, 16) ∧ BLD S' M' b n 16 [] ∧ ∀ h, h < n → h ≠ b → M' h = M h) 1 16) 0 0 n 0 [some (vR b)] [] M
  have hR0 : RmOK C 2 := ⟨by rw [hRm]; exact Nat.le_refl _, by rw [hRm]; exact Nat.le_refl _⟩
  refine R_aload_0 hC dSB_init_da8c8_0 ?_
  refine R_bipush hC dSB_init_da8c8_1 (by decide +kernel) ⟨by decide, by decide⟩ ?_
  refine R_callID (as := [vI 16]) hC dSB_init_da8c8_3 mimAB_init_d00df mlSB_1 (b_init5 e rb hn hb hk h3) rfl rfl (by rw [hRm]; exact ⟨Nat.le_of_ble_eq_true rfl, Nat.le_of_ble_eq_true rfl, Nat.le_of_ble_eq_true rfl, Nat.le_of_ble_eq_true rfl⟩) (Nat.le_of_ble_eq_true rfl) (hls_R hb hls_0) hst_0 (fun g1 S1 n1 o1 M1 ga1 hn1 e1 hs1 hq rb1 ho => ?_)
  have hC1 := CxOK.ga ga1 hC
  obtain ⟨rfl, hq2⟩ := hq
  show RZ (g1, q) S1 C _ _ _ n1 6 _ [] M1
  exact R_vretD hC1 dSB_init_da8c8_6 rfl (by decide) (by decide) ga1 hn1 e1 hs1 rb1 ⟨rfl, hq2⟩
set_option maxHeartbeats 1000000 in
theorem s_init2 {g : Nat → Nat} {q : Gq} {S : Sh} {n : Nat} {l : Launch} {M : Mem} {b r m : Nat} {τ : List Int} (e : EX S n) (rb : RB S n M) (hn : n < 1000) (hb : b < n) (hr : r < n) (hB : BLD S M b r m τ) {t : Nat} (ht : t < n) (hkt : S.1 t = (12, 4)) : CtDA g q S n l 3 1 1402 mS_init_db425 [.ref (g t), .ref (g b), .null] M (fun o S' n' M' => o = none ∧ n' = n + 1 ∧ S' = push S n (22, τ.length) ∧ STG S' M' t n τ ∧ ∀ h, h < n → h ≠ t → M' h = M h) := by
  have hent := lv_entry [Value.ref (g t), .ref (g b), .null] (n := 5) (by simp [lg_sl, Value.category])
  refine R_startDA (ls := [some (vR t), some (vR b), none, none, none]) (by decide +kernel) ⟨hent.1, Nat.le_refl 5, hent.2.1, fun i u hi => ?_⟩ ⟨trivial, trivial, trivial⟩ (fun C hC hN hRm hlau => ?_)
  · match i, hi with
    | 0, hi =>
      cases hi
      exact hent.2.2 (0, .ref (g t)) (by simp [lv_args])
    | 1, hi =>
      cases hi
      exact hent.2.2 (1, .ref (g b)) (by simp [lv_args, Value.category])
    | 2, hi => cases hi
    | 3, hi => cases hi
    | 4, hi => cases hi
    | i + 5, hi => cases hi
  have hN := hN rfl
  show RZ (g, q) S C (ZD g q S n C (fun o S' n' M' => o = none ∧ n' = n + 1 ∧ S' = push S n (22, τ.length) ∧ STG S' M' t n τ ∧ ∀ h, h < n → h ≠ t → M' h = M h) 1 1402) 0 0 n 0 [some (vR t), some (vR b), none, none, none] [] M
  have hmb := hB.2.2.2.2.2.1
  have htb : t ≠ b := fun z => by rw [z, hB.1] at hkt; cases hkt
  have htr : t ≠ r := fun z => by rw [z, hB.2.1] at hkt; cases hkt
  refine R_aload_0 hC dS_init_db425_0 ?_
  refine R_initO hC dS_init_db425_1 mlS_1o ob_im ob_co (by rw [hRm]; exact ⟨Nat.le_of_ble_eq_true rfl, Nat.le_of_ble_eq_true rfl⟩) rfl ?_
  refine R_aload_1 hC dS_init_db425_4 ?_
  refine R_callU (as := []) hC dS_init_db425_5 mumAB_getValue_6d5f1 semAB_getValue_6d5f1 mlS_552 hb hB.1 rfl (b_getValue e hb hr hB) rfl rfl (by rw [hRm]; exact ⟨Nat.le_of_ble_eq_true rfl, Nat.le_of_ble_eq_true rfl, Nat.le_of_ble_eq_true rfl, Nat.le_of_ble_eq_true rfl⟩) (Nat.le_of_ble_eq_true rfl) (fun o2 M2 h2 => ?_)
  rw [h2.1, h2.2]
  show RZ (g, q) S C _ _ _ n 8 _ [vR r] M
  refine R_astore_3 hC dS_init_db425_8 rfl ?_
  refine R_aload_1 hC dS_init_db425_9 ?_
  refine R_callO (x := yJ5_length_8abf5) (z := mSB_length_8abf5) (as := []) hC dS_init_db425_10 xo_len (Ts_in (in_t5 _ (List.mem_of_getElem? (i := 217) rfl)) rfl) (Ts_in (in_t5 _ (List.mem_of_getElem? (i := 219) rfl)) rfl) ⟨by decide +kernel, by decide +kernel, by decide +kernel⟩ hb hB.1 rfl (b_length e hb hr hB) rfl rfl (by rw [hRm]; exact ⟨Nat.le_of_ble_eq_true rfl, Nat.le_of_ble_eq_true rfl, Nat.le_of_ble_eq_true rfl, Nat.le_of_ble_eq_true rfl⟩) (Nat.le_of_ble_eq_true rfl) (fun o2 M2 h2 => ?_)
  rw [h2.1, h2.2]
  show RZ (g, q) S C _ _ _ n 13 _ [vI (τ.length : Int)] M
  refine R_istore_4 hC dS_init_db425_13 rfl ?_
  refine R_aload_1 hC dS_init_db425_15 ?_
  refine R_callU (as := []) hC dS_init_db425_16 mumAB_isLatin1_aae02 semAB_isLatin1_aae02 mlS_1047 hb hB.1 rfl (b_isLatin1 e hb hr hB) rfl rfl (by rw [hRm]; exact ⟨Nat.le_of_ble_eq_true rfl, Nat.le_of_ble_eq_true rfl, Nat.le_of_ble_eq_true rfl, Nat.le_of_ble_eq_true rfl⟩) (Nat.le_of_ble_eq_true rfl) (fun o2 M2 h2 => ?_)
  rw [h2.1, h2.2]
  show RZ (g, q) S C _ _ _ n 19 _ [vI 1] M
  refine R_if_eq hC dS_init_db425_19 (tgt := 41) (by decide) (fun hj => ?_) (fun hj => ?_)
  · exact absurd hj (by decide)
  refine R_aload_0 hC dS_init_db425_22 ?_
  refine R_iconst hC dS_init_db425_23 ⟨by decide, by decide⟩ ?_
  refine R_putFZ hC hN dS_init_db425_24 flS_15 (fun p hp => by obtain rfl := Option.some.inj (hp.symm.trans cl_12.1); rfl) ht hkt (by decide) (by rw [e.2.2.1]; rfl) (.inl rfl) (fi := 1) rfl ?_
  refine R_aload_0 hC dS_init_db425_27 ?_
  refine R_aload_3 hC dS_init_db425_28 ?_
  refine R_iconst hC dS_init_db425_29 ⟨by decide, by decide⟩ ?_
  refine R_iload_4 hC dS_init_db425_30 ?_
  refine R_callSD (as := [vR r, vI 0, vI (τ.length : Int)]) hC dS_init_db425_32 momAR_copyOfRange_39247 mlS_54 (a_range (N := τ.length) e (RB.putI (f := 1) rb (by rw [hkt, e.2.2.1]; decide)) hn hr hB.2.1 (fun j a c => by rw [uM_h (Ne.symm htr)]; exact hB.2.2.2.2.2.2.1 j a c) hmb.1 hmb.2) rfl rfl (by rw [hRm]; exact ⟨Nat.le_of_ble_eq_true rfl, Nat.le_of_ble_eq_true rfl, Nat.le_of_ble_eq_true rfl, Nat.le_of_ble_eq_true rfl⟩) (Nat.le_of_ble_eq_true rfl) (hls_R ht (hls_R hb (hls_N (hls_R hr (hls_I hls_0))))) (hst_R ht hst_0) (fun g1 S1 n1 o1 M1 ga1 hn1 e1 hs1 hq rb1 ho => ?_)
  have hC1 := CxOK.ga ga1 hC
  obtain ⟨rfl, rfl, rfl, f, rfl, hf⟩ := hq
  show RZ (g1, q) (push S n (22, τ.length)) C _ _ _ (n + 1) 35 _ [vR n, vR t] _
  have hk1 : (push S n (22, τ.length)).1 t = (12, 4) := (push_o (by omega)).trans hkt
  refine R_putFR hC1 hN dS_init_db425_35 flS_9 (fun p hp => by obtain rfl := Option.some.inj (hp.symm.trans cl_12.1); rfl) (by omega) hk1 (by decide) (by rw [e1.2.2.1]; rfl) (by omega) (fi := 0) rfl ?_
  refine R_goto hC1 dS_init_db425_38 (tgt := 97) (by decide) ?_
  exact R_vretD hC1 dS_init_db425_97 rfl (by decide) (by decide) ga1 (Nat.le_succ n) e1 hs1 (rb1.put (Int.ofNat_lt.mpr (Nat.lt_succ_self n))) ⟨rfl, rfl, rfl, ⟨hk1, push_s, uM_same, (uM_k (by decide)).trans ((setR_o (by omega)).trans uM_same), fun j hj => by
    rw [uM_h (by omega), setR_s, hf j (by omega) (by omega), uM_h (Ne.symm htr)]
    exact hB.2.2.2.2.2.2.2 j hj, hB.t7⟩, fun h hh hne => (uM_ne hne).trans ((funext fun j => setR_o (by omega)).trans (uM_ne hne))⟩
set_option maxHeartbeats 1000000 in
theorem s_init1 {g : Nat → Nat} {q : Gq} {S : Sh} {n : Nat} {l : Launch} {M : Mem} {b r m : Nat} {τ : List Int} (e : EX S n) (rb : RB S n M) (hn : n < 1000) (hb : b < n) (hr : r < n) (hB : BLD S M b r m τ) {t : Nat} (ht : t < n) (hkt : S.1 t = (12, 4)) : CtD g q S n l 4 1 1402 mS_init_81219 [vR t, vR b] M (fun o S' n' M' => o = none ∧ n' = n + 1 ∧ S' = push S n (22, τ.length) ∧ STG S' M' t n τ ∧ ∀ h, h < n → h ≠ t → M' h = M h) := by
  refine R_startD (by decide +kernel) (Nat.le_of_ble_eq_true rfl) (fun C hC hN hRm hlau => ?_)
  show RZ (g, q) S C (ZD g q S n C (fun o S' n' M' => o = none ∧ n' = n + 1 ∧ S' = push S n (22, τ.length) ∧ STG S' M' t n τ ∧ ∀ h, h < n → h ≠ t → M' h = M h) 1 1402) 0 0 n 0 [some (vR t), some (vR b)] [] M
  have hR0 : RmOK C 4 := ⟨by rw [hRm]; exact Nat.le_refl _, by rw [hRm]; exact Nat.le_refl _⟩
  refine R_aload_0 hC dS_init_81219_0 ?_
  refine R_aload_1 hC dS_init_81219_1 ?_
  refine R_callNull hC dS_init_81219_2 dS_init_81219_3 mimS_init_db425 mlS_489 (s_init2 e rb hn hb hr hB ht hkt) (by rw [hRm]; exact ⟨Nat.le_of_ble_eq_true rfl, Nat.le_of_ble_eq_true rfl, Nat.le_of_ble_eq_true rfl, Nat.le_of_ble_eq_true rfl⟩) (hls_R ht (hls_R hb hls_0)) (fun g1 S1 n1 o1 M1 ga1 hn1 e1 hs1 hq rb1 ho => ?_)
  have hC1 := CxOK.ga ga1 hC
  obtain ⟨rfl, hq2⟩ := hq
  show RZ (g1, q) S1 C _ _ _ n1 6 _ [] M1
  exact R_vretD hC1 dS_init_81219_6 rfl (by decide) (by decide) ga1 hn1 e1 hs1 rb1 ⟨rfl, hq2⟩
set_option maxHeartbeats 1000000 in
theorem b_toString {g : Nat → Nat} {q : Gq} {S : Sh} {n : Nat} {l : Launch} {M : Mem} {b r m : Nat} {τ : List Int} (e : EX S n) (rb : RB S n M) (hn : n + 1 < 1000) (hb : b < n) (hr : r < n) (hB : BLD S M b r m τ) : CtD g q S n l 5 2 1406 mSB_toString_0e30d [vR b] M (fun o S' n' M' => o = some (vR n) ∧ n' = n + 2 ∧ STG S' M' n (n + 1) τ ∧ ∀ h, h < n → M' h = M h) := by
  refine R_startD (by decide +kernel) (Nat.le_of_ble_eq_true rfl) (fun C hC hN hRm hlau => ?_)
  show RZ (g, q) S C (ZD g q S n C (fun o S' n' M' => o = some (vR n) ∧ n' = n + 2 ∧ STG S' M' n (n + 1) τ ∧ ∀ h, h < n → M' h = M h) 2 1406) 0 0 n 0 [some (vR b)] [] M
  have hR0 : RmOK C 5 := ⟨by rw [hRm]; exact Nat.le_refl _, by rw [hRm]; exact Nat.le_refl _⟩
  refine R_newOd hC e dSB_toString_0e30d_0 cl_12 cwSB_18 wi_String wz_String (by decide +kernel) (by omega) rb (hls_R hb hls_0) hst_0 (by rw [hRm]; exact Nat.le_of_ble_eq_true rfl) (by rw [hRm]; exact Nat.le_of_ble_eq_true rfl) (fun g1 ga1 e1 rb1 => ?_)
  have hC1 := CxOK.ga ga1 hC
  have hB1 : BLD (push S n (12, 4)) (setR M n (dfl LY 12)) b r m τ := hB.keep hb hr (fun h hh => push_o (by omega)) (funext fun j => setR_o (by omega)) (funext fun j => setR_o (by omega))
  refine R_dup hC1 dSB_toString_0e30d_3 rfl ?_
  refine R_aload_0 hC1 dSB_toString_0e30d_4 ?_
  refine R_callID (as := [vR b]) hC1 dSB_toString_0e30d_5 mimS_init_81219 mlSB_137 (s_init1 e1 rb1 (by omega) (by omega) (by omega) hB1 (Nat.lt_succ_self n) push_s) rfl rfl (by rw [hRm]; exact ⟨Nat.le_of_ble_eq_true rfl, Nat.le_of_ble_eq_true rfl, Nat.le_of_ble_eq_true rfl, Nat.le_of_ble_eq_true rfl⟩) (Nat.le_of_ble_eq_true rfl) (hls_R (by omega) hls_0) (hst_R (Nat.lt_succ_self n) hst_0) (fun g2 S2 n2 o2 M2 ga2 hn2 e2 hs2 hq rb2 ho => ?_)
  have hC2 := CxOK.ga ga2 hC1
  obtain ⟨rfl, rfl, rfl, hS2, hk2⟩ := hq
  show RZ (g2, q) _ C _ _ _ (n + 1 + 1) 8 _ [vR n] M2
  exact R_aretD hC2 dSB_toString_0e30d_8 rfl (.inl ⟨_, rfl⟩) (by decide) (by decide) (ga1.tr ga2 (by omega)) (by omega) e2 (fun h hh => (hs2 h (by omega)).trans (push_o (by omega))) rb2 (.inl (by omega)) ⟨rfl, rfl, hS2, fun h hh => (hk2 h (by omega) (by omega)).trans (funext fun j => setR_o (by omega))⟩
