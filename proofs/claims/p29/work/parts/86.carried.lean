/-! carried out, and undone -/
section CARR
variable {L W : Int} {d0 : Int → Int} {M M' : Mem} {d : Int → Int} {k r : Int} {s : Int → Int → Int} {S : Sh} {n : Nat} {B : Nat → Int → Int}
theorem CI.sc {s' : Int → Int → Int} (h : CI L W d0 M d k s r) (hs : ∀ i, 0 ≤ i → i < k → s' i = s i) (hk : 0 ≤ k) : CI L W d0 M d k s' r := by
  obtain ⟨h1, h2, ⟨h3, h4, h5⟩, h6, h7, h8, h9⟩ := h
  refine ⟨h1, h2, ⟨h3, h4, fun i i0 i1 => ?_⟩, fun i i0 i1 => by rw [hs i i0 i1]; exact h6 i i0 i1, h7, h8, ?_⟩
  · have z := h5 i i0 i1
    have e : (if i + 1 = k then d else s' (i + 1)) = if i + 1 = k then d else s (i + 1) := by
      by_cases q : i + 1 = k
      · rw [if_pos q, if_pos q]
      · rw [if_neg q, if_neg q, hs _ (by omega) (by omega)]
    rw [e, hs i i0 i1]
    exact z
  · by_cases q : k = 0
    · rw [if_pos q] at h9 ⊢
      exact h9
    · rw [if_neg q] at h9 ⊢
      rw [hs 0 (by decide) (by omega)]
      exact h9
/-- a greater world in which the desk is in that state, all else as told by B -/
def DS (L W : Int) (d0 : Int → Int) (S : Sh) (n : Nat) (B : Nat → Int → Int) (M : Mem) (d : Int → Int) (k : Int) (s : Int → Int → Int) (r : Int) : Prop := CI L W d0 M d k s r ∧ RB S n M ∧ ∀ h, 57 ≤ h → M h = B h
theorem DS.wi (h : DS L W d0 S n B M d k s r) : WI M d M := WI.rf h.1.1.1 h.1.1.2.2 h.1.1.2.1
theorem DS.sp (h : DS L W d0 S n B M d k s r) : SP d := h.1.2.1.1.1
theorem DS.pq (h : DS L W d0 S n B M d k s r) : PQ L W d := h.1.2.1.1
theorem RR.wi (h : WI M d M') : RR M M' := RR.fr h.1 (by decide +kernel)
theorem DS.to {d' : Int → Int} {k' r' : Int} {s' : Int → Int → Int} (h : DS L W d0 S n B M d k s r) (e : EX S n) (hc : CI L W d0 M' d' k' s' r') (hr : RR M M') : DS L W d0 S n B (mg M M') d' k' s' r' :=
  ⟨hc.dn (fun a ha => mg_lo ha), h.2.1.rr e hr, fun a ha => (mg_hi ha).trans (h.2.2 a ha)⟩
theorem DS.ask (h : DS L W d0 S n B M d k s r) (e : EX S n) (hw : WI M d M') : DS L W d0 S n B (mg M M') d k s r := h.to e (h.1.ask hw) (RR.wi hw)
theorem DS.put (h : DS L W d0 S n B M d k s r) {a N : Nat} {i v : Int} (ha : 57 ≤ a) (hk : S.1 a = (20, N)) : DS L W d0 S n (uM B a i v) (uM M a i v) d k s r := by
  refine ⟨h.1.dn (fun h hh => uM_ne (by omega)), fun b j hb c t => ?_, fun b hb => ?_⟩
  · by_cases q : b = a
    · rw [q, hk] at c
      exact absurd c (by decide : ¬ (20 < 14))
    · rw [uM_ne q]
      exact h.2.1 b j hb c t
  · by_cases q : b = a
    · funext j
      subst q
      have e := congrFun (h.2.2 b hb) j
      by_cases z : j = i
      · rw [z, uM_same, uM_same]
      · rw [uM_k z, uM_k z]
        exact e
    · rw [uM_ne q, uM_ne q]
      exact h.2.2 b hb
theorem und_k {G : Gl} {l : Launch} (h : CI L W d0 M d k s r) (hk : 0 < k ∧ k < 40) : Ct G LY 57 l 2 m11_undo [vR 0] M (RP (fun v M' => RR M M' ∧ v = k - 1 ∧ CI L W d0 M' (s (k - 1)) (k - 1) s r)) := by
  obtain ⟨g1, g2, g3, g4, g5, g6, g7, g8, g9⟩ := h.cf
  refine (c11_undo g1 g2 g3 g4 (by decide) (by decide) g5 (by omega) (by omega) (h.sb ⟨by omega, hk.2⟩)).mono (fun o M' hq => ?_)
  obtain ⟨v, rfl, ⟨z, -⟩ | ⟨_, ⟨f1, f2, f3, f4, f5⟩, rfl⟩⟩ := hq
  · omega
  · exact ⟨_, rfl, RR.fr f1 (by decide +kernel), rfl, h.und hk f1 f2 f3 f4 f5⟩
theorem und_0 {G : Gl} {l : Launch} (h : CI L W d0 M d 0 s r) : Ct G LY 57 l 2 m11_undo [vR 0] M (RP (fun v M' => v = -1 ∧ M' = M)) := by
  obtain ⟨g1, g2, g3, g4, g5, g6, g7, g8, g9⟩ := h.cf
  refine (c11_undo g1 g2 g3 g4 (by decide) (by decide) g5 (by decide) (by decide) (h.sb ⟨by decide, by decide⟩)).mono (fun o M' hq => ?_)
  obtain ⟨v, rfl, ⟨_, rfl, rfl⟩ | ⟨z, -⟩⟩ := hq
  · exact ⟨_, rfl, rfl, rfl⟩
  · exact absurd rfl z
end CARR
section COS
variable {d : Int → Int} {v : Int}
theorem c7_plC (hS : SP d) (hp : planI (insOf d)) (hw : 1 ≤ d 122) : (if SPC (insOf d) = -1 then -1 else if iW (insOf d) = 0 then 0 else MC (insOf d) 1) = plC (insOf d) := by
  have e : iW (insOf d) = d 122 := rfl
  rw [if_neg (fun z => (SPC_n (SP.I hS)).mp z hp), if_neg (by omega), plC_mc (SP.I hS) hp]
theorem co_at {x w : Int} (x0 : 0 ≤ x) (x1 : x < 5) (w0 : 0 ≤ w) (w1 : w < 6) : upd1 (coP d) 119 v (28 + x * 6 + w) = d (28 + x * 6 + w) - plT (insOf d) (x * 6 + w) := by
  rw [upd1_o (by omega)]
  show (if 28 ≤ 28 + x * 6 + w ∧ 28 + x * 6 + w < 58 then d (28 + x * 6 + w) - plT (insOf d) (28 + x * 6 + w - 28) else d (28 + x * 6 + w)) = _
  rw [if_pos ⟨by omega, by omega⟩, show 28 + x * 6 + w - 28 = x * 6 + w by omega]
theorem co_o {k : Int} (h : k ≠ 119) (h2 : k < 28 ∨ 58 ≤ k) : upd1 (coP d) 119 v k = d k := (upd1_o h).trans (if_neg (by omega))
theorem co_in (hS : SP d) (hp : planI (insOf d)) {x : Int} (x0 : 0 ≤ x) (x1 : x < d 121) : inAll (upd1 (coP d) 119 v) x + sm (d 122).toNat (fun w => nn d x w) = inAll d x := by
  have h1 := hS.1
  unfold inAll
  rw [co_o (by decide) (by decide), ← sm_add]
  exact sm_congr _ (fun w w0 w1 => by rw [co_at x0 (by omega) w0 (by omega), nn_t hp]; omega)
theorem co_held (hS : SP d) (hp : planI (insOf d)) (hw : 1 ≤ d 122) : heldAll (upd1 (coP d) 119 v) = heldAll d - plC (insOf d) := by
  have e : heldAll (upd1 (coP d) 119 v) + sm (d 121).toNat (fun x => sm (d 122).toNat (fun w => nn d x w)) = heldAll d := by
    unfold heldAll
    rw [co_o (by decide) (by decide), ← sm_add]
    exact sm_congr _ (fun x x0 x1 => co_in hS hp x0 (by omega))
  have f := (plan_fx hS hp rfl rfl).2.2.2.2.2.2
  rw [c7_plC hS hp hw] at f
  omega
theorem co_nee (hS : SP d) (hp : planI (insOf d)) {x : Int} (x0 : 0 ≤ x) (x1 : x < d 121) : nee (upd1 (coP d) 119 v) x = 0 := by
  have h1 := hS.1
  have a := co_in (v := v) hS hp x0 x1
  have b := ((plan_fx hS hp rfl rfl).2.1 x x0 x1).1
  unfold nee at b ⊢
  rw [co_o (by omega) (by omega)]
  omega
theorem co_spr (hS : SP d) (hp : planI (insOf d)) {w : Int} (w0 : 0 ≤ w) (w1 : w < d 122) : spr (upd1 (coP d) 119 v) w = spr d w - itc (planI (insOf d)) (sm 5 (fun x => (plT (insOf d)) (x * 6 + w))) (-1) := by
  have h1 := hS.1
  have b := (plan_fx hS hp rfl rfl).2.2.1 w w0 w1
  have nnp : 0 ≤ sm (d 121).toNat (fun x => nn d x w) := by
    have e2 : sm (d 121).toNat (fun _ => 0) ≤ sm (d 121).toNat (fun x => nn d x w) := sm_le _ (fun x x0 x1 => by
      rw [nn_t hp]
      exact (plT_3 (SP.I hS) (by omega)).1)
    rw [sm_zero _ (fun _ _ _ => rfl)] at e2
    exact e2
  have a : sm (d 121).toNat (fun x => upd1 (coP d) 119 v (28 + x * 6 + w)) + sm (d 121).toNat (fun x => nn d x w) = sm (d 121).toNat (fun x => d (28 + x * 6 + w)) := by
    rw [← sm_add]
    exact sm_congr _ (fun x x0 x1 => by rw [co_at x0 (by omega) w0 (by omega), nn_t hp]; omega)
  rw [b.1]
  have b2 := b.2
  unfold spr allOf at b2 ⊢
  rw [co_o (k := 121) (by decide) (by decide), co_o (k := 22 + w) (by omega) (by omega), co_o (k := 16 + w) (by omega) (by omega)]
  omega
theorem co_119 : upd1 (coP d) 119 v 119 = v := upd1_e
end COS

theorem D_sq {G : Gl} {S : Sh} {C : Cx} {Z : State → Prop} {k w n : Nat} {pc : Nat} {ls : List (Option V)} {st : List V} {M : Mem} {y : Mt} {D kc kw : Nat} {d na idx : Nat} {z : Mt} {as : List V} {st0 : List V} {v : V} (hC : CxOK G y C) (hRm : C.2.2.2.1 = rmN D kc kw) (hd : decode y.2.1 pc = .ok (.invokestatic idx, 3)) (hz : MO z na true) (hlk : Cond.methodLink y.1.cls idx z.1 ∈ Ts)
    (hct : Ct G S n C.2.1 d z as M (Ret v M)) (hst : st0 = as.reverse ++ st) (hna : as.length = na) (hdd : d + 1 ≤ D) (hmx : z.2.2.1 ≤ 21) (h1 : k ≤ kc) (h2 : w ≤ kw) (hcat : (st.map vcat).sum ≤ 8)
    (kk : RZ G S C Z k w n (pc + 3) ls (v :: st) M) : RZ G S C Z k w n pc ls st0 M :=
  R_callS hC hd hz hlk hct hst hna (rm_D hRm hdd hmx h1 h2) hcat (fun r M' h => by rw [h.1, h.2]; exact kk)

theorem col_nn {d : Int → Int} (hS : SP d) (hp : planI (insOf d)) {w : Int} (w0 : 0 ≤ w) {n : Nat} : 0 ≤ sm n (fun x => nn d x w) := by
  have e2 : sm n (fun _ => 0) ≤ sm n (fun x => nn d x w) := sm_le _ (fun x x0 x1 => by
    rw [nn_t hp]
    exact (plT_3 (SP.I hS) (by omega)).1)
  rw [sm_zero _ (fun _ _ _ => rfl)] at e2
  exact e2

abbrev mW_isCarried : Mt := (yL_isCarried, cL_isCarried, 8, (some FieldType.boolean))
theorem dW_isCarried_0 : decode cL_isCarried 0 = .ok (.aload_n 1, 1) := by decide +kernel
theorem dW_isCarried_1 : decode cL_isCarried 1 = .ok (.iconst 5, 1) := by decide +kernel
theorem dW_isCarried_2 : decode cL_isCarried 2 = .ok (.invokevirtual 111, 3) := by decide +kernel
theorem dW_isCarried_5 : decode cL_isCarried 5 = .ok (.ifCond .ne 17, 3) := by decide +kernel
theorem dW_isCarried_8 : decode cL_isCarried 8 = .ok (.aload_n 1, 1) := by decide +kernel
theorem dW_isCarried_9 : decode cL_isCarried 9 = .ok (.invokevirtual 102, 3) := by decide +kernel
theorem dW_isCarried_12 : decode cL_isCarried 12 = .ok (.iconst (-1), 1) := by decide +kernel
theorem dW_isCarried_13 : decode cL_isCarried 13 = .ok (.if_icmp .ne 7, 3) := by decide +kernel
theorem dW_isCarried_16 : decode cL_isCarried 16 = .ok (.iconst 1, 1) := by decide +kernel
theorem dW_isCarried_17 : decode cL_isCarried 17 = .ok (.goto 4, 3) := by decide +kernel
theorem dW_isCarried_21 : decode cL_isCarried 21 = .ok (.ireturn, 1) := by decide +kernel
theorem dW_isCarried_22 : decode cL_isCarried 22 = .ok (.aload_n 1, 1) := by decide +kernel
theorem dW_isCarried_23 : decode cL_isCarried 23 = .ok (.bipush 7, 2) := by decide +kernel
theorem dW_isCarried_25 : decode cL_isCarried 25 = .ok (.invokevirtual 111, 3) := by decide +kernel
theorem dW_isCarried_28 : decode cL_isCarried 28 = .ok (.istore_n 2, 1) := by decide +kernel
theorem dW_isCarried_29 : decode cL_isCarried 29 = .ok (.aload_n 1, 1) := by decide +kernel
theorem dW_isCarried_30 : decode cL_isCarried 30 = .ok (.iconst 3, 1) := by decide +kernel
theorem dW_isCarried_31 : decode cL_isCarried 31 = .ok (.invokevirtual 111, 3) := by decide +kernel
theorem dW_isCarried_34 : decode cL_isCarried 34 = .ok (.istore_n 3, 1) := by decide +kernel
theorem dW_isCarried_35 : decode cL_isCarried 35 = .ok (.aload_n 1, 1) := by decide +kernel
theorem dW_isCarried_36 : decode cL_isCarried 36 = .ok (.iconst 4, 1) := by decide +kernel
theorem dW_isCarried_37 : decode cL_isCarried 37 = .ok (.invokevirtual 111, 3) := by decide +kernel
theorem dW_isCarried_40 : decode cL_isCarried 40 = .ok (.istore 4, 2) := by decide +kernel
theorem dW_isCarried_42 : decode cL_isCarried 42 = .ok (.iconst 3, 1) := by decide +kernel
theorem dW_isCarried_43 : decode cL_isCarried 43 = .ok (.newarray .int, 2) := by decide +kernel
theorem dW_isCarried_45 : decode cL_isCarried 45 = .ok (.astore 5, 2) := by decide +kernel
theorem dW_isCarried_47 : decode cL_isCarried 47 = .ok (.iconst 0, 1) := by decide +kernel
theorem dW_isCarried_48 : decode cL_isCarried 48 = .ok (.istore 6, 2) := by decide +kernel
theorem dW_isCarried_50 : decode cL_isCarried 50 = .ok (.iload 6, 2) := by decide +kernel
theorem dW_isCarried_52 : decode cL_isCarried 52 = .ok (.aload_n 0, 1) := by decide +kernel
theorem dW_isCarried_53 : decode cL_isCarried 53 = .ok (.invokestatic 66, 3) := by decide +kernel
theorem dW_isCarried_56 : decode cL_isCarried 56 = .ok (.if_icmp .ge 29, 3) := by decide +kernel
theorem dW_isCarried_85 : decode cL_isCarried 85 = .ok (.aload_n 0, 1) := by decide +kernel
theorem dW_isCarried_86 : decode cL_isCarried 86 = .ok (.aload_n 1, 1) := by decide +kernel
theorem dW_isCarried_87 : decode cL_isCarried 87 = .ok (.invokestatic 131, 3) := by decide +kernel
theorem momW_print : MO mW_print 2 true := ⟨Ts_in (in_t6 _ (List.mem_of_getElem? (i := 220) rfl)) rfl, Ts_in (in_t1 _ (List.mem_of_getElem? (i := 0) rfl)) rfl, ⟨by decide +kernel, by decide +kernel, by decide +kernel⟩, Ts_in (in_t6 _ (List.mem_of_getElem? (i := 219) rfl)) rfl⟩
theorem mlW_131 : Cond.methodLink RL 131 mW_print.1 ∈ Ts := Ts_in (in_t6 _ (List.mem_of_getElem? (i := 218) rfl)) rfl
theorem dW_isCarried_90 : decode cL_isCarried 90 = .ok (.istore 6, 2) := by decide +kernel
theorem dW_isCarried_92 : decode cL_isCarried 92 = .ok (.aload_n 1, 1) := by decide +kernel
theorem dW_isCarried_93 : decode cL_isCarried 93 = .ok (.invokevirtual 102, 3) := by decide +kernel
theorem dW_isCarried_96 : decode cL_isCarried 96 = .ok (.iload_n 2, 1) := by decide +kernel
theorem dW_isCarried_97 : decode cL_isCarried 97 = .ok (.if_icmp .ne 26, 3) := by decide +kernel
theorem dW_isCarried_100 : decode cL_isCarried 100 = .ok (.aload_n 1, 1) := by decide +kernel
theorem dW_isCarried_101 : decode cL_isCarried 101 = .ok (.iconst 3, 1) := by decide +kernel
theorem dW_isCarried_102 : decode cL_isCarried 102 = .ok (.invokevirtual 111, 3) := by decide +kernel
theorem dW_isCarried_105 : decode cL_isCarried 105 = .ok (.iload_n 3, 1) := by decide +kernel
theorem dW_isCarried_106 : decode cL_isCarried 106 = .ok (.iload_n 2, 1) := by decide +kernel
theorem dW_isCarried_107 : decode cL_isCarried 107 = .ok (.isub, 1) := by decide +kernel
theorem dW_isCarried_108 : decode cL_isCarried 108 = .ok (.if_icmp .ne 15, 3) := by decide +kernel
theorem dW_isCarried_111 : decode cL_isCarried 111 = .ok (.aload_n 1, 1) := by decide +kernel
theorem dW_isCarried_112 : decode cL_isCarried 112 = .ok (.iconst 4, 1) := by decide +kernel
theorem dW_isCarried_113 : decode cL_isCarried 113 = .ok (.invokevirtual 111, 3) := by decide +kernel
theorem dW_isCarried_116 : decode cL_isCarried 116 = .ok (.iload 4, 2) := by decide +kernel
theorem dW_isCarried_118 : decode cL_isCarried 118 = .ok (.iload_n 2, 1) := by decide +kernel
theorem dW_isCarried_119 : decode cL_isCarried 119 = .ok (.iadd, 1) := by decide +kernel
theorem dW_isCarried_120 : decode cL_isCarried 120 = .ok (.if_icmp .eq 5, 3) := by decide +kernel
theorem dW_isCarried_125 : decode cL_isCarried 125 = .ok (.iconst 0, 1) := by decide +kernel
theorem dW_isCarried_126 : decode cL_isCarried 126 = .ok (.istore 7, 2) := by decide +kernel
theorem dW_isCarried_128 : decode cL_isCarried 128 = .ok (.iload 7, 2) := by decide +kernel
theorem dW_isCarried_130 : decode cL_isCarried 130 = .ok (.aload_n 0, 1) := by decide +kernel
theorem dW_isCarried_131 : decode cL_isCarried 131 = .ok (.invokestatic 40, 3) := by decide +kernel
theorem dW_isCarried_134 : decode cL_isCarried 134 = .ok (.if_icmp .ge 21, 3) := by decide +kernel
theorem dW_isCarried_155 : decode cL_isCarried 155 = .ok (.iconst 0, 1) := by decide +kernel
theorem dW_isCarried_156 : decode cL_isCarried 156 = .ok (.istore 7, 2) := by decide +kernel
theorem dW_isCarried_158 : decode cL_isCarried 158 = .ok (.iload 7, 2) := by decide +kernel
theorem dW_isCarried_160 : decode cL_isCarried 160 = .ok (.aload_n 0, 1) := by decide +kernel
theorem dW_isCarried_161 : decode cL_isCarried 161 = .ok (.invokestatic 66, 3) := by decide +kernel
theorem dW_isCarried_164 : decode cL_isCarried 164 = .ok (.if_icmp .ge 26, 3) := by decide +kernel
theorem dW_isCarried_190 : decode cL_isCarried 190 = .ok (.aload_n 1, 1) := by decide +kernel
theorem dW_isCarried_191 : decode cL_isCarried 191 = .ok (.invokevirtual 135, 3) := by decide +kernel
theorem mlW_135 : Cond.methodLink RL 135 m11_undo.1 ∈ Ts := Ts_in (in_t4 _ (List.mem_of_getElem? (i := 58) rfl)) rfl
theorem dW_isCarried_194 : decode cL_isCarried 194 = .ok (.ifCond .lt 17, 3) := by decide +kernel
theorem dW_isCarried_197 : decode cL_isCarried 197 = .ok (.aload_n 0, 1) := by decide +kernel
theorem dW_isCarried_198 : decode cL_isCarried 198 = .ok (.aload_n 1, 1) := by decide +kernel
theorem dW_isCarried_199 : decode cL_isCarried 199 = .ok (.invokestatic 131, 3) := by decide +kernel
theorem dW_isCarried_202 : decode cL_isCarried 202 = .ok (.iload 6, 2) := by decide +kernel
theorem dW_isCarried_204 : decode cL_isCarried 204 = .ok (.if_icmp .ne 7, 3) := by decide +kernel
theorem dW_isCarried_207 : decode cL_isCarried 207 = .ok (.iconst 1, 1) := by decide +kernel
theorem dW_isCarried_208 : decode cL_isCarried 208 = .ok (.goto 4, 3) := by decide +kernel
theorem dW_isCarried_212 : decode cL_isCarried 212 = .ok (.ireturn, 1) := by decide +kernel
theorem dW_isCarried_167 : decode cL_isCarried 167 = .ok (.aload_n 1, 1) := by decide +kernel
theorem dW_isCarried_168 : decode cL_isCarried 168 = .ok (.iload 7, 2) := by decide +kernel
theorem dW_isCarried_170 : decode cL_isCarried 170 = .ok (.iconst 3, 1) := by decide +kernel
theorem dW_isCarried_171 : decode cL_isCarried 171 = .ok (.invokevirtual 120, 3) := by decide +kernel
theorem dW_isCarried_174 : decode cL_isCarried 174 = .ok (.aload 5, 2) := by decide +kernel
theorem dW_isCarried_176 : decode cL_isCarried 176 = .ok (.iload 7, 2) := by decide +kernel
theorem dW_isCarried_178 : decode cL_isCarried 178 = .ok (.iaload, 1) := by decide +kernel
theorem dW_isCarried_179 : decode cL_isCarried 179 = .ok (.if_icmp .eq 5, 3) := by decide +kernel
theorem dW_isCarried_184 : decode cL_isCarried 184 = .ok (.iinc 7 1, 3) := by decide +kernel
theorem dW_isCarried_187 : decode cL_isCarried 187 = .ok (.goto (-29), 3) := by decide +kernel
theorem dW_isCarried_137 : decode cL_isCarried 137 = .ok (.aload_n 1, 1) := by decide +kernel
theorem dW_isCarried_138 : decode cL_isCarried 138 = .ok (.iload 7, 2) := by decide +kernel
theorem dW_isCarried_140 : decode cL_isCarried 140 = .ok (.iconst 3, 1) := by decide +kernel
theorem dW_isCarried_141 : decode cL_isCarried 141 = .ok (.invokevirtual 123, 3) := by decide +kernel
theorem dW_isCarried_144 : decode cL_isCarried 144 = .ok (.ifCond .eq 5, 3) := by decide +kernel
theorem dW_isCarried_149 : decode cL_isCarried 149 = .ok (.iinc 7 1, 3) := by decide +kernel
theorem dW_isCarried_152 : decode cL_isCarried 152 = .ok (.goto (-24), 3) := by decide +kernel
theorem dW_isCarried_59 : decode cL_isCarried 59 = .ok (.aload 5, 2) := by decide +kernel
theorem dW_isCarried_61 : decode cL_isCarried 61 = .ok (.iload 6, 2) := by decide +kernel
theorem dW_isCarried_63 : decode cL_isCarried 63 = .ok (.aload_n 1, 1) := by decide +kernel
theorem dW_isCarried_64 : decode cL_isCarried 64 = .ok (.iload 6, 2) := by decide +kernel
theorem dW_isCarried_66 : decode cL_isCarried 66 = .ok (.iconst 3, 1) := by decide +kernel
theorem dW_isCarried_67 : decode cL_isCarried 67 = .ok (.invokevirtual 120, 3) := by decide +kernel
theorem dW_isCarried_70 : decode cL_isCarried 70 = .ok (.aload_n 1, 1) := by decide +kernel
theorem dW_isCarried_71 : decode cL_isCarried 71 = .ok (.iload 6, 2) := by decide +kernel
theorem dW_isCarried_73 : decode cL_isCarried 73 = .ok (.iconst 5, 1) := by decide +kernel
theorem dW_isCarried_74 : decode cL_isCarried 74 = .ok (.invokevirtual 120, 3) := by decide +kernel
theorem dW_isCarried_77 : decode cL_isCarried 77 = .ok (.isub, 1) := by decide +kernel
theorem dW_isCarried_78 : decode cL_isCarried 78 = .ok (.iastore, 1) := by decide +kernel
theorem dW_isCarried_79 : decode cL_isCarried 79 = .ok (.iinc 6 1, 3) := by decide +kernel
theorem dW_isCarried_82 : decode cL_isCarried 82 = .ok (.goto (-32), 3) := by decide +kernel
theorem l_isCarried {g0 g : Nat → Nat} {q : Gq} {S : Sh} {n : Nat} {l : Launch} {M : Mem} {d d0 : Int → Int} {k r : Int} {s : Int → Int → Int} (ga : KA g0 g) (e : EX S n) (hn : n + 1 < 1000) (rb : RB S n M) (hCI : CI (libsN g0) (worksN g0) d0 M d k s r) (hk : 0 ≤ k ∧ k < 30) (hr : 0 ≤ r ∧ r ≤ 900) : CtD g q S n l 12 1 3 mW_isCarried [vR 1030, vR 0] M (fun o S' n' M' => n' ≤ n + 1 ∧ o = some (vI 1) ∧ (∀ h, 57 ≤ h → h < n → M' h = M h) ∧ ∃ r', (r ≤ r' ∧ r' ≤ r + 1) ∧ CI (libsN g0) (worksN g0) d0 M' d k s r') := by
  refine R_startD (by decide +kernel) (Nat.le_of_ble_eq_true rfl) (fun C hC hN hRm hlau => ?_)
  show RZ (g, q) S C (ZD g q S n C (fun o S' n' M' => n' ≤ n + 1 ∧ o = some (vI 1) ∧ (∀ h, 57 ≤ h → h < n → M' h = M h) ∧ ∃ r', (r ≤ r' ∧ r' ≤ r + 1) ∧ CI (libsN g0) (worksN g0) d0 M' d k s r') 1 3) 0 0 n 0 [some (vR 1030), some (vR 0), none, none, none, none, none, none] [] M
  have hlb := libsN_b g0
  have hwb := worksN_b g0
  have e57 := e.1
  have ds : DS (libsN g0) (worksN g0) d0 S n M M d k s r := ⟨hCI, rb, fun _ _ => rfl⟩
  have hdS := ds.sp
  have hL : d 121 = libsN g0 := ds.pq.2.1
  have hW : d 122 = worksN g0 := ds.pq.2.2.1
  refine R_aload_1 hC dW_isCarried_0 ?_
  refine R_iconst hC dW_isCarried_1 ⟨by decide, by decide⟩ ?_
  refine D_vf (as := [vI 5]) hC e hRm dW_isCarried_2 mo_11_count mlW_111 (by decide) rfl rfl (fun N => k_count_5 ds.wi ds.sp ) rfl rfl (by decide) (by decide) (by decide) (by decide) (Nat.le_of_ble_eq_true rfl) (fun o M1 hq1 => ?_)
  obtain ⟨v1, rfl, hw1, rfl⟩ := hq1
  have ds1 := ds.ask e hw1
  generalize mg M M1 = Mx1 at ds1 ⊢
  refine R_if_ne hC dW_isCarried_5 (tgt := 22) (by decide) (fun hb5 => ?_) (fun hb5 => ?_)
  rotate_left
  · skip
    replace hb5 := bP_z hb5
    refine R_aload_1 hC dW_isCarried_8 ?_
    refine D_vf (as := []) hC e hRm dW_isCarried_9 mo_11_carry mlW_102 (by decide) rfl rfl (fun N => a_carry ds1.1 ⟨by omega, by omega⟩ ⟨by omega, by omega⟩) rfl rfl (by decide) (by decide) (by decide) (by decide) (Nat.le_of_ble_eq_true rfl) (fun o M2 hq2 => ?_)
    obtain ⟨v2, rfl, hR2, ⟨hp2, -⟩ | ⟨-, rfl, hc2⟩⟩ := hq2
    · exact absurd hp2 hb5
    have dz := ds1.to e hc2 hR2
    generalize mg Mx1 M2 = Mz at dz ⊢
    refine R_iconst hC dW_isCarried_12 ⟨by decide, by decide⟩ ?_
    refine R_icmp_ne hC dW_isCarried_13 (tgt := 20) (by decide) (fun hb => absurd rfl hb) (fun _ => ?_)
    refine R_iconst hC dW_isCarried_16 ⟨by decide, by decide⟩ ?_
    refine R_goto hC dW_isCarried_17 (tgt := 21) (by decide) ?_
    exact R_zretD hC dW_isCarried_21 rfl (.inr rfl) (by decide) (by decide) GA.rf (Nat.le_refl n) e (fun _ _ => rfl) dz.2.1 ⟨by omega, rfl, fun h a _ => dz.2.2 h a, r + 1, ⟨by omega, by omega⟩, dz.1⟩
  replace hb5 := bP_nz hb5
  have hc7 := c7_plC ds.sp hb5 (by omega)
  have hpb := plC_bd (SP.I ds.sp)
  have hhb := heldAll_bd ds.sp.B
  have h119 := ds.sp.2.2.2.2.1.2.1
  refine R_aload_1 hC dW_isCarried_22 ?_
  refine R_bipush hC dW_isCarried_23 (by decide +kernel) ⟨by decide, by decide⟩ ?_
  refine D_vf (as := [vI 7]) hC e hRm dW_isCarried_25 mo_11_count mlW_111 (by decide) rfl rfl (fun N => k_count_7 ds1.wi ds1.sp ) rfl rfl (by decide) (by decide) (by decide) (by decide) (Nat.le_of_ble_eq_true rfl) (fun o M3 hq3 => ?_)
  obtain ⟨v3, rfl, hw3, rfl⟩ := hq3
  have ds3 := ds1.ask e hw3
  generalize mg Mx1 M3 = Mx3 at ds3 ⊢
  rw [hc7]
  refine R_istore_2 hC dW_isCarried_28 rfl ?_
  refine R_aload_1 hC dW_isCarried_29 ?_
  refine R_iconst hC dW_isCarried_30 ⟨by decide, by decide⟩ ?_
  refine D_vf (as := [vI 3]) hC e hRm dW_isCarried_31 mo_11_count mlW_111 (by decide) rfl rfl (fun N => k_count_3 ds3.wi ds3.sp ) rfl rfl (by decide) (by decide) (by decide) (by decide) (Nat.le_of_ble_eq_true rfl) (fun o M4 hq4 => ?_)
  obtain ⟨v4, rfl, hw4, rfl⟩ := hq4
  have ds4 := ds3.ask e hw4
  generalize mg Mx3 M4 = Mx4 at ds4 ⊢
  refine R_istore_3 hC dW_isCarried_34 rfl ?_
  refine R_aload_1 hC dW_isCarried_35 ?_
  refine R_iconst hC dW_isCarried_36 ⟨by decide, by decide⟩ ?_
  refine D_vf (as := [vI 4]) hC e hRm dW_isCarried_37 mo_11_count mlW_111 (by decide) rfl rfl (fun N => k_count_4 ds4.wi ds4.sp ) rfl rfl (by decide) (by decide) (by decide) (by decide) (Nat.le_of_ble_eq_true rfl) (fun o M5 hq5 => ?_)
  obtain ⟨v5, rfl, hw5, rfl⟩ := hq5
  have ds5 := ds4.ask e hw5
  generalize mg Mx4 M5 = Mx5 at ds5 ⊢
  refine R_istore_4 hC dW_isCarried_40 rfl ?_
  refine R_iconst hC dW_isCarried_42 ⟨by decide, by decide⟩ ?_
  refine R_newAd (kd := 20) (N := 3) hC e dW_isCarried_43 rfl (.inl rfl) w_arrI rfl (by decide) (by omega) ds5.2.1 (hls_K (by decide) (hls_R (by omega) (hls_I (hls_I (hls_I (hls_N (hls_N (hls_N hls_0)))))))) hst_0 (by rw [hRm]; exact Nat.le_refl _) (by rw [hRm]; exact Nat.le_refl _) (fun g1 ga1 e1 rb1 => ?_)
  have hC1 := CxOK.ga ga1 hC
  have ka1 : KA g0 g1 := ga.tr ga1.ka
  have dsn : DS (libsN g0) (worksN g0) d0 (push S n (20, 3)) (n + 1) (setR Mx5 n (fun _ => 0)) (setR Mx5 n (fun _ => 0)) d k s r := ⟨ds5.1.dn (fun a ha => setR_r (by omega)), rb1, fun _ _ => rfl⟩
  have hMM : ∀ h, 57 ≤ h → h < n → setR Mx5 n (fun _ => 0) h = M h := fun h a b => (setR_r (by omega)).trans (ds5.2.2 h a)
  generalize setR Mx5 n (fun _ => 0) = MB at dsn hMM ⊢
  refine R_astore_5 hC1 dW_isCarried_45 rfl ?_
  refine R_iconst hC1 dW_isCarried_47 ⟨by decide, by decide⟩ ?_
  refine R_istore_6 hC1 dW_isCarried_48 rfl ?_
  have L1 : ∀ (mq : Nat) (w : Int) (B M1 : Mem), 0 ≤ w → w ≤ worksN g0 → DS (libsN g0) (worksN g0) d0 (push S n (20, 3)) (n + 1) B M1 d k s r → (∀ h, 57 ≤ h → h < n → B h = M h) → (∀ j, 0 ≤ j → j < w → B n j = (spr d j - itc (planI (insOf d)) (sm 5 (fun x => (plT (insOf d)) (x * 6 + j))) (-1))) → (worksN g0 - w).toNat < mq → RZ (g1, q) (push S n (20, 3)) C (ZD g q S n C (fun o S' n' M' => n' ≤ n + 1 ∧ o = some (vI 1) ∧ (∀ h, 57 ≤ h → h < n → M' h = M h) ∧ ∃ r', (r ≤ r' ∧ r' ≤ r + 1) ∧ CI (libsN g0) (worksN g0) d0 M' d k s r') 1 3) 1 3 (n + 1) 50 [some (vR 1030), some (vR 0), some (vI (plC (insOf d))), some (vI (heldAll d)), some (vI (d 119)), some (vR n), some (vI w), none] [] M1 := by
    intro mq
    induction mq with
    | zero =>
      intro w B M1 w0 w1 ds hM hB hm
      exact absurd hm (Nat.not_lt_zero _)
    | succ mq ih =>
      intro w B M1 w0 w1 ds hM hB hm
      refine R_iload_6 hC1 dW_isCarried_50 ?_
      refine R_aload_0 hC1 dW_isCarried_52 ?_
      refine D_sq (as := [vR 1030]) hC1 hRm dW_isCarried_53 momW_works mlW_66 (l_works (G := (g1, q)) ka1) rfl rfl (by decide) (by decide) (Nat.le_refl _) (Nat.le_refl _) (Nat.le_of_ble_eq_true rfl) ?_
      refine R_icmp_ge hC1 dW_isCarried_56 (tgt := 85) (by decide) (fun hj => ?_) (fun hj => ?_)
      · skip
        have ew : w = worksN g0 := by omega
        rw [ew] at hB
        refine R_aload_0 hC1 dW_isCarried_85 ?_
        refine R_aload_1 hC1 dW_isCarried_86 ?_
        refine D_sf (as := [vR 1030, vR 0]) hC1 e1 hRm dW_isCarried_87 momW_print mlW_131 (fun N => c14_print ka1 ds.wi ds.sp hL hW) rfl rfl (by decide) (by decide) (Nat.le_refl _) (Nat.le_refl _) (Nat.le_of_ble_eq_true rfl) (fun o M6 hq6 => ?_)
        obtain ⟨v6, rfl, hw6, rfl⟩ := hq6
        have ds6 := ds.ask e1 hw6
        generalize mg M1 M6 = Mx6 at ds6 ⊢
        refine R_istore_6 hC1 dW_isCarried_90 rfl ?_
        refine R_aload_1 hC1 dW_isCarried_92 ?_
        refine D_vf (as := []) hC1 e1 hRm dW_isCarried_93 mo_11_carry mlW_102 (by decide) rfl rfl (fun N => a_carry ds6.1 ⟨by omega, by omega⟩ ⟨by omega, by omega⟩) rfl rfl (by decide) (by decide) (Nat.le_refl _) (Nat.le_refl _) (Nat.le_of_ble_eq_true rfl) (fun o M7 hq7 => ?_)
        obtain ⟨v7, rfl, hR7, ⟨-, rfl, hc7⟩ | ⟨hp7, -⟩⟩ := hq7
        rotate_left
        · exact absurd hb5 hp7
        have dc := ds6.to e1 hc7 hR7
        generalize mg Mx6 M7 = Mc at dc ⊢
        have hL2 : upd1 (coP d) 119 (d 119 + plC (insOf d)) 121 = libsN g0 := dc.pq.2.1
        have hW2 : upd1 (coP d) 119 (d 119 + plC (insOf d)) 122 = worksN g0 := dc.pq.2.2.1
        refine R_iload_2 hC1 dW_isCarried_96 ?_
        refine R_icmp_ne hC1 dW_isCarried_97 (tgt := 123) (by decide) (fun hb => absurd rfl hb) (fun _ => ?_)
        refine R_aload_1 hC1 dW_isCarried_100 ?_
        refine R_iconst hC1 dW_isCarried_101 ⟨by decide, by decide⟩ ?_
        refine D_vf (as := [vI 3]) hC1 e1 hRm dW_isCarried_102 mo_11_count mlW_111 (by decide) rfl rfl (fun N => k_count_3 dc.wi dc.sp ) rfl rfl (by decide) (by decide) (Nat.le_refl _) (Nat.le_refl _) (Nat.le_of_ble_eq_true rfl) (fun o M8 hq8 => ?_)
        obtain ⟨v8, rfl, hw8, rfl⟩ := hq8
        have ds8 := dc.ask e1 hw8
        generalize mg Mc M8 = Mx8 at ds8 ⊢
        rw [co_held (v := d 119 + plC (insOf d)) hdS hb5 (by omega)]
        refine R_iload_3 hC1 dW_isCarried_105 ?_
        refine R_iload_2 hC1 dW_isCarried_106 ?_
        refine R_isub hC1 dW_isCarried_107 ⟨by omega, by omega⟩ ?_
        refine R_icmp_ne hC1 dW_isCarried_108 (tgt := 123) (by decide) (fun hb => absurd rfl hb) (fun _ => ?_)
        refine R_aload_1 hC1 dW_isCarried_111 ?_
        refine R_iconst hC1 dW_isCarried_112 ⟨by decide, by decide⟩ ?_
        refine D_vf (as := [vI 4]) hC1 e1 hRm dW_isCarried_113 mo_11_count mlW_111 (by decide) rfl rfl (fun N => k_count_4 ds8.wi ds8.sp ) rfl rfl (by decide) (by decide) (Nat.le_refl _) (Nat.le_refl _) (Nat.le_of_ble_eq_true rfl) (fun o M9 hq9 => ?_)
        obtain ⟨v9, rfl, hw9, rfl⟩ := hq9
        have ds9 := ds8.ask e1 hw9
        generalize mg Mx8 M9 = Mx9 at ds9 ⊢
        rw [co_119]
        refine R_iload_4 hC1 dW_isCarried_116 ?_
        refine R_iload_2 hC1 dW_isCarried_118 ?_
        refine R_iadd hC1 dW_isCarried_119 ⟨by omega, by omega⟩ ?_
        refine R_icmp_eq hC1 dW_isCarried_120 (tgt := 125) (by decide) (fun _ => ?_) (fun hb => absurd rfl hb)
        refine R_iconst hC1 dW_isCarried_125 ⟨by decide, by decide⟩ ?_
        refine R_istore_7 hC1 dW_isCarried_126 rfl ?_
        have L2 : ∀ (mq : Nat) (x : Int) (M2 : Mem), 0 ≤ x → x ≤ libsN g0 → DS (libsN g0) (worksN g0) d0 (push S n (20, 3)) (n + 1) B M2 (upd1 (coP d) 119 (d 119 + plC (insOf d))) (k + 1) (sn k s d) r → (libsN g0 - x).toNat < mq → RZ (g1, q) (push S n (20, 3)) C (ZD g q S n C (fun o S' n' M' => n' ≤ n + 1 ∧ o = some (vI 1) ∧ (∀ h, 57 ≤ h → h < n → M' h = M h) ∧ ∃ r', (r ≤ r' ∧ r' ≤ r + 1) ∧ CI (libsN g0) (worksN g0) d0 M' d k s r') 1 3) 1 3 (n + 1) 128 [some (vR 1030), some (vR 0), some (vI (plC (insOf d))), some (vI (heldAll d)), some (vI (d 119)), some (vR n), some (vI (prF d (libsN g0).toNat (worksN g0).toNat)), some (vI x)] [] M2 := by
          intro mq
          induction mq with
          | zero =>
            intro x M2 x0 x1 ds hm
            exact absurd hm (Nat.not_lt_zero _)
          | succ mq ih =>
            intro x M2 x0 x1 ds hm
            refine R_iload_7 hC1 dW_isCarried_128 ?_
            refine R_aload_0 hC1 dW_isCarried_130 ?_
            refine D_sq (as := [vR 1030]) hC1 hRm dW_isCarried_131 momW_libraries mlW_40 (l_libs (G := (g1, q)) ka1) rfl rfl (by decide) (by decide) (Nat.le_refl _) (Nat.le_refl _) (Nat.le_of_ble_eq_true rfl) ?_
            refine R_icmp_ge hC1 dW_isCarried_134 (tgt := 155) (by decide) (fun hj => ?_) (fun hj => ?_)
            · skip
              refine R_iconst hC1 dW_isCarried_155 ⟨by decide, by decide⟩ ?_
              refine R_istore_7 hC1 dW_isCarried_156 rfl ?_
              have L3 : ∀ (mq : Nat) (x : Int) (M3 : Mem), 0 ≤ x → x ≤ worksN g0 → DS (libsN g0) (worksN g0) d0 (push S n (20, 3)) (n + 1) B M3 (upd1 (coP d) 119 (d 119 + plC (insOf d))) (k + 1) (sn k s d) r → (worksN g0 - x).toNat < mq → RZ (g1, q) (push S n (20, 3)) C (ZD g q S n C (fun o S' n' M' => n' ≤ n + 1 ∧ o = some (vI 1) ∧ (∀ h, 57 ≤ h → h < n → M' h = M h) ∧ ∃ r', (r ≤ r' ∧ r' ≤ r + 1) ∧ CI (libsN g0) (worksN g0) d0 M' d k s r') 1 3) 1 3 (n + 1) 158 [some (vR 1030), some (vR 0), some (vI (plC (insOf d))), some (vI (heldAll d)), some (vI (d 119)), some (vR n), some (vI (prF d (libsN g0).toNat (worksN g0).toNat)), some (vI x)] [] M3 := by
                intro mq
                induction mq with
                | zero =>
                  intro x M3 x0 x1 ds hm
                  exact absurd hm (Nat.not_lt_zero _)
                | succ mq ih =>
                  intro x M3 x0 x1 ds hm
                  refine R_iload_7 hC1 dW_isCarried_158 ?_
                  refine R_aload_0 hC1 dW_isCarried_160 ?_
                  refine D_sq (as := [vR 1030]) hC1 hRm dW_isCarried_161 momW_works mlW_66 (l_works (G := (g1, q)) ka1) rfl rfl (by decide) (by decide) (Nat.le_refl _) (Nat.le_refl _) (Nat.le_of_ble_eq_true rfl) ?_
                  refine R_icmp_ge hC1 dW_isCarried_164 (tgt := 190) (by decide) (fun hj => ?_) (fun hj => ?_)
                  · skip
                    refine R_aload_1 hC1 dW_isCarried_190 ?_
                    refine D_vf (as := []) hC1 e1 hRm dW_isCarried_191 mo_11_undo mlW_135 (by decide) rfl rfl (fun N => und_k ds.1 ⟨by omega, by omega⟩) rfl rfl (by decide) (by decide) (Nat.le_refl _) (Nat.le_refl _) (Nat.le_of_ble_eq_true rfl) (fun o M10 hq10 => ?_)
                    obtain ⟨v10, rfl, hR10, rfl, hc10⟩ := hq10
                    rw [show k + 1 - 1 = k by omega, show sn k s d k = d from if_pos rfl] at hc10
                    have du := ds.to e1 (hc10.sc (s' := s) (fun i i0 i1 => (if_neg (by omega)).symm) hk.1) hR10
                    generalize mg M3 M10 = Mu at du ⊢
                    refine R_if_lt hC1 dW_isCarried_194 (tgt := 211) (by decide) (fun hb => absurd hb (by omega)) (fun _ => ?_)
                    refine R_aload_0 hC1 dW_isCarried_197 ?_
                    refine R_aload_1 hC1 dW_isCarried_198 ?_
                    refine D_sf (as := [vR 1030, vR 0]) hC1 e1 hRm dW_isCarried_199 momW_print mlW_131 (fun N => c14_print ka1 du.wi du.sp hL hW) rfl rfl (by decide) (by decide) (Nat.le_refl _) (Nat.le_refl _) (Nat.le_of_ble_eq_true rfl) (fun o M11 hq11 => ?_)
                    obtain ⟨v11, rfl, hw11, rfl⟩ := hq11
                    have ds11 := du.ask e1 hw11
                    generalize mg Mu M11 = Mx11 at ds11 ⊢
                    refine R_iload_6 hC1 dW_isCarried_202 ?_
                    refine R_icmp_ne hC1 dW_isCarried_204 (tgt := 211) (by decide) (fun hb => absurd rfl hb) (fun _ => ?_)
                    refine R_iconst hC1 dW_isCarried_207 ⟨by decide, by decide⟩ ?_
                    refine R_goto hC1 dW_isCarried_208 (tgt := 212) (by decide) ?_
                    exact R_zretD hC1 dW_isCarried_212 rfl (.inr rfl) (by decide) (by decide) ga1 (Nat.le_succ n) e1 (fun h hh => push_o (by omega)) ds11.2.1 ⟨Nat.le_refl _, rfl, fun h a b => (ds11.2.2 h a).trans (hM h a b), r, ⟨by omega, by omega⟩, ds11.1⟩
                  refine R_aload_1 hC1 dW_isCarried_167 ?_
                  refine R_iload_7 hC1 dW_isCarried_168 ?_
                  refine R_iconst hC1 dW_isCarried_170 ⟨by decide, by decide⟩ ?_
                  refine D_vf (as := [vI _, vI 3]) hC1 e1 hRm dW_isCarried_171 mo_11_work mlW_120 (by decide) rfl rfl (fun N => k_work_3 ds.wi ds.sp x0 (by rw [hW2]; exact hj)) rfl rfl (by decide) (by decide) (Nat.le_refl _) (Nat.le_refl _) (Nat.le_of_ble_eq_true rfl) (fun o M12 hq12 => ?_)
                  obtain ⟨v12, rfl, hw12, rfl⟩ := hq12
                  have ds12 := ds.ask e1 hw12
                  generalize mg M3 M12 = Mx12 at ds12 ⊢
                  refine R_aload_5 hC1 dW_isCarried_174 ?_
                  refine R_iload_7 hC1 dW_isCarried_176 ?_
                  refine R_iaload hC1 dW_isCarried_178 (Nat.lt_succ_self n) push_s x0 (by omega) ?_
                  rw [ds12.2.2 n (by omega), hB x x0 hj, ← co_spr (v := d 119 + plC (insOf d)) hdS hb5 x0 (by rw [hW]; exact hj)]
                  refine R_icmp_eq hC1 dW_isCarried_179 (tgt := 184) (by decide) (fun _ => ?_) (fun hb => absurd rfl hb)
                  refine R_iinc_7 hC1 dW_isCarried_184 rfl ⟨by omega, by omega⟩ ?_
                  refine R_goto hC1 dW_isCarried_187 (tgt := 158) (by decide) ?_
                  exact ih (x + 1) _ (by omega) (by omega) ds12 (by omega)
              exact L3 _ 0 _ (by decide) (by omega) ds (Nat.lt_succ_self _)
            refine R_aload_1 hC1 dW_isCarried_137 ?_
            refine R_iload_7 hC1 dW_isCarried_138 ?_
            refine R_iconst hC1 dW_isCarried_140 ⟨by decide, by decide⟩ ?_
            refine D_vf (as := [vI _, vI 3]) hC1 e1 hRm dW_isCarried_141 mo_11_library mlW_123 (by decide) rfl rfl (fun N => k_library_3 ds.wi ds.sp x0 (by rw [hL2]; exact hj)) rfl rfl (by decide) (by decide) (Nat.le_refl _) (Nat.le_refl _) (Nat.le_of_ble_eq_true rfl) (fun o M13 hq13 => ?_)
            obtain ⟨v13, rfl, hw13, rfl⟩ := hq13
            have ds13 := ds.ask e1 hw13
            generalize mg M2 M13 = Mx13 at ds13 ⊢
            rw [co_nee (v := d 119 + plC (insOf d)) hdS hb5 x0 (by rw [hL]; exact hj)]
            refine R_if_eq hC1 dW_isCarried_144 (tgt := 149) (by decide) (fun _ => ?_) (fun hb => absurd rfl hb)
            refine R_iinc_7 hC1 dW_isCarried_149 rfl ⟨by omega, by omega⟩ ?_
            refine R_goto hC1 dW_isCarried_152 (tgt := 128) (by decide) ?_
            exact ih (x + 1) _ (by omega) (by omega) ds13 (by omega)
        exact L2 _ 0 _ (by decide) (by omega) ds9 (Nat.lt_succ_self _)
      have hsv := hdS.sr w0 (show w < 6 by omega)
      have hcv := (plan_fx hdS hb5 hL hW).2.2.1 w w0 hj
      have hcn := col_nn hdS hb5 w0 (n := (libsN g0).toNat)
      refine R_aload_5 hC1 dW_isCarried_59 ?_
      refine R_iload_6 hC1 dW_isCarried_61 ?_
      refine R_aload_1 hC1 dW_isCarried_63 ?_
      refine R_iload_6 hC1 dW_isCarried_64 ?_
      refine R_iconst hC1 dW_isCarried_66 ⟨by decide, by decide⟩ ?_
      refine D_vf (as := [vI _, vI 3]) hC1 e1 hRm dW_isCarried_67 mo_11_work mlW_120 (by decide) rfl rfl (fun N => k_work_3 ds.wi ds.sp w0 (by rw [hW]; exact hj)) rfl rfl (by decide) (by decide) (Nat.le_refl _) (Nat.le_refl _) (Nat.le_of_ble_eq_true rfl) (fun o M14 hq14 => ?_)
      obtain ⟨v14, rfl, hw14, rfl⟩ := hq14
      have ds14 := ds.ask e1 hw14
      generalize mg M1 M14 = Mx14 at ds14 ⊢
      refine R_aload_1 hC1 dW_isCarried_70 ?_
      refine R_iload_6 hC1 dW_isCarried_71 ?_
      refine R_iconst hC1 dW_isCarried_73 ⟨by decide, by decide⟩ ?_
      refine D_vf (as := [vI _, vI 5]) hC1 e1 hRm dW_isCarried_74 mo_11_work mlW_120 (by decide) rfl rfl (fun N => k_work_5 ds14.wi ds14.sp w0 (by rw [hW]; exact hj)) rfl rfl (by decide) (by decide) (Nat.le_refl _) (Nat.le_refl _) (Nat.le_of_ble_eq_true rfl) (fun o M15 hq15 => ?_)
      obtain ⟨v15, rfl, hw15, rfl⟩ := hq15
      have ds15 := ds14.ask e1 hw15
      generalize mg Mx14 M15 = Mx15 at ds15 ⊢
      refine R_isub hC1 dW_isCarried_77 ⟨by omega, by omega⟩ ?_
      refine R_iastore hC1 dW_isCarried_78 (Nat.lt_succ_self n) push_s w0 (by omega) ?_
      refine R_iinc_6 hC1 dW_isCarried_79 rfl ⟨by omega, by omega⟩ ?_
      refine R_goto hC1 dW_isCarried_82 (tgt := 50) (by decide) ?_
      refine ih (w + 1) _ _ (by omega) (by omega) (ds15.put (by omega) push_s) (fun h a b => (uM_ne (by omega)).trans (hM h a b)) (fun j j0 j1 => ?_) (by omega)
      by_cases q : j = w
      · subst q
        exact uM_same
      · rw [uM_k q]
        exact hB j j0 (by omega)
  exact L1 _ 0 _ _ (by decide) (by omega) dsn hMM (fun j j0 j1 => absurd j1 (by omega)) (Nat.lt_succ_self _)
