/-! the law -/
abbrev mL_law : Mt := (yL_law, cL_law, 7, some .boolean)
section ERULES
variable {C : Cx} {Z : State → Prop} {k w n : Nat} {pc : Nat} {ls : List (Option V)} {st : List V} {M : Mem} {y : Mt} {S : Sh}
theorem rm_1 {d : Nat} {z : Mt} (hrm : C.2.2.2.1 = room_1) (hdd : d ≤ 40) (hmx : z.2.2.1 ≤ 21) (hk : k ≤ 600000) (hw : w ≤ 7300000) : d + 1 ≤ C.2.2.2.1.frames ∧ 8 + (z.2.2.1 + 11) + (40 * d + 40) ≤ C.2.2.2.1.locals ∧ k ≤ C.2.2.2.1.cells ∧ w ≤ C.2.2.2.1.slots := by
  rw [hrm]
  exact ⟨by show d + 1 ≤ 2048; omega, by show 8 + (z.2.2.1 + 11) + (40 * d + 40) ≤ 84000; omega, by show k ≤ 600086; omega, by show w ≤ 7301442; omega⟩
theorem E_vf {G : Gl} {d na idx h ci nf : Nat} {z : Mt} {as : List V} {st0 : List V} {Q : Option V → Mem → Prop} (hC : CxOK G y C) (e : EX S n) (hRm : C.2.2.2.1 = room_1) (hd : decode y.2.1 pc = .ok (.invokevirtual idx, 3)) (hz : MO z na false) (hlk : Cond.methodLink y.1.cls idx z.1 ∈ Ts)
    (hh : h < 57) (hk : LY.1 h = (ci, nf)) (hci : (vwCl[ci]?).map (fun q => q.1) = some z.1.cls) (hct : ∀ N, Ct (GN G N) LY 57 C.2.1 d z (vR h :: as) M Q) (hst : st0 = as.reverse ++ vR h :: st) (hna : as.length = na)
    (hdd : d ≤ 40) (hmx : z.2.2.1 ≤ 21) (h1 : k ≤ 600000) (h2 : w ≤ 7300000) (hcat : (st.map vcat).sum ≤ 8)
    (kk : ∀ (r : Option V) (M' : Mem), Q r M' → RZ G S C Z k w n (pc + 3) ls (r.toList ++ st) (mg M M')) : RZ G S C Z k w n pc ls st0 M :=
  R_callVF hC e hd hz hlk hh hk hci hct hst hna (rm_1 hRm hdd hmx h1 h2) hcat kk
theorem E_sf {G : Gl} {d na idx : Nat} {z : Mt} {as : List V} {st0 : List V} {Q : Option V → Mem → Prop} (hC : CxOK G y C) (e : EX S n) (hRm : C.2.2.2.1 = room_1) (hd : decode y.2.1 pc = .ok (.invokestatic idx, 3)) (hz : MO z na true) (hlk : Cond.methodLink y.1.cls idx z.1 ∈ Ts)
    (hct : ∀ N, Ct (GN G N) LY 57 C.2.1 d z as M Q) (hst : st0 = as.reverse ++ st) (hna : as.length = na)
    (hdd : d ≤ 40) (hmx : z.2.2.1 ≤ 21) (h1 : k ≤ 600000) (h2 : w ≤ 7300000) (hcat : (st.map vcat).sum ≤ 8)
    (kk : ∀ (r : Option V) (M' : Mem), Q r M' → RZ G S C Z k w n (pc + 3) ls (r.toList ++ st) (mg M M')) : RZ G S C Z k w n pc ls st0 M :=
  R_callSF hC e hd hz hlk hct hst hna (rm_1 hRm hdd hmx h1 h2) hcat kk
theorem E_sq {G : Gl} {d na idx : Nat} {z : Mt} {as : List V} {st0 : List V} {v : V} (hC : CxOK G y C) (hRm : C.2.2.2.1 = room_1) (hd : decode y.2.1 pc = .ok (.invokestatic idx, 3)) (hz : MO z na true) (hlk : Cond.methodLink y.1.cls idx z.1 ∈ Ts)
    (hct : Ct G S n C.2.1 d z as M (Ret v M)) (hst : st0 = as.reverse ++ st) (hna : as.length = na) (hdd : d ≤ 40) (hmx : z.2.2.1 ≤ 21) (h1 : k ≤ 600000) (h2 : w ≤ 7300000) (hcat : (st.map vcat).sum ≤ 8)
    (kk : RZ G S C Z k w n (pc + 3) ls (v :: st) M) : RZ G S C Z k w n pc ls st0 M :=
  R_callS hC hd hz hlk hct hst hna (rm_1 hRm hdd hmx h1 h2) hcat (fun r M' h => by rw [h.1, h.2]; exact kk)
end ERULES
section LAWK
variable {L W : Int} {d0 : Int → Int} {M M' : Mem} {d : Int → Int} {k r : Int} {s : Int → Int → Int} {S : Sh} {n : Nat} {B : Nat → Int → Int}
theorem cnt_17 {G : Gl} {l : Launch} (h : CI L W d0 M d k s r) : Ct G LY 57 l 9 m11_count [vR 0, vI 17] M (RP (fun v M' => WI M d M' ∧ v = k)) := (c11_count (w := 17) ⟨by decide, by decide⟩ h.1.1 h.1.2.1 h.2.1.1.1 h.1.2.2).mono (fun o M' hq => by
  obtain ⟨v, rfl, -, hF, ⟨hG, hP⟩, hv⟩ := hq
  exact ⟨v, rfl, (WI.rf h.1.1 h.1.2.2 h.1.2.1).ak hF hG hP, ((hv.2.2.2.2.2.2.2.2.2.2.2.2.2.2.2.2.2.1) rfl).trans h.2.2.1.2.1⟩)
theorem cnt_21 {G : Gl} {l : Launch} (h1 : GR M) (h2 : M 4 = d) (h3 : SP d) (h4 : FP M d) (h5 : M 10 1 = r) : Ct G LY 57 l 9 m11_count [vR 0, vI 21] M (RP (fun v M' => WI M d M' ∧ v = r)) := (c11_count (w := 21) ⟨by decide, by decide⟩ h1 h2 h3 h4).mono (fun o M' hq => by
  obtain ⟨v, rfl, -, hF, ⟨hG, hP⟩, hv⟩ := hq
  exact ⟨v, rfl, (WI.rf h1 h4 h2).ak hF hG hP, ((hv.2.2.2.2.2.2.2.2.2.2.2.2.2.2.2.2.2.2.2.2.2.1) rfl).trans h5⟩)
theorem k_count_17 {G : Gl} {l : Launch} (h : DS L W d0 S n B M d k s r) : Ct G LY 57 l 9 m11_count [vR 0, vI 17] M (RP (fun v M' => WI M d M' ∧ v = k)) := cnt_17 h.1
theorem k_count_21 {G : Gl} {l : Launch} (h : DS L W d0 S n B M d k s r) : Ct G LY 57 l 9 m11_count [vR 0, vI 21] M (RP (fun v M' => WI M d M' ∧ v = r)) := cnt_21 h.1.1.1 h.1.1.2.1 h.1.2.1.1.1 h.1.1.2.2 h.1.2.2.2.2.1
theorem img_k {G : Gl} {l : Launch} (g1 : GR M) (g2 : M 4 = d) (g3 : PQ L W d) (g4 : FP M d) (g5 : M 5 3 = 0) (g6 : M 5 4 = 0) (g7 : M 10 1 = 0) (g9 : d 119 = 0) : Ct G LY 57 l 3 m11_image [vR 0] M (RV (fun M' => RR M M' ∧ CI L W d M' d 0 (fun _ => d) 0)) := (c11_image g1 g2 g3.1).mono (fun o M' hq => by
  obtain ⟨rfl, hF, hG, h05, h13, -, -, -, -, -, -, -, h19⟩ := hq
  have z := fr_k (Hs := [4, 10]) (Fs := [(5, 3), (5, 4)]) hF (by decide +kernel)
  refine ⟨rfl, RR.fr hF (by decide +kernel), ⟨hG, (z.1 4 (by decide)).trans g2, g4.fr hF (by decide +kernel)⟩, ⟨g3, by omega⟩, ⟨(z.2 (5, 3) (by decide)).trans g5, (z.2 (5, 4) (by decide)).trans g6, fun i i0 i1 => absurd i1 (by omega)⟩, fun i i0 i1 => absurd i1 (by omega), (congrFun (z.1 10 (by decide)) 1).trans g7, ⟨h13, h05, (h19 1 (by decide) (by decide)).trans g7⟩, if_pos rfl⟩)
theorem res_k {G : Gl} {l : Launch} (h : CI L W d0 M d k s r) : Ct G LY 57 l 3 m11_restore [vR 0] M (RP (fun v M' => v = 1 ∧ RR M M' ∧ GR M' ∧ M' 4 = d0 ∧ FP M' d0 ∧ M' 10 1 = 0)) := (c11_restore h.1.1 h.2.2.2.2.2.1.1).mono (fun o M' hq => by
  obtain ⟨v, rfl, ⟨z, -⟩ | ⟨-, ⟨hF, hG, h010, h4, -, -, -, -, -, -, -, h10⟩, rfl⟩⟩ := hq
  · rw [h.2.2.2.2.2.1.2.1] at z
    exact absurd z (by decide)
  · exact ⟨_, rfl, rfl, RR.fr hF (by decide +kernel), hG, h4, fun y => absurd h010 y, (h10 1 (by decide) (by decide)).trans h.2.2.2.2.2.1.2.2⟩)
end LAWK
section R22
variable {r : Int → Int} {n : Int}
theorem cl_22 {X : RX} (h : QS X.1) (h0 : ∀ w, 0 ≤ w → w < 6 → X.1 (22 + w) = 0) : ∀ w, 0 ≤ w → w < 6 → (clR r n X).1 (22 + w) = 0 := by
  obtain ⟨d, s, S⟩ := X
  have h' : QS d := h
  have hL := h'.1.1.1
  have hW := h'.1.1.2
  have h0' : ∀ w, 0 ≤ w → w < 6 → d (22 + w) = 0 := h0
  intro w w0 w1
  by_cases c0 : wdP r n S 0
  · rw [clc_0 c0]
    show (lbR r n d S).1 (22 + w) = 0
    unfold lbR
    by_cases q : d 121 < 5
    · rw [if_pos q]
      show upd1 (upd1 (upd1 d _ _) _ _) 121 _ (22 + w) = 0
      rw [upd1_o (by omega), upd1_o (by omega), upd1_o (by omega)]
      exact h0' w w0 w1
    · rw [if_neg q]
      exact h0' w w0 w1
  by_cases c1 : wdP r n S 1
  · rw [clc_1 c0 c1]
    show (wkR r n d S).1 (22 + w) = 0
    unfold wkR
    by_cases q : d 122 < 6
    · rw [if_pos q]
      show upd1 (upd1 (upd1 d _ _) _ _) 122 _ (22 + w) = 0
      rw [upd1_o (by omega), upd1_o (by omega), upd1_o (by omega)]
      exact h0' w w0 w1
    · rw [if_neg q]
      exact h0' w w0 w1
  have bL := hdL_b (r := r) (n := n) (d := d) (S := S)
  by_cases c2 : wdP r n S 2
  · rw [clc_2 c0 c1 c2]
    have bW := hdW_b (r := r) (n := n) (d := d) (b := 28) (S := S)
    show (if (sgR r n (hdC r n d S).2).2.2.2.1 = 0 then _ else d) (22 + w) = 0
    split
    · rw [upd1_o (by omega)]
      exact h0' w w0 w1
    · exact h0' w w0 w1
  by_cases c3 : wdP r n S 3
  · rw [clc_3 c0 c1 c2 c3]
    have bW := hdW_b (r := r) (n := n) (d := d) (b := 58) (S := S)
    show (if (sgR r n (pmY r n d S).2).2.2.2.1 = 0 then _ else d) (22 + w) = 0
    split
    · rw [upd1_o (by omega), upd1_o (by omega)]
      exact h0' w w0 w1
    · exact h0' w w0 w1
  by_cases c4 : wdP r n S 4
  · rw [clc_4 c0 c1 c2 c3 c4]
    show (if s = 0 then upd1 d 120 _ else d) (22 + w) = 0
    split
    · rw [upd1_o (by omega)]
      exact h0' w w0 w1
    · exact h0' w w0 w1
  rw [clc_5 c0 c1 c2 c3 c4]
  exact h0' w w0 w1
theorem rdI_22 : ∀ k : Nat, ∀ w, 0 ≤ w → w < 6 → (rdI r n k).1 (22 + w) = 0
  | 0 => fun _ _ _ => rfl
  | k + 1 => cl_22 (rdI_SP k) (rdI_22 k)
end R22
theorem fm_ref : ∀ q ∈ refL, (q.1 < 57 ∧ (13 ≤ (LY.1 q.1).1 ∨ (0 ≤ q.2.1 ∧ q.2.1 < (LY.1 q.1).2))) ∧ FM q.1 q.2.1 = q.2.2 := by decide +kernel
theorem fm_GR {M : Mem} (hF : ∀ (h : Nat) (j : Int), h < 57 → inR h j → M h j = FM h j) : GR M ∧ (∀ j, M 4 j = 0) ∧ M 0 10 = 0 ∧ M 0 1 = 0 ∧ M 10 0 = 0 ∧ M 10 1 = 0 := by
  have ar : ∀ (h : Nat) (j : Int), h < 57 → 13 ≤ (LY.1 h).1 → (fmT.all (fun p => !(p.1 == h))) = true → M h j = 0 := fun h j h1 h2 h3 => (hF h j h1 (.inl h2)).trans (fm_0 h3 j)
  have ob : ∀ (h : Nat) (j v : Int), (h < 57 ∧ (0 ≤ j ∧ j < (LY.1 h).2)) ∧ FM h j = v → M h j = v := fun h j v e => (hF h j e.1.1 (.inr e.1.2)).trans e.2
  refine ⟨⟨fun q hq => ?_, fun c hc k _ => ?_⟩, fun j => ar 4 j (by decide) (by decide +kernel) (by decide +kernel), ob 0 10 0 (by decide +kernel), ob 0 1 0 (by decide +kernel), ar 10 0 (by decide) (by decide +kernel) (by decide +kernel), ar 10 1 (by decide) (by decide +kernel) (by decide +kernel)⟩
  · have e := fm_ref q hq
    exact (hF _ _ e.1.1 e.1.2).trans e.2
  · have z : ∀ c ∈ stC, (c < 57 ∧ 13 ≤ (LY.1 c).1) ∧ (fmT.all (fun p => !(p.1 == c))) = true := by decide +kernel
    have e := z c hc
    exact ar c k e.1.1 e.1.2 e.2
theorem EX.ly : EX LY 57 := ⟨Nat.le_refl _, fun _ _ => rfl, rfl, fun h hh => by
  rw [LY_hi hh]
  decide⟩

theorem dW_law_148 : decode cL_law 148 = .ok (.iload_n 3, 1) := by decide +kernel
theorem dW_law_149 : decode cL_law 149 = .ok (.ifCond .le 27, 3) := by decide +kernel
theorem dW_law_176 : decode cL_law 176 = .ok (.aload_n 1, 1) := by decide +kernel
theorem dW_law_177 : decode cL_law 177 = .ok (.invokevirtual 135, 3) := by decide +kernel
theorem dW_law_180 : decode cL_law 180 = .ok (.iconst (-1), 1) := by decide +kernel
theorem dW_law_181 : decode cL_law 181 = .ok (.if_icmp .ne 43, 3) := by decide +kernel
theorem dW_law_184 : decode cL_law 184 = .ok (.aload_n 0, 1) := by decide +kernel
theorem dW_law_185 : decode cL_law 185 = .ok (.aload_n 1, 1) := by decide +kernel
theorem dW_law_186 : decode cL_law 186 = .ok (.invokestatic 131, 3) := by decide +kernel
theorem dW_law_189 : decode cL_law 189 = .ok (.iload 4, 2) := by decide +kernel
theorem dW_law_191 : decode cL_law 191 = .ok (.if_icmp .ne 33, 3) := by decide +kernel
theorem dW_law_194 : decode cL_law 194 = .ok (.aload_n 1, 1) := by decide +kernel
theorem dW_law_195 : decode cL_law 195 = .ok (.invokevirtual 163, 3) := by decide +kernel
theorem mlW_163 : Cond.methodLink RL 163 m11_restore.1 ∈ Ts := Ts_in (in_t4 _ (List.mem_of_getElem? (i := 93) rfl)) rfl
theorem dW_law_198 : decode cL_law 198 = .ok (.ifCond .eq 26, 3) := by decide +kernel
theorem dW_law_201 : decode cL_law 201 = .ok (.aload_n 0, 1) := by decide +kernel
theorem dW_law_202 : decode cL_law 202 = .ok (.aload_n 1, 1) := by decide +kernel
theorem dW_law_203 : decode cL_law 203 = .ok (.invokestatic 131, 3) := by decide +kernel
theorem dW_law_206 : decode cL_law 206 = .ok (.iload 4, 2) := by decide +kernel
theorem dW_law_208 : decode cL_law 208 = .ok (.if_icmp .ne 16, 3) := by decide +kernel
theorem dW_law_211 : decode cL_law 211 = .ok (.aload_n 1, 1) := by decide +kernel
theorem dW_law_212 : decode cL_law 212 = .ok (.bipush 21, 2) := by decide +kernel
theorem dW_law_214 : decode cL_law 214 = .ok (.invokevirtual 111, 3) := by decide +kernel
theorem dW_law_217 : decode cL_law 217 = .ok (.ifCond .ne 7, 3) := by decide +kernel
theorem dW_law_220 : decode cL_law 220 = .ok (.iconst 1, 1) := by decide +kernel
theorem dW_law_221 : decode cL_law 221 = .ok (.goto 4, 3) := by decide +kernel
theorem dW_law_152 : decode cL_law 152 = .ok (.iinc 3 (-1), 3) := by decide +kernel
theorem dW_law_155 : decode cL_law 155 = .ok (.aload_n 1, 1) := by decide +kernel
theorem dW_law_156 : decode cL_law 156 = .ok (.invokevirtual 135, 3) := by decide +kernel
theorem dW_law_159 : decode cL_law 159 = .ok (.iload_n 3, 1) := by decide +kernel
theorem dW_law_160 : decode cL_law 160 = .ok (.if_icmp .ne 14, 3) := by decide +kernel
theorem dW_law_163 : decode cL_law 163 = .ok (.aload_n 0, 1) := by decide +kernel
theorem dW_law_164 : decode cL_law 164 = .ok (.aload_n 1, 1) := by decide +kernel
theorem dW_law_165 : decode cL_law 165 = .ok (.invokestatic 131, 3) := by decide +kernel
theorem dW_law_168 : decode cL_law 168 = .ok (.aload_n 2, 1) := by decide +kernel
theorem dW_law_169 : decode cL_law 169 = .ok (.iload_n 3, 1) := by decide +kernel
theorem dW_law_170 : decode cL_law 170 = .ok (.iaload, 1) := by decide +kernel
theorem dW_law_171 : decode cL_law 171 = .ok (.if_icmp .eq (-23), 3) := by decide +kernel
theorem dW_law_42 : decode cL_law 42 = .ok (.iload 5, 2) := by decide +kernel
theorem dW_law_44 : decode cL_law 44 = .ok (.bipush 12, 2) := by decide +kernel
theorem dW_law_46 : decode cL_law 46 = .ok (.if_icmp .ge 102, 3) := by decide +kernel
theorem dW_law_49 : decode cL_law 49 = .ok (.aload_n 0, 1) := by decide +kernel
theorem dW_law_50 : decode cL_law 50 = .ok (.aload_n 1, 1) := by decide +kernel
theorem dW_law_51 : decode cL_law 51 = .ok (.invokestatic 149, 3) := by decide +kernel
theorem momW_isCounted : MO mW_isCounted 2 true := ⟨Ts_in (in_t6 _ (List.mem_of_getElem? (i := 217) rfl)) rfl, Ts_in (in_t1 _ (List.mem_of_getElem? (i := 0) rfl)) rfl, ⟨by decide +kernel, by decide +kernel, by decide +kernel⟩, Ts_in (in_t6 _ (List.mem_of_getElem? (i := 216) rfl)) rfl⟩
theorem mlW_149 : Cond.methodLink RL 149 mW_isCounted.1 ∈ Ts := Ts_in (in_t6 _ (List.mem_of_getElem? (i := 215) rfl)) rfl
theorem dW_law_54 : decode cL_law 54 = .ok (.ifCond .eq 19, 3) := by decide +kernel
theorem dW_law_57 : decode cL_law 57 = .ok (.aload_n 0, 1) := by decide +kernel
theorem dW_law_58 : decode cL_law 58 = .ok (.aload_n 1, 1) := by decide +kernel
theorem dW_law_59 : decode cL_law 59 = .ok (.invokestatic 153, 3) := by decide +kernel
theorem momW_isPlanned : MO mW_isPlanned 2 true := ⟨Ts_in (in_t6 _ (List.mem_of_getElem? (i := 116) rfl)) rfl, Ts_in (in_t1 _ (List.mem_of_getElem? (i := 0) rfl)) rfl, ⟨by decide +kernel, by decide +kernel, by decide +kernel⟩, Ts_in (in_t6 _ (List.mem_of_getElem? (i := 115) rfl)) rfl⟩
theorem mlW_153 : Cond.methodLink RL 153 mW_isPlanned.1 ∈ Ts := Ts_in (in_t6 _ (List.mem_of_getElem? (i := 114) rfl)) rfl
theorem dW_law_62 : decode cL_law 62 = .ok (.ifCond .eq 11, 3) := by decide +kernel
theorem dW_law_65 : decode cL_law 65 = .ok (.aload_n 0, 1) := by decide +kernel
theorem dW_law_66 : decode cL_law 66 = .ok (.aload_n 1, 1) := by decide +kernel
theorem dW_law_67 : decode cL_law 67 = .ok (.invokestatic 156, 3) := by decide +kernel
theorem momW_isCarried : MO mW_isCarried 2 true := ⟨Ts_in (in_t6 _ (List.mem_of_getElem? (i := 223) rfl)) rfl, Ts_in (in_t1 _ (List.mem_of_getElem? (i := 0) rfl)) rfl, ⟨by decide +kernel, by decide +kernel, by decide +kernel⟩, Ts_in (in_t6 _ (List.mem_of_getElem? (i := 222) rfl)) rfl⟩
theorem mlW_156 : Cond.methodLink RL 156 mW_isCarried.1 ∈ Ts := Ts_in (in_t6 _ (List.mem_of_getElem? (i := 221) rfl)) rfl
theorem dW_law_70 : decode cL_law 70 = .ok (.ifCond .ne 5, 3) := by decide +kernel
theorem dW_law_75 : decode cL_law 75 = .ok (.aload_n 1, 1) := by decide +kernel
theorem dW_law_76 : decode cL_law 76 = .ok (.bipush 21, 2) := by decide +kernel
theorem dW_law_78 : decode cL_law 78 = .ok (.invokevirtual 111, 3) := by decide +kernel
theorem dW_law_81 : decode cL_law 81 = .ok (.istore 6, 2) := by decide +kernel
theorem dW_law_83 : decode cL_law 83 = .ok (.aload_n 2, 1) := by decide +kernel
theorem dW_law_84 : decode cL_law 84 = .ok (.iload_n 3, 1) := by decide +kernel
theorem dW_law_85 : decode cL_law 85 = .ok (.aload_n 0, 1) := by decide +kernel
theorem dW_law_86 : decode cL_law 86 = .ok (.aload_n 1, 1) := by decide +kernel
theorem dW_law_87 : decode cL_law 87 = .ok (.invokestatic 131, 3) := by decide +kernel
theorem dW_law_90 : decode cL_law 90 = .ok (.iastore, 1) := by decide +kernel
theorem dW_law_91 : decode cL_law 91 = .ok (.aload_n 1, 1) := by decide +kernel
theorem dW_law_92 : decode cL_law 92 = .ok (.aload_n 0, 1) := by decide +kernel
theorem dW_law_93 : decode cL_law 93 = .ok (.aload_n 0, 1) := by decide +kernel
theorem dW_law_94 : decode cL_law 94 = .ok (.bipush 10, 2) := by decide +kernel
theorem dW_law_96 : decode cL_law 96 = .ok (.iload 5, 2) := by decide +kernel
theorem dW_law_98 : decode cL_law 98 = .ok (.iadd, 1) := by decide +kernel
theorem dW_law_99 : decode cL_law 99 = .ok (.invokestatic 28, 3) := by decide +kernel
theorem dW_law_102 : decode cL_law 102 = .ok (.invokestatic 159, 3) := by decide +kernel
theorem momW_act : MO mW_act 3 true := ⟨Ts_in (in_t6 _ (List.mem_of_getElem? (i := 27) rfl)) rfl, Ts_in (in_t1 _ (List.mem_of_getElem? (i := 0) rfl)) rfl, ⟨by decide +kernel, by decide +kernel, by decide +kernel⟩, Ts_in (in_t6 _ (List.mem_of_getElem? (i := 26) rfl)) rfl⟩
theorem mlW_159 : Cond.methodLink RL 159 mW_act.1 ∈ Ts := Ts_in (in_t6 _ (List.mem_of_getElem? (i := 25) rfl)) rfl
theorem dW_law_105 : decode cL_law 105 = .ok (.iconst (-1), 1) := by decide +kernel
theorem dW_law_106 : decode cL_law 106 = .ok (.if_icmp .eq 9, 3) := by decide +kernel
theorem dW_law_109 : decode cL_law 109 = .ok (.iinc 3 1, 3) := by decide +kernel
theorem dW_law_112 : decode cL_law 112 = .ok (.goto 18, 3) := by decide +kernel
theorem dW_law_130 : decode cL_law 130 = .ok (.aload_n 1, 1) := by decide +kernel
theorem dW_law_131 : decode cL_law 131 = .ok (.bipush 17, 2) := by decide +kernel
theorem dW_law_133 : decode cL_law 133 = .ok (.invokevirtual 111, 3) := by decide +kernel
theorem dW_law_136 : decode cL_law 136 = .ok (.iload_n 3, 1) := by decide +kernel
theorem dW_law_137 : decode cL_law 137 = .ok (.if_icmp .eq 5, 3) := by decide +kernel
theorem dW_law_142 : decode cL_law 142 = .ok (.iinc 5 1, 3) := by decide +kernel
theorem dW_law_145 : decode cL_law 145 = .ok (.goto (-103), 3) := by decide +kernel
theorem dW_law_115 : decode cL_law 115 = .ok (.aload_n 1, 1) := by decide +kernel
theorem dW_law_116 : decode cL_law 116 = .ok (.bipush 21, 2) := by decide +kernel
theorem dW_law_118 : decode cL_law 118 = .ok (.invokevirtual 111, 3) := by decide +kernel
theorem dW_law_121 : decode cL_law 121 = .ok (.iload 6, 2) := by decide +kernel
theorem dW_law_123 : decode cL_law 123 = .ok (.iconst 1, 1) := by decide +kernel
theorem dW_law_124 : decode cL_law 124 = .ok (.iadd, 1) := by decide +kernel
theorem dW_law_125 : decode cL_law 125 = .ok (.if_icmp .eq 5, 3) := by decide +kernel
theorem dW_law_0 : decode cL_law 0 = .ok (.new 19, 3) := by decide +kernel
theorem dW_law_3 : decode cL_law 3 = .ok (.dup, 1) := by decide +kernel
theorem dW_law_4 : decode cL_law 4 = .ok (.invokespecial 138, 3) := by decide +kernel
theorem mlW_138 : Cond.methodLink RL 138 m11_init.1 ∈ Ts := Ts_in (in_t1 _ (List.mem_of_getElem? (i := 32) rfl)) rfl
theorem dW_law_7 : decode cL_law 7 = .ok (.astore_n 1, 1) := by decide +kernel
theorem dW_law_8 : decode cL_law 8 = .ok (.aload_n 1, 1) := by decide +kernel
theorem dW_law_9 : decode cL_law 9 = .ok (.aload_n 0, 1) := by decide +kernel
theorem dW_law_10 : decode cL_law 10 = .ok (.invokestatic 139, 3) := by decide +kernel
theorem momW_text : MO mW_text 1 true := ⟨Ts_in (in_t5 _ (List.mem_of_getElem? (i := 33) rfl)) rfl, Ts_in (in_t1 _ (List.mem_of_getElem? (i := 0) rfl)) rfl, ⟨by decide +kernel, by decide +kernel, by decide +kernel⟩, Ts_in (in_t5 _ (List.mem_of_getElem? (i := 32) rfl)) rfl⟩
theorem mlW_139 : Cond.methodLink RL 139 mW_text.1 ∈ Ts := Ts_in (in_t5 _ (List.mem_of_getElem? (i := 31) rfl)) rfl
theorem dW_law_13 : decode cL_law 13 = .ok (.invokestatic 143, 3) := by decide +kernel
theorem momW_desk : MO mW_desk 2 true := ⟨Ts_in (in_t4 _ (List.mem_of_getElem? (i := 102) rfl)) rfl, Ts_in (in_t1 _ (List.mem_of_getElem? (i := 0) rfl)) rfl, ⟨by decide +kernel, by decide +kernel, by decide +kernel⟩, Ts_in (in_t4 _ (List.mem_of_getElem? (i := 101) rfl)) rfl⟩
theorem mlW_143 : Cond.methodLink RL 143 mW_desk.1 ∈ Ts := Ts_in (in_t4 _ (List.mem_of_getElem? (i := 100) rfl)) rfl
theorem dW_law_16 : decode cL_law 16 = .ok (.ifCond .eq 5, 3) := by decide +kernel
theorem dW_law_21 : decode cL_law 21 = .ok (.bipush 20, 2) := by decide +kernel
theorem dW_law_23 : decode cL_law 23 = .ok (.newarray .int, 2) := by decide +kernel
theorem dW_law_25 : decode cL_law 25 = .ok (.astore_n 2, 1) := by decide +kernel
theorem dW_law_26 : decode cL_law 26 = .ok (.iconst 0, 1) := by decide +kernel
theorem dW_law_27 : decode cL_law 27 = .ok (.istore_n 3, 1) := by decide +kernel
theorem dW_law_28 : decode cL_law 28 = .ok (.aload_n 1, 1) := by decide +kernel
theorem dW_law_29 : decode cL_law 29 = .ok (.invokevirtual 146, 3) := by decide +kernel
theorem mlW_146 : Cond.methodLink RL 146 m11_image.1 ∈ Ts := Ts_in (in_t4 _ (List.mem_of_getElem? (i := 78) rfl)) rfl
theorem dW_law_32 : decode cL_law 32 = .ok (.aload_n 0, 1) := by decide +kernel
theorem dW_law_33 : decode cL_law 33 = .ok (.aload_n 1, 1) := by decide +kernel
theorem dW_law_34 : decode cL_law 34 = .ok (.invokestatic 131, 3) := by decide +kernel
theorem dW_law_37 : decode cL_law 37 = .ok (.istore 4, 2) := by decide +kernel
theorem dW_law_39 : decode cL_law 39 = .ok (.iconst 0, 1) := by decide +kernel
theorem dW_law_40 : decode cL_law 40 = .ok (.istore 5, 2) := by decide +kernel
section LAWB
variable {g0 : Nat → Nat} {q : Gq} {C : Cx} {Z : State → Prop} {d0 : Int → Int}
theorem law_end {g : Nat → Nat} {S : Sh} {n k w : Nat} {a : Nat} {o5 o6 : Option V} (hC : CxOK (g, q) mL_law C) (hRm : C.2.2.2.1 = room_1) (hend : ∀ (g' : Nat → Nat) (S : Sh) (n k w : Nat) (ls : List (Option V)) (M : Mem), CxOK (g', q) mL_law C → k ≤ 600086 → w ≤ 7301442 → RZ (g', q) S C Z k w n 225 ls [vI 1] M) (ga : KA g0 g) (e : EX S n) (ha : 57 ≤ a ∧ a < n) (hak : S.1 a = (20, 20)) (hk : k ≤ 500000) (hw : w ≤ 7000000) (f : Int) (hf : f = prF d0 (libsN g0).toNat (worksN g0).toNat) :
    ∀ (mq : Nat) (c r : Int) (d : Int → Int) (s : Int → Int → Int) (M : Mem), 0 ≤ c → c ≤ 12 → 0 ≤ r → DS (libsN g0) (worksN g0) d0 S n M M d c s r → (∀ j, 0 ≤ j → j < c → M a j = prF (s j) (libsN g0).toNat (worksN g0).toNat) → c.toNat < mq → RZ (g, q) S C Z k w n 148 [some (vR 1030), some (vR 0), some (vR a), some (vI c), some (vI f), o5, o6] [] M := by
  intro mq
  induction mq with
  | zero =>
    intro c r d s M c0 c1 r0 ds hP hm
    exact absurd hm (Nat.not_lt_zero _)
  | succ mq ih =>
    intro c r d s M c0 c1 r0 ds hP hm
    have hL : d 121 = libsN g0 := ds.pq.2.1
    have hW : d 122 = worksN g0 := ds.pq.2.2.1
    refine R_iload_3 hC dW_law_148 ?_
    refine R_if_le hC dW_law_149 (tgt := 176) (by decide) (fun hj => ?_) (fun hj => ?_)
    · skip
      have ec : c = 0 := by omega
      subst ec
      have e0 : d = d0 := by
        have z := ds.1.2.2.2.2.2.2
        rw [if_pos rfl] at z
        exact z
      refine R_aload_1 hC dW_law_176 ?_
      refine E_vf (as := []) hC e hRm dW_law_177 mo_11_undo mlW_135 (by decide) rfl rfl (fun N => und_0 ds.1) rfl rfl (by decide) (by decide) (by omega) (by omega) (Nat.le_of_ble_eq_true rfl) (fun o M1 hq1 => ?_)
      obtain ⟨v1, rfl, rfl, hm1⟩ := hq1
      rw [hm1]
      have du : DS (libsN g0) (worksN g0) d0 S n M (mg M M) d 0 s r := ds.to e ds.1 (fun _ _ _ _ _ => rfl)
      generalize mg M M = M1 at du ⊢
      refine R_iconst hC dW_law_180 ⟨by decide, by decide⟩ ?_
      refine R_icmp_ne hC dW_law_181 (tgt := 224) (by decide) (fun hb => absurd rfl hb) (fun _ => ?_)
      refine R_aload_0 hC dW_law_184 ?_
      refine R_aload_1 hC dW_law_185 ?_
      refine E_sf (as := [vR 1030, vR 0]) hC e hRm dW_law_186 momW_print mlW_131 (fun N => c14_print ga du.wi du.sp hL hW) rfl rfl (by decide) (by decide) (by omega) (by omega) (Nat.le_of_ble_eq_true rfl) (fun o M2 hq2 => ?_)
      obtain ⟨v2, rfl, hw2, rfl⟩ := hq2
      have ds2 := du.ask e hw2
      generalize mg M1 M2 = Mx2 at ds2 ⊢
      refine R_iload_4 hC dW_law_189 ?_
      rw [e0, ← hf]
      refine R_icmp_ne hC dW_law_191 (tgt := 224) (by decide) (fun hb => absurd rfl hb) (fun _ => ?_)
      refine R_aload_1 hC dW_law_194 ?_
      refine E_vf (as := []) hC e hRm dW_law_195 mo_11_restore mlW_163 (by decide) rfl rfl (fun N => res_k ds2.1) rfl rfl (by decide) (by decide) (by omega) (by omega) (Nat.le_of_ble_eq_true rfl) (fun o M3 hq3 => ?_)
      obtain ⟨v3, rfl, rfl, hR3, r1, r2, r3, r4⟩ := hq3
      have rb2 := ds2.2.1.rr e hR3
      have s1 : GR (mg Mx2 M3) := r1.mg
      have s3 : FP (mg Mx2 M3) d0 := r3.mg
      have s2 : mg Mx2 M3 4 = d0 := (mg_lo (by decide)).trans r2
      have s4 : mg Mx2 M3 10 1 = 0 := (congrFun (mg_lo (by decide)) 1).trans r4
      generalize mg Mx2 M3 = M3 at rb2 s1 s2 s3 s4 ⊢
      refine R_if_eq hC dW_law_198 (tgt := 224) (by decide) (fun hb => absurd hb (by decide)) (fun _ => ?_)
      refine R_aload_0 hC dW_law_201 ?_
      refine R_aload_1 hC dW_law_202 ?_
      rw [e0] at hL hW
      have hS0 : SP d0 := by
        rw [← e0]
        exact ds.sp
      refine E_sf (as := [vR 1030, vR 0]) hC e hRm dW_law_203 momW_print mlW_131 (fun N => c14_print ga (WI.rf s1 s3 s2) hS0 hL hW) rfl rfl (by decide) (by decide) (by omega) (by omega) (Nat.le_of_ble_eq_true rfl) (fun o M4 hq4 => ?_)
      obtain ⟨v4, rfl, hw4, rfl⟩ := hq4
      have t4 : mg M3 M4 10 1 = 0 := (congrFun (mg_lo (by decide)) 1).trans ((hw4.1 10 1 (by decide) (by decide)).trans s4)
      have t1 : GR (mg M3 M4) := hw4.2.1.mg
      have t3 : FP (mg M3 M4) d0 := hw4.2.2.1.mg
      have t2 : mg M3 M4 4 = d0 := (mg_lo (by decide)).trans hw4.2.2.2
      generalize mg M3 M4 = M5 at t1 t2 t3 t4 ⊢
      refine R_iload_4 hC dW_law_206 ?_
      rw [← hf]
      refine R_icmp_ne hC dW_law_208 (tgt := 224) (by decide) (fun hb => absurd rfl hb) (fun _ => ?_)
      refine R_aload_1 hC dW_law_211 ?_
      refine R_bipush hC dW_law_212 (by decide +kernel) ⟨by decide, by decide⟩ ?_
      refine E_vf (as := [vI 21]) hC e hRm dW_law_214 mo_11_count mlW_111 (by decide) rfl rfl (fun N => cnt_21 t1 t2 hS0 t3 t4) rfl rfl (by decide) (by decide) (by omega) (by omega) (Nat.le_of_ble_eq_true rfl) (fun o M5 hq5 => ?_)
      obtain ⟨v5, rfl, -, rfl⟩ := hq5
      refine R_if_ne hC dW_law_217 (tgt := 224) (by decide) (fun hb => absurd rfl hb) (fun _ => ?_)
      refine R_iconst hC dW_law_220 ⟨by decide, by decide⟩ ?_
      refine R_goto hC dW_law_221 (tgt := 225) (by decide) ?_
      exact hend g S n k w _ _ hC (by omega) (by omega)
    have hcb : 0 < c ∧ c < 40 := ⟨hj, by omega⟩
    refine R_iinc_3 hC dW_law_152 rfl ⟨by omega, by omega⟩ ?_
    refine R_aload_1 hC dW_law_155 ?_
    refine E_vf (as := []) hC e hRm dW_law_156 mo_11_undo mlW_135 (by decide) rfl rfl (fun N => und_k ds.1 hcb) rfl rfl (by decide) (by decide) (by omega) (by omega) (Nat.le_of_ble_eq_true rfl) (fun o M6 hq6 => ?_)
    obtain ⟨v6, rfl, hR6, rfl, hc6⟩ := hq6
    have du : DS (libsN g0) (worksN g0) d0 S n M (mg M M6) (s (c - 1)) (c - 1) s r := ds.to e hc6 hR6
    generalize mg M M6 = M1 at du ⊢
    have hL2 : s (c - 1) 121 = libsN g0 := du.pq.2.1
    have hW2 : s (c - 1) 122 = worksN g0 := du.pq.2.2.1
    refine R_iload_3 hC dW_law_159 ?_
    refine R_icmp_ne hC dW_law_160 (tgt := 174) (by decide) (fun hb => absurd (by omega) hb) (fun _ => ?_)
    refine R_aload_0 hC dW_law_163 ?_
    refine R_aload_1 hC dW_law_164 ?_
    refine E_sf (as := [vR 1030, vR 0]) hC e hRm dW_law_165 momW_print mlW_131 (fun N => c14_print ga du.wi du.sp hL2 hW2) rfl rfl (by decide) (by decide) (by omega) (by omega) (Nat.le_of_ble_eq_true rfl) (fun o M7 hq7 => ?_)
    obtain ⟨v7, rfl, hw7, rfl⟩ := hq7
    have ds7 := du.ask e hw7
    generalize mg M1 M7 = Mx7 at ds7 ⊢
    refine R_aload_2 hC dW_law_168 ?_
    refine R_iload_3 hC dW_law_169 ?_
    rw [show c + (-1 : Int) = c - 1 by omega]
    refine R_iaload hC dW_law_170 ha.2 hak (by omega) (by omega) ?_
    rw [congrFun (ds7.2.2 a ha.1) (c - 1), hP (c - 1) (by omega) (by omega)]
    refine R_icmp_eq hC dW_law_171 (tgt := 148) (by decide) (fun _ => ?_) (fun hb => absurd rfl hb)
    exact ih (c - 1) r _ s Mx7 (by omega) (by omega) r0 ⟨ds7.1, ds7.2.1, fun _ _ => rfl⟩ (fun j j0 j1 => (congrFun (ds7.2.2 a ha.1) j).trans (hP j j0 (by omega))) (by omega)
theorem law_loop {a : Nat} {n1 k1 w1 : Nat} (hRm : C.2.2.2.1 = room_1) (hend : ∀ (g' : Nat → Nat) (S : Sh) (n k w : Nat) (ls : List (Option V)) (M : Mem), CxOK (g', q) mL_law C → k ≤ 600086 → w ≤ 7301442 → RZ (g', q) S C Z k w n 225 ls [vI 1] M) (f : Int) (hf : f = prF d0 (libsN g0).toNat (worksN g0).toNat) (hn1 : n1 ≤ 900) (hk1 : k1 ≤ 400000) (hw1 : w1 ≤ 6000000) :
    ∀ (mq : Nat) (z c r : Int) (d : Int → Int) (s : Int → Int → Int) (g : Nat → Nat) (S : Sh) (n k w : Nat) (M : Mem) (o6 : Option V), CxOK (g, q) mL_law C → KA g0 g → EX S n → (57 ≤ a ∧ a < n) → S.1 a = (20, 20) → (n : Int) ≤ n1 + z → (k : Int) ≤ k1 + z → (w : Int) ≤ w1 + 3 * z → (∀ v, o6 = some v → hOK n v) → noL o6 = true → 0 ≤ z → z ≤ 12 → 0 ≤ c → c ≤ z → 0 ≤ r → r ≤ 2 * z → DS (libsN g0) (worksN g0) d0 S n M M d c s r → (∀ j, 0 ≤ j → j < c → M a j = prF (s j) (libsN g0).toNat (worksN g0).toNat) → (12 - z).toNat < mq → RZ (g, q) S C Z k w n 42 [some (vR 1030), some (vR 0), some (vR a), some (vI c), some (vI f), some (vI z), o6] [] M := by
  intro mq
  induction mq with
  | zero =>
    intro z c r d s g S n k w M o6 hC ga e ha hak hn hk hw ho6 hno z0 z1 c0 c1 r0 r1 ds hP hm
    exact absurd hm (Nat.not_lt_zero _)
  | succ mq ih =>
    intro z c r d s g S n k w M o6 hC ga e ha hak hn hk hw ho6 hno z0 z1 c0 c1 r0 r1 ds hP hm
    have hL : d 121 = libsN g0 := ds.pq.2.1
    have hW : d 122 = worksN g0 := ds.pq.2.2.1
    refine R_iload_5 hC dW_law_42 ?_
    refine R_bipush hC dW_law_44 (by decide +kernel) ⟨by decide, by decide⟩ ?_
    refine R_icmp_ge hC dW_law_46 (tgt := 148) (by decide) (fun hj => ?_) (fun hj => ?_)
    · exact law_end hC hRm hend ga e ha hak (by omega) (by omega) f hf _ c r d s M c0 (by omega) r0 ds hP (Nat.lt_succ_self _)
    refine R_aload_0 hC dW_law_49 ?_
    refine R_aload_1 hC dW_law_50 ?_
    refine E_sf (as := [vR 1030, vR 0]) hC e hRm dW_law_51 momW_isCounted mlW_149 (fun N => c14_isCounted ga ds.wi ds.sp hL hW ds.pq.2.2.2) rfl rfl (by decide) (by decide) (by omega) (by omega) (Nat.le_of_ble_eq_true rfl) (fun o M8 hq8 => ?_)
    obtain ⟨v8, rfl, hw8, rfl⟩ := hq8
    have ds8 := ds.ask e hw8
    generalize mg M M8 = Mx8 at ds8 ⊢
    refine R_if_eq hC dW_law_54 (tgt := 73) (by decide) (fun hb => absurd hb (by decide)) (fun _ => ?_)
    refine R_aload_0 hC dW_law_57 ?_
    refine R_aload_1 hC dW_law_58 ?_
    refine E_sf (as := [vR 1030, vR 0]) hC e hRm dW_law_59 momW_isPlanned mlW_153 (fun N => c14_isPlanned ga ds8.wi ds8.sp hL hW) rfl rfl (by decide) (by decide) (by omega) (by omega) (Nat.le_of_ble_eq_true rfl) (fun o M9 hq9 => ?_)
    obtain ⟨v9, rfl, hw9, rfl⟩ := hq9
    have ds9 := ds8.ask e hw9
    generalize mg Mx8 M9 = Mx9 at ds9 ⊢
    refine R_if_eq hC dW_law_62 (tgt := 73) (by decide) (fun hb => absurd hb (by decide)) (fun _ => ?_)
    refine R_aload_0 hC dW_law_65 ?_
    refine R_aload_1 hC dW_law_66 ?_
    have hB1 : ∀ h, 57 ≤ h → Mx9 h = M h := ds9.2.2
    refine R_callSD (as := [vR 1030, vR 0]) hC dW_law_67 momW_isCarried mlW_156 (l_isCarried ga e (by omega) ds9.2.1 ds9.1 ⟨by omega, by omega⟩ ⟨by omega, by omega⟩) rfl rfl (rm_1 hRm (by decide) (by decide) (by omega) (by omega)) (Nat.le_of_ble_eq_true rfl) (hls_K (by decide) (hls_R (by omega) (hls_R ha.2 (hls_I (hls_I (hls_I (hls_c ho6 hls_0))))))) hst_0 (fun g2 S2 n2 oo M2 ga2 hn2 e2 hS2 hq rb2 _ => ?_)
    obtain ⟨hn3, rfl, hM2, r2, hr2, hc2⟩ := hq
    have hC2 := CxOK.ga ga2 hC
    have ka2 : KA g0 g2 := ga.tr ga2.ka
    have ha2 : 57 ≤ a ∧ a < n2 := ⟨ha.1, by omega⟩
    have hak2 : S2.1 a = (20, 20) := (hS2 a ha.2).trans hak
    have d2 : DS (libsN g0) (worksN g0) d0 S2 n2 M2 M2 d c s r2 := ⟨hc2, rb2, fun _ _ => rfl⟩
    have hP2 : ∀ j, 0 ≤ j → j < c → M2 a j = prF (s j) (libsN g0).toNat (worksN g0).toNat := fun j j0 j1 => (congrFun ((hM2 a ha.1 ha.2).trans (hB1 a ha.1)) j).trans (hP j j0 j1)
    have ho2 : ∀ v, o6 = some v → hOK n2 v := fun v hv => (ho6 v hv).up hn2
    refine R_if_ne hC2 dW_law_70 (tgt := 75) (by decide) (fun _ => ?_) (fun hb => absurd hb (by decide))
    refine R_aload_1 hC2 dW_law_75 ?_
    refine R_bipush hC2 dW_law_76 (by decide +kernel) ⟨by decide, by decide⟩ ?_
    refine E_vf (as := [vI 21]) hC2 e2 hRm dW_law_78 mo_11_count mlW_111 (by decide) rfl rfl (fun N => k_count_21 d2) rfl rfl (by decide) (by decide) (by omega) (by omega) (Nat.le_of_ble_eq_true rfl) (fun o M10 hq10 => ?_)
    obtain ⟨v10, rfl, hw10, hv10⟩ := hq10
    replace hv10 := hv10.symm
    subst hv10
    have ds10 := d2.ask e2 hw10
    generalize mg M2 M10 = Mx10 at ds10 ⊢
    refine R_istore_6 hC2 dW_law_81 rfl ?_
    refine R_aload_2 hC2 dW_law_83 ?_
    refine R_iload_3 hC2 dW_law_84 ?_
    refine R_aload_0 hC2 dW_law_85 ?_
    refine R_aload_1 hC2 dW_law_86 ?_
    refine E_sf (as := [vR 1030, vR 0]) hC2 e2 hRm dW_law_87 momW_print mlW_131 (fun N => c14_print ka2 ds10.wi ds10.sp hL hW) rfl rfl (by decide) (by decide) (by omega) (by omega) (Nat.le_of_ble_eq_true rfl) (fun o M11 hq11 => ?_)
    obtain ⟨v11, rfl, hw11, rfl⟩ := hq11
    have ds11 := ds10.ask e2 hw11
    generalize mg Mx10 M11 = Mx11 at ds11 ⊢
    refine R_iastore hC2 dW_law_90 ha2.2 hak2 c0 (by omega) ?_
    have dp := ds11.put (i := c) (v := prF d (libsN g0).toNat (worksN g0).toNat) ha2.1 hak2
    have hP3 : ∀ j, 0 ≤ j → j < c + 1 → uM Mx11 a c (prF d (libsN g0).toNat (worksN g0).toNat) a j = prF (sn c s d j) (libsN g0).toNat (worksN g0).toNat := fun j j0 j1 => by
      by_cases q : j = c
      · rw [q, uM_same]
        show _ = prF (if c = c then d else s c) _ _
        rw [if_pos rfl]
      · rw [uM_k q]
        show _ = prF (if j = c then d else s j) _ _
        rw [if_neg q]
        exact (congrFun (ds11.2.2 a ha2.1) j).trans (hP2 j j0 (by omega))
    generalize uM Mx11 a c (prF d (libsN g0).toNat (worksN g0).toNat) = M4 at dp hP3 ⊢
    have d4 : DS (libsN g0) (worksN g0) d0 S2 n2 M4 M4 d c s r2 := ⟨dp.1, dp.2.1, fun _ _ => rfl⟩
    refine R_aload_1 hC2 dW_law_91 ?_
    refine R_aload_0 hC2 dW_law_92 ?_
    refine R_aload_0 hC2 dW_law_93 ?_
    refine R_bipush hC2 dW_law_94 (by decide +kernel) ⟨by decide, by decide⟩ ?_
    refine R_iload_5 hC2 dW_law_96 ?_
    refine R_iadd hC2 dW_law_98 ⟨by omega, by omega⟩ ?_
    refine E_sq (as := [vR 1030, vI _]) hC2 hRm dW_law_99 momW_cell mlW_28 (l_cell (G := (g2, q)) ka2 (by omega)) rfl rfl (by decide) (by decide) (by omega) (by omega) (Nat.le_of_ble_eq_true rfl) ?_
    refine E_sf (as := [vR 0, vR 1030, vI _]) hC2 e2 hRm dW_law_102 momW_act mlW_159 (fun N => c14_act ka2 (scK_in _ _) d4.1 ⟨by omega, by omega⟩ ⟨by omega, by omega⟩) rfl rfl (by decide) (by decide) (by omega) (by omega) (Nat.le_of_ble_eq_true rfl) (fun o M12 hq12 => ?_)
    obtain ⟨v12, rfl, hR12, ⟨hv12, e12, hc12⟩ | ⟨rfl, hc12⟩⟩ := hq12
    · skip
      have da : DS (libsN g0) (worksN g0) d0 S2 n2 M4 (mg M4 M12) e12 (c + 1) (sn c s d) r2 := d4.to e2 hc12 hR12
      generalize mg M4 M12 = M6 at da ⊢
      refine R_iconst hC2 dW_law_105 ⟨by decide, by decide⟩ ?_
      refine R_icmp_eq hC2 dW_law_106 (tgt := 115) (by decide) (fun hb => absurd hb hv12) (fun _ => ?_)
      refine R_iinc_3 hC2 dW_law_109 rfl ⟨by omega, by omega⟩ ?_
      refine R_goto hC2 dW_law_112 (tgt := 130) (by decide) ?_
      refine R_aload_1 hC2 dW_law_130 ?_
      refine R_bipush hC2 dW_law_131 (by decide +kernel) ⟨by decide, by decide⟩ ?_
      refine E_vf (as := [vI 17]) hC2 e2 hRm dW_law_133 mo_11_count mlW_111 (by decide) rfl rfl (fun N => k_count_17 da) rfl rfl (by decide) (by decide) (by omega) (by omega) (Nat.le_of_ble_eq_true rfl) (fun o M13 hq13 => ?_)
      obtain ⟨v13, rfl, hw13, hv13⟩ := hq13
      replace hv13 := hv13.symm
      subst hv13
      have ds13 := da.ask e2 hw13
      generalize mg M6 M13 = Mx13 at ds13 ⊢
      refine R_iload_3 hC2 dW_law_136 ?_
      refine R_icmp_eq hC2 dW_law_137 (tgt := 142) (by decide) (fun _ => ?_) (fun hb => absurd rfl hb)
      refine R_iinc_5 hC2 dW_law_142 rfl ⟨by omega, by omega⟩ ?_
      refine R_goto hC2 dW_law_145 (tgt := 42) (by decide) ?_
      exact ih (z + 1) (c + 1) r2 e12 (sn c s d) g2 S2 n2 _ _ Mx13 _ hC2 ka2 e2 ha2 hak2 (by omega) (by omega) (by omega) (fun v hv => by cases hv; trivial) rfl (by omega) (by omega) (by omega) (by omega) (by omega) (by omega) ⟨ds13.1, ds13.2.1, fun _ _ => rfl⟩ (fun j j0 j1 => (congrFun (ds13.2.2 a ha2.1) j).trans (hP3 j j0 j1)) (by omega)
    · skip
      have da : DS (libsN g0) (worksN g0) d0 S2 n2 M4 (mg M4 M12) d c s (r2 + 1) := d4.to e2 hc12 hR12
      generalize mg M4 M12 = M6 at da ⊢
      refine R_iconst hC2 dW_law_105 ⟨by decide, by decide⟩ ?_
      refine R_icmp_eq hC2 dW_law_106 (tgt := 115) (by decide) (fun _ => ?_) (fun hb => absurd rfl hb)
      refine R_aload_1 hC2 dW_law_115 ?_
      refine R_bipush hC2 dW_law_116 (by decide +kernel) ⟨by decide, by decide⟩ ?_
      refine E_vf (as := [vI 21]) hC2 e2 hRm dW_law_118 mo_11_count mlW_111 (by decide) rfl rfl (fun N => k_count_21 da) rfl rfl (by decide) (by decide) (by omega) (by omega) (Nat.le_of_ble_eq_true rfl) (fun o M14 hq14 => ?_)
      obtain ⟨v14, rfl, hw14, hv14⟩ := hq14
      replace hv14 := hv14.symm
      subst hv14
      have ds14 := da.ask e2 hw14
      generalize mg M6 M14 = Mx14 at ds14 ⊢
      refine R_iload_6 hC2 dW_law_121 ?_
      refine R_iconst hC2 dW_law_123 ⟨by decide, by decide⟩ ?_
      refine R_iadd hC2 dW_law_124 ⟨by omega, by omega⟩ ?_
      refine R_icmp_eq hC2 dW_law_125 (tgt := 130) (by decide) (fun _ => ?_) (fun hb => absurd rfl hb)
      refine R_aload_1 hC2 dW_law_130 ?_
      refine R_bipush hC2 dW_law_131 (by decide +kernel) ⟨by decide, by decide⟩ ?_
      refine E_vf (as := [vI 17]) hC2 e2 hRm dW_law_133 mo_11_count mlW_111 (by decide) rfl rfl (fun N => k_count_17 ds14) rfl rfl (by decide) (by decide) (by omega) (by omega) (Nat.le_of_ble_eq_true rfl) (fun o M15 hq15 => ?_)
      obtain ⟨v15, rfl, hw15, hv15⟩ := hq15
      replace hv15 := hv15.symm
      subst hv15
      have ds15 := ds14.ask e2 hw15
      generalize mg Mx14 M15 = Mx15 at ds15 ⊢
      refine R_iload_3 hC2 dW_law_136 ?_
      refine R_icmp_eq hC2 dW_law_137 (tgt := 142) (by decide) (fun _ => ?_) (fun hb => absurd rfl hb)
      refine R_iinc_5 hC2 dW_law_142 rfl ⟨by omega, by omega⟩ ?_
      refine R_goto hC2 dW_law_145 (tgt := 42) (by decide) ?_
      exact ih (z + 1) c (r2 + 1) d s g2 S2 n2 _ _ Mx15 _ hC2 ka2 e2 ha2 hak2 (by omega) (by omega) (by omega) (fun v hv => by cases hv; trivial) rfl (by omega) (by omega) (by omega) (by omega) (by omega) (by omega) ⟨ds15.1, ds15.2.1, fun _ _ => rfl⟩ (fun j j0 j1 => (congrFun (ds15.2.2 a ha2.1) j).trans ((hP3 j j0 (by omega)).trans (by rw [show sn c s d j = s j from if_neg (by omega)]))) (by omega)
theorem law_run {g : Nat → Nat} (hC : CxOK (g, q) mL_law C) (hRm : C.2.2.2.1 = room_1) (hend : ∀ (g' : Nat → Nat) (S : Sh) (n k w : Nat) (ls : List (Option V)) (M : Mem), CxOK (g', q) mL_law C → k ≤ 600086 → w ≤ 7301442 → RZ (g', q) S C Z k w n 225 ls [vI 1] M) : RZ (g, q) LY C Z 0 0 0 0 [some (vR 1030), none, none, none, none, none, none] [] (fun _ _ => 0) := by
  have rb0 : RB LY 0 (fun _ _ => 0) := fun h k hh => absurd hh (Nat.not_lt_zero h)
  refine R_newO (N := 16) hC dW_law_0 cl_11 (Ts_in (in_t1 _ (List.mem_of_getElem? (i := 30) rfl)) rfl) (Ts_in (in_t1 _ (List.mem_of_getElem? (i := 31) rfl)) rfl) (Ts_in (in_t1 _ (List.mem_of_getElem? (i := 1) rfl)) rfl) rfl (by decide +kernel) (by decide) rb0 (hls_K (by decide) (hls_N (hls_N (hls_N (hls_N (hls_N (hls_N hls_0))))))) hst_0 (by rw [hRm]; exact Nat.le_of_ble_eq_true rfl) (by rw [hRm]; exact Nat.le_of_ble_eq_true rfl) (fun g1 ga1 => ?_)
  have hC1 := CxOK.ga ga1 hC
  have rb1 := RB.set (f := dfl LY 11) rb0 (fun j => (dfl_b j).2)
  refine R_dup hC1 dW_law_3 rfl ?_
  refine R_callN (as := []) hC1 dW_law_4 mi_11 mlW_138 (c11_init_0 rb1 (fun j => setR_s)) rfl rfl (by rw [hRm]; exact ⟨Nat.le_of_ble_eq_true rfl, Nat.le_of_ble_eq_true rfl, Nat.le_of_ble_eq_true rfl, Nat.le_of_ble_eq_true rfl⟩) (by decide) (hls_K (by decide) (hls_N (hls_N (hls_N (hls_N (hls_N (hls_N hls_0))))))) (hst_R (by decide) hst_0) (fun g2 M2 ga2 hb2 rb2 => ?_)
  have hC2 := CxOK.ga ga2 hC1
  obtain ⟨f1, f2, f3, f4, f5, f6⟩ := fm_GR (fun h j a b => hb2.2 h j (Nat.zero_le h) a b)
  refine R_astore_1 hC2 dW_law_7 rfl ?_
  refine R_aload_1 hC2 dW_law_8 ?_
  refine R_aload_0 hC2 dW_law_9 ?_
  refine R_callSD (as := [vR 1030]) hC2 dW_law_10 momW_text mlW_139 (l_text EX.ly rb2 (by decide)) rfl rfl (rm_1 hRm (by decide) (by decide) (by decide) (by decide)) (Nat.le_of_ble_eq_true rfl) (hls_K (by decide) (hls_R (by decide) (hls_N (hls_N (hls_N (hls_N (hls_N hls_0))))))) (hst_R (by decide) hst_0) (fun g3 S3 n3 oo M3 ga3 hn3 e3 hS3 hq rb3 _ => ?_)
  obtain ⟨t, rfl, hn3b, ⟨r, ht, hr, hT⟩, hM3⟩ := hq
  have hC3 := CxOK.ga ga3 hC2
  have hlen := txt_len g2
  have h4 : M3 4 = fun _ => 0 := by
    rw [hM3 4 (by decide)]
    exact funext f2
  have hG3 : GR M3 := f1.lo (fun a h => hM3 a h)
  refine R_callSD (as := [vR 0, vR t]) hC3 dW_law_13 momW_desk mlW_143 (l_desk e3 rb3 (by omega) ht.2 ht.1 hr.2 hr.1 hT (by omega) hG3 h4 z_SP.1 (fun y => absurd ((congrFun (hM3 0 (by decide)) 10).trans f3) y) ((congrFun (hM3 0 (by decide)) 1).trans f4) (by rw [hM3 10 (by decide), f5]; decide) (by rw [hM3 10 (by decide), f5]; decide) (fun r0 k hb hz => (txt_read hb hz).1)) rfl rfl (rm_1 hRm (by decide) (by decide) (by omega) (by omega)) (Nat.le_of_ble_eq_true rfl) (hls_K (by decide) (hls_R (by omega) (hls_N (hls_N (hls_N (hls_N (hls_N hls_0))))))) hst_0 (fun g4 S4 n4 oo M4 ga4 hn4 e4 hS4 hq rb4 _ => ?_)
  obtain ⟨hn4b, hM4, r0, kk, hby, hz, hfl, rfl, hG4, h44, h53, h54, h010, h10⟩ := hq
  have hC4 := CxOK.ga ga4 hC3
  have hrd := txt_read hby hz
  have hqs := rdI_SP (r := r0) (n := (txt g2).length) kk
  have h22 := rdI_22 (r := r0) (n := (txt g2).length) kk
  generalize (rdI r0 (txt g2).length kk).1 = d at h44 hrd hqs h22
  have hpq : PQ (libsN g2) (worksN g2) d := by
    refine ⟨hqs.1, hrd.2.1, hrd.2.2, ?_⟩
    have z : stor d = 0 := sm_zero _ (fun w w0 w1 => h22 w w0 (by have := hqs.1.1.2.2; omega))
    have := hqs.1.2.2.2.2.1.2.2.1
    omega
  have ka : KA g2 g4 := KA.tr ga3.ka ga4.ka
  refine R_if_eq hC4 dW_law_16 (tgt := 21) (by decide) (fun _ => ?_) (fun hb => absurd rfl hb)
  refine R_bipush hC4 dW_law_21 (by decide +kernel) ⟨by decide, by decide⟩ ?_
  refine R_newAd (kd := 20) (N := 20) hC4 e4 dW_law_23 rfl (.inl rfl) w_arrI rfl (by decide) (by omega) rb4 (hls_K (by decide) (hls_R (by omega) (hls_N (hls_N (hls_N (hls_N (hls_N hls_0))))))) hst_0 (by rw [hRm]; exact Nat.le_of_ble_eq_true rfl) (by rw [hRm]; exact Nat.le_of_ble_eq_true rfl) (fun g5 ga5 e5 rb5 => ?_)
  have hC5 := CxOK.ga ga5 hC4
  have ka5 : KA g2 g5 := ka.tr ga5.ka
  have j1 : GR (setR M4 n4 (fun _ => 0)) := hG4.lo (fun a h => setR_r (by omega))
  have jr : ∀ a, a < 57 → setR M4 n4 (fun _ => 0) a = M4 a := fun a h => setR_r (by have := e4.1; omega)
  have j4 : setR M4 n4 (fun _ => 0) 4 = d := (jr 4 (by decide)).trans h44
  have jP : FP (setR M4 n4 (fun _ => 0)) d := fun y => absurd ((congrFun (jr 0 (by decide)) 10).trans h010) y
  have j53 : setR M4 n4 (fun _ => 0) 5 3 = 0 := (congrFun (jr 5 (by decide)) 3).trans h53
  have j54 : setR M4 n4 (fun _ => 0) 5 4 = 0 := (congrFun (jr 5 (by decide)) 4).trans h54
  have j10 : setR M4 n4 (fun _ => 0) 10 1 = 0 := (congrFun (jr 10 (by decide)) 1).trans ((congrFun h10 1).trans ((congrFun (hM3 10 (by decide)) 1).trans f6))
  generalize setR M4 n4 (fun _ => 0) = M5 at rb5 j1 j4 jP j53 j54 j10 ⊢
  refine R_astore_2 hC5 dW_law_25 rfl ?_
  refine R_iconst hC5 dW_law_26 ⟨by decide, by decide⟩ ?_
  refine R_istore_3 hC5 dW_law_27 rfl ?_
  refine R_aload_1 hC5 dW_law_28 ?_
  refine E_vf (as := []) hC5 e5 hRm dW_law_29 mo_11_image mlW_146 (by decide) rfl rfl (fun N => img_k j1 j4 hpq jP j53 j54 j10 hqs.2) rfl rfl (by decide) (by decide) (by omega) (by omega) (Nat.le_of_ble_eq_true rfl) (fun o M16 hq16 => ?_)
  obtain ⟨rfl, hR16, hc16⟩ := hq16
  have ds : DS (libsN g2) (worksN g2) d (push S4 n4 (20, 20)) (n4 + 1) (mg M5 M16) (mg M5 M16) d 0 (fun _ => d) 0 := ⟨hc16.dn (fun a h => mg_lo h), rb5.rr e5 hR16, fun _ _ => rfl⟩
  generalize mg M5 M16 = M7 at ds ⊢
  show RZ (g5, q) (push S4 n4 (20, 20)) C Z _ _ (n4 + 1) 32 [some (vR 1030), some (vR 0), some (vR n4), some (vI 0), none, none, none] [] M7
  refine R_aload_0 hC5 dW_law_32 ?_
  refine R_aload_1 hC5 dW_law_33 ?_
  refine E_sf (as := [vR 1030, vR 0]) hC5 e5 hRm dW_law_34 momW_print mlW_131 (fun N => c14_print ka5 ds.wi ds.sp hrd.2.1 hrd.2.2) rfl rfl (by decide) (by decide) (by omega) (by omega) (Nat.le_of_ble_eq_true rfl) (fun o M17 hq17 => ?_)
  obtain ⟨v17, rfl, hw17, rfl⟩ := hq17
  have ds17 := ds.ask e5 hw17
  generalize mg M7 M17 = Mx17 at ds17 ⊢
  refine R_istore_4 hC5 dW_law_37 rfl ?_
  refine R_iconst hC5 dW_law_39 ⟨by decide, by decide⟩ ?_
  refine R_istore_5 hC5 dW_law_40 rfl ?_
  exact law_loop (n1 := n4 + 1) (k1 := 0 + 1 + 56 + 320 + 20 + 1) (w1 := 0 + 16 + 2704 + 330000 + 100 + 20) hRm hend _ rfl (by omega) (by decide) (by decide) _ 0 0 0 d (fun _ => d) g5 _ (n4 + 1) _ _ Mx17 none hC5 ka5 e5 ⟨e4.1, Nat.lt_succ_self n4⟩ push_s (by omega) (by omega) (by omega) (fun v hv => by cases hv) rfl (by decide) (by decide) (by decide) (by decide) (by decide) (by decide) ⟨ds17.1, ds17.2.1, fun _ _ => rfl⟩ (fun j j0 j1 => absurd j1 (by omega)) (Nat.lt_succ_self _)
end LAWB
