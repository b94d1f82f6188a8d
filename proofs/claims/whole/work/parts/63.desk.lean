/-! the model's reader: a text as a whole -/
section GES
variable {r : Int → Int} {n : Int} {S T : RT}
def GE (n : Int) (S T : RT) : Prop := RG n T ∧ S.2.2.1 ≤ T.2.2.1
theorem GE.rfl (h : RG n S) : GE n S S := ⟨h, Int.le_refl _⟩
theorem GE.nx (h : GE n S T) : GE n S (nxR r n T) := by
  obtain ⟨g, e⟩ := h
  have a := scn_b (P := fun j => blP (byA r n j)) g.2.2
  have b := nxW_bd (r := r) a.2
  refine ⟨g.nx, ?_⟩
  show _ ≤ (nxW r n _).2.2
  omega
theorem nx_lt (g : RG n S) (k : (nxR r n S).1 ≠ 0) : S.2.2.1 < (nxR r n S).2.2.1 := by
  have a := scn_b (P := fun j => blP (byA r n j)) g.2.2
  have k' : (nxW r n (scn (fun j => blP (byA r n j)) n S.2.2.1)).1 ≠ 0 := k
  show _ < (nxW r n (scn (fun j => blP (byA r n j)) n S.2.2.1)).2.2
  generalize scn (fun j => blP (byA r n j)) n S.2.2.1 = s at a k' ⊢
  by_cases a1 : n ≤ s
  · rw [nx_0 a1] at k'
    exact absurd (Eq.refl (0 : Int)) k'
  · have a1 : s < n := by omega
    by_cases b : ltP (byA r n s)
    · rw [nx_1 a1 b]
      have := scn_b (P := fun j => ltP (byA r n j)) (n := n) (a := s + 1) (by omega)
      show _ < scn _ _ _
      omega
    · by_cases c : dgP (byA r n s)
      · rw [nx_2 a1 b c]
        have := scn_b (P := fun j => dgP (byA r n j)) (n := n) (a := s + 1) (by omega)
        show _ < scn _ _ _
        omega
      · by_cases e : byA r n s = 59
        · rw [nx_3 a1 b c e]; show _ < s + 1; omega
        · rw [nx_4 a1 b c e]; show _ < s + 1; omega
theorem GE.rf {v : Int} (h : GE n S T) : GE n S (refR v T) := ⟨h.1.rf, by rw [rf_3.2.2]; exact h.2⟩
theorem GE.ck {a b : Int} (h : GE n S T) : GE n S (ckR r n a b T).2 := by
  unfold ckR
  split
  · split
    · split
      · exact h
      · exact h.rf
    · exact h.rf
  · exact h
theorem GE.rn {a b : Int} (h : GE n S T) : GE n S (rnR r n a b T).2 := by
  unfold rnR
  split
  · exact (GE.ck h).nx
  · exact GE.ck h
theorem GE.lb {c : Int × RT} (h : GE n S c.2) : GE n S (lb2 r n c).2 := by
  unfold lb2
  split
  · exact GE.rn h
  · exact h
theorem GE.no {d : Int → Int} {o q p : Int} (h : GE n S T) : GE n S (noR r n d o q p T).2 := by
  show GE n S (noC r n _)
  have g1 : GE n S (noA q (ckR r n 0 (o - 1) T)) := by
    unfold noA
    split
    · exact (GE.ck h).rf
    · exact GE.ck h
  have g2 : GE n S (noB d p (ckR r n 0 (o - 1) T).1 (noA q (ckR r n 0 (o - 1) T))) := by
    unfold noB
    split
    · exact g1.rf
    · exact g1
  unfold noC
  split
  · exact g2.nx
  · exact g2
theorem rf_nz {v : Int} (hv : v ≠ 0) : (refR v S).2.2.2.1 ≠ 0 := by
  by_cases h : S.2.2.2.1 = 0
  · exact rf_ne h hv
  · rw [refR_n h]; exact h
theorem sg_n (h : S.2.2.2.1 ≠ 0) : sgR r n S = S := if_neg h
theorem sg_g (h : (sgR r n S).2.2.2.1 = 0) : S.2.2.2.1 = 0 ∧ S.1 = 3 ∧ sgR r n S = nxR r n S := by
  by_cases a : S.2.2.2.1 = 0
  · by_cases b : S.1 = 3
    · exact ⟨a, b, (if_pos a).trans (if_pos b)⟩
    · have e : sgR r n S = refR 1 S := (if_pos a).trans (if_neg b)
      rw [e] at h
      exact absurd h (rf_nz (by decide))
  · rw [sg_n a] at h
    exact absurd h a
end GES
section CLZ
variable {r : Int → Int} {n : Int}
theorem cl0_ge {X : RX} (h : RG n X.2.2) : GE n X.2.2 (cl0 r n X).2.2 := by
  obtain ⟨d, s, S⟩ := X
  have g : GE n S S := GE.rfl h
  have c := cl_by (r := r) (n := n) (d := d) (s := s) (S := S) h
  by_cases h0 : wdC r n S = 0
  · rw [c.1 h0]
    show GE n S (lb0 r n d S).2
    unfold lb0
    by_cases q : d 121 < 5
    · rw [itc_t q]; exact GE.lb (GE.rn g.nx)
    · rw [itc_f q]; exact g.rf
  by_cases h1 : wdC r n S = 1
  · rw [c.2.1 h1]
    show GE n S (wk0 r n d S).2
    unfold wk0
    by_cases q : d 122 < 6
    · rw [itc_t q]; exact GE.rn (GE.rn g.nx)
    · rw [itc_f q]; exact g.rf
  by_cases h2 : wdC r n S = 2
  · rw [c.2.2.1 h2]
    exact GE.rn (GE.no (GE.no g.nx))
  by_cases h3 : wdC r n S = 3
  · rw [c.2.2.2.1 h3]
    exact GE.rn (GE.rn (GE.no (GE.no g.nx)))
  by_cases h4 : wdC r n S = 4
  · rw [c.2.2.2.2.1 h4]
    show GE n S (if s = 0 then _ else _)
    by_cases q : s = 0
    · rw [if_pos q]; exact GE.rn g.nx
    · rw [if_neg q]; exact g.rf
  · rw [c.2.2.2.2.2 ⟨h0, h1, h2, h3, h4⟩]
    exact g.rf
/-- the class's clause is the clause and its sign -/
theorem clz {X : RX} (h : RG n X.2.2) : (clR r n X).2.2 = sgR r n (cl0 r n X).2.2 ∧ ((clR r n X).2.2.2.2.2.1 = 0 → (clR r n X).1 = (cl0 r n X).1 ∧ (clR r n X).2.1 = (cl0 r n X).2.1) := by
  obtain ⟨d, s, S⟩ := X
  have rz : ∀ v : Int, v ≠ 0 → refR v S = sgR r n (refR v S) := fun v hv => (sg_n (rf_nz hv)).symm
  by_cases h0 : wdP r n S 0
  · rw [clc_0 h0, show cl0 r n (d, s, S) = ((lb0 r n d S).1, s, (lb0 r n d S).2) from itc_t h0]
    show (lbR r n d S).2 = sgR r n (lb0 r n d S).2 ∧ (_ → (lbR r n d S).1 = (lb0 r n d S).1 ∧ s = s)
    unfold lbR lb0
    by_cases q : d 121 < 5
    · rw [if_pos q, itc_t q]; exact ⟨rfl, fun _ => ⟨rfl, rfl⟩⟩
    · rw [if_neg q, itc_f q]; exact ⟨rz 2 (by decide), fun _ => ⟨rfl, rfl⟩⟩
  by_cases h1 : wdP r n S 1
  · rw [clc_1 h0 h1, show cl0 r n (d, s, S) = ((wk0 r n d S).1, s, (wk0 r n d S).2) from (itc_f h0).trans (itc_t h1)]
    show (wkR r n d S).2 = sgR r n (wk0 r n d S).2 ∧ (_ → (wkR r n d S).1 = (wk0 r n d S).1 ∧ s = s)
    unfold wkR wk0
    by_cases q : d 122 < 6
    · rw [if_pos q, itc_t q]; exact ⟨rfl, fun _ => ⟨rfl, rfl⟩⟩
    · rw [if_neg q, itc_f q]; exact ⟨rz 2 (by decide), fun _ => ⟨rfl, rfl⟩⟩
  by_cases h2 : wdP r n S 2
  · rw [clc_2 h0 h1 h2, show cl0 r n (d, s, S) = ((hd0 r n d S).1, s, (hd0 r n d S).2) from (itc_f h0).trans ((itc_f h1).trans (itc_t h2))]
    refine ⟨rfl, fun z => ⟨?_, rfl⟩⟩
    have z' : (sgR r n (hdC r n d S).2).2.2.2.1 = 0 := z
    show (if (sgR r n (hdC r n d S).2).2.2.2.1 = 0 then _ else d) = (if (hdC r n d S).2.2.2.2.1 = 0 then _ else d)
    rw [if_pos z', if_pos (sg_g z').1]
  by_cases h3 : wdP r n S 3
  · rw [clc_3 h0 h1 h2 h3, show cl0 r n (d, s, S) = ((pm0 r n d S).1, s, (pm0 r n d S).2) from (itc_f h0).trans ((itc_f h1).trans ((itc_f h2).trans (itc_t h3)))]
    refine ⟨rfl, fun z => ⟨?_, rfl⟩⟩
    have z' : (sgR r n (pmY r n d S).2).2.2.2.1 = 0 := z
    show (if (sgR r n (pmY r n d S).2).2.2.2.1 = 0 then _ else d) = (if (pmY r n d S).2.2.2.2.1 = 0 then _ else d)
    rw [if_pos z', if_pos (sg_g z').1]
  by_cases h4 : wdP r n S 4
  · rw [clc_4 h0 h1 h2 h3 h4, show cl0 r n (d, s, S) = st0 r n (d, s, S) from (itc_f h0).trans ((itc_f h1).trans ((itc_f h2).trans ((itc_f h3).trans (itc_t h4))))]
    refine ⟨?_, fun _ => ⟨rfl, rfl⟩⟩
    show (if s = 0 then _ else _) = sgR r n (if s = 0 then _ else _)
    by_cases q : s = 0
    · rw [if_pos q, if_pos q]
    · rw [if_neg q, if_neg q]; exact rz 4 (by decide)
  · rw [clc_5 h0 h1 h2 h3 h4, show cl0 r n (d, s, S) = (d, s, refR 1 S) from (itc_f h0).trans ((itc_f h1).trans ((itc_f h2).trans ((itc_f h3).trans (itc_f h4))))]
    exact ⟨rz 1 (by decide), fun _ => ⟨rfl, rfl⟩⟩
theorem rd_pr (hn : 0 ≤ n) : ∀ k : Nat, (rdI r n k).2.2.2.2.2.1 = 0 → (rdI r n k).2.2.1 ≠ 0 → (∀ j : Nat, j < k → (rdI r n j).2.2.2.2.2.1 = 0 ∧ (rdI r n j).2.2.1 ≠ 0) → (k : Int) < (rdI r n k).2.2.2.2.1
  | 0, _, k, _ => by
    have g : RG n ((0, 0, 0, 0, -1) : RT) := ⟨Int.le_refl _, Int.le_refl _, hn⟩
    exact nx_lt g k
  | k + 1, h, k1, hz => by
    have hk := hz k (Nat.lt_succ_self k)
    have p := rd_pr hn k hk.1 hk.2 (fun j q => hz j (by omega))
    have g := (rdI_ok (r := r) hn k).1
    have z := (clz (r := r) (X := rdI r n k) g).1
    have e : (rdI r n (k + 1)).2.2 = sgR r n (cl0 r n (rdI r n k)).2.2 := z
    have h' := h
    rw [e] at h' k1 ⊢
    have s := sg_g h'
    rw [s.2.2] at k1 ⊢
    have c := cl0_ge (r := r) g
    have l := nx_lt c.1 k1
    have := c.2
    omega
/-- the reading ends once -/
theorem rdZ_n {k : Nat} (hn : 0 ≤ n) (h : rdZ r n k) : (rdI r n k).2.2.2.2.2.1 ≠ 0 ∨ (rdI r n k).2.2.1 = 0 := by
  rcases h.2 with q | q | q
  · exact .inl q
  · exact .inr q
  · by_cases a : (rdI r n k).2.2.2.2.2.1 = 0
    · by_cases b : (rdI r n k).2.2.1 = 0
      · exact .inr b
      · have p := rd_pr hn k a b h.1
        have g := (rdI_ok (r := r) hn k).1.2.2
        omega
    · exact .inl a
theorem rdZ_u {k l : Nat} (hn : 0 ≤ n) (h : rdZ r n k) (g : rdZ r n l) : k = l := by
  rcases Nat.lt_trichotomy k l with q | q | q
  · have z := g.1 k q
    rcases rdZ_n hn h with a | a
    · exact absurd z.1 a
    · exact absurd a z.2
  · exact q
  · have z := h.1 l q
    rcases rdZ_n hn g with a | a
    · exact absurd z.1 a
    · exact absurd a z.2
end CLZ
section RW6
variable {M M' : Mem} {d : Int → Int}
theorem RW.tm (h : TD M d) (e8 : ∀ j, 0 ≤ j → j < 114 → M' 58 j = M 73 j) (e9 : ∀ j, 0 ≤ j → j < 6 → M' 59 j = M 74 j) (a : M' 57 14 = max 0 (M 57 44)) (a1 : M' 57 5 = M 57 42) (a2 : M' 57 6 = M 57 43) : RW M' 0 d := by
  intro k k0 k1
  rw [← h k k0 k1]
  have E8 : ∀ j, 0 ≤ j → j < 114 → M' 58 j = tmM M 58 j := e8
  have E9 : ∀ j, 0 ≤ j → j < 6 → M' 59 j = tmM M 59 j := e9
  have A : M' 57 14 = tmM M 57 14 := a
  have A1 : M' 57 5 = tmM M 57 5 := a1
  have A2 : M' 57 6 = tmM M 57 6 := a2
  unfold ms
  by_cases q1 : k < 10
  · rw [if_pos q1, if_pos q1]; exact E8 _ (by omega) (by omega)
  rw [if_neg q1, if_neg q1]
  by_cases q2 : k < 16
  · rw [if_pos q2, if_pos q2, A2, E9 _ (by omega) (by omega)]
  rw [if_neg q2, if_neg q2]
  by_cases q3 : k < 22
  · rw [if_pos q3, if_pos q3]; exact E8 _ (by omega) (by omega)
  rw [if_neg q3, if_neg q3]
  by_cases q4 : k < 28
  · rw [if_pos q4, if_pos q4]; exact E8 _ (by omega) (by omega)
  rw [if_neg q4, if_neg q4]
  by_cases q5 : k < 118
  · rw [if_pos q5, if_pos q5]; exact E8 _ (by omega) (by omega)
  rw [if_neg q5, if_neg q5]
  by_cases q6 : k < 120
  · rw [if_pos q6, if_pos q6]; exact E8 _ (by omega) (by omega)
  rw [if_neg q6, if_neg q6]
  by_cases q7 : k = 120
  · rw [if_pos q7, if_pos q7]; exact A
  rw [if_neg q7, if_neg q7]
  by_cases q8 : k = 121
  · rw [if_pos q8, if_pos q8]; exact A1
  rw [if_neg q8, if_neg q8]
  exact A2
theorem TD.z (e3 : ∀ j, 0 ≤ j → j < 114 → M 73 j = 0) (a : M 57 42 = 0) (a1 : M 57 43 = 0) (a2 : M 57 44 = -1) : TD M (fun _ => 0) := by
  intro k k0 k1
  have E : ∀ j, 0 ≤ j → j < 114 → tmM M 58 j = 0 := e3
  have A : tmM M 57 14 = 0 := by show max 0 (M 57 44) = 0; rw [a2]; rfl
  have A1 : tmM M 57 5 = 0 := a
  have A2 : tmM M 57 6 = 0 := a1
  unfold ms
  rw [A, A1, A2]
  by_cases q1 : k < 10
  · rw [if_pos q1]; exact E _ (by omega) (by omega)
  rw [if_neg q1]
  by_cases q2 : k < 16
  · rw [if_pos q2, if_neg (by omega)]
  rw [if_neg q2]
  by_cases q3 : k < 22
  · rw [if_pos q3]; exact E _ (by omega) (by omega)
  rw [if_neg q3]
  by_cases q4 : k < 28
  · rw [if_pos q4]; exact E _ (by omega) (by omega)
  rw [if_neg q4]
  by_cases q5 : k < 118
  · rw [if_pos q5]; exact E _ (by omega) (by omega)
  rw [if_neg q5]
  by_cases q6 : k < 120
  · rw [if_pos q6]; exact E _ (by omega) (by omega)
  rw [if_neg q6]
  split
  · rfl
  · split <;> rfl
end RW6
def dkF (M : Mem) (m : Int) : Prop := (M 57 33 = m ∧ M 57 31 = 0 ∧ M 57 37 = 0) ∧ (M 57 17 = -1 ∧ M 57 42 = 0 ∧ M 57 43 = 0) ∧ M 57 44 = -1 ∧ M 57 4 = 0 ∧ M 57 16 = 0
theorem dkF.u {M : Mem} {m : Int} (h : dkF M m) {a : Nat} {j x : Int} (e : a ≠ 57) : dkF (uM M a j x) m := by
  have k : ∀ i, uM M a j x 57 i = M 57 i := fun i => uM_h (Ne.symm e)
  unfold dkF
  rw [k, k, k, k, k, k, k, k, k]
  exact h

theorem dX12_desk_200 : decode cX12_desk 200 = .ok (.aload_n 0, 1) := by decide +kernel
theorem dX12_desk_201 : decode cX12_desk 201 = .ok (.aload_n 0, 1) := by decide +kernel
theorem dX12_desk_202 : decode cX12_desk 202 = .ok (.getfield 241, 3) := by decide +kernel
theorem dX12_desk_205 : decode cX12_desk 205 = .ok (.putfield 105, 3) := by decide +kernel
theorem dX12_desk_208 : decode cX12_desk 208 = .ok (.aload_n 0, 1) := by decide +kernel
theorem dX12_desk_209 : decode cX12_desk 209 = .ok (.aload_n 0, 1) := by decide +kernel
theorem dX12_desk_210 : decode cX12_desk 210 = .ok (.getfield 247, 3) := by decide +kernel
theorem dX12_desk_213 : decode cX12_desk 213 = .ok (.putfield 102, 3) := by decide +kernel
theorem dX12_desk_216 : decode cX12_desk 216 = .ok (.aload_n 0, 1) := by decide +kernel
theorem dX12_desk_217 : decode cX12_desk 217 = .ok (.iconst 0, 1) := by decide +kernel
theorem dX12_desk_218 : decode cX12_desk 218 = .ok (.aload_n 0, 1) := by decide +kernel
theorem dX12_desk_219 : decode cX12_desk 219 = .ok (.getfield 250, 3) := by decide +kernel
theorem dX12_desk_222 : decode cX12_desk 222 = .ok (.invokestatic 99, 3) := by decide +kernel
theorem dX12_desk_225 : decode cX12_desk 225 = .ok (.putfield 275, 3) := by decide +kernel
theorem dX12_desk_228 : decode cX12_desk 228 = .ok (.iconst 0, 1) := by decide +kernel
theorem dX12_desk_229 : decode cX12_desk 229 = .ok (.istore_n 2, 1) := by decide +kernel
theorem dX12_desk_230 : decode cX12_desk 230 = .ok (.iload_n 2, 1) := by decide +kernel
theorem dX12_desk_231 : decode cX12_desk 231 = .ok (.bipush 114, 2) := by decide +kernel
theorem dX12_desk_233 : decode cX12_desk 233 = .ok (.if_icmp .ge 21, 3) := by decide +kernel
theorem dX12_desk_236 : decode cX12_desk 236 = .ok (.aload_n 0, 1) := by decide +kernel
theorem dX12_desk_237 : decode cX12_desk 237 = .ok (.getfield 9, 3) := by decide +kernel
theorem dX12_desk_240 : decode cX12_desk 240 = .ok (.iload_n 2, 1) := by decide +kernel
theorem dX12_desk_241 : decode cX12_desk 241 = .ok (.aload_n 0, 1) := by decide +kernel
theorem dX12_desk_242 : decode cX12_desk 242 = .ok (.getfield 59, 3) := by decide +kernel
theorem dX12_desk_245 : decode cX12_desk 245 = .ok (.iload_n 2, 1) := by decide +kernel
theorem dX12_desk_246 : decode cX12_desk 246 = .ok (.iaload, 1) := by decide +kernel
theorem dX12_desk_247 : decode cX12_desk 247 = .ok (.iastore, 1) := by decide +kernel
theorem dX12_desk_248 : decode cX12_desk 248 = .ok (.iinc 2 1, 3) := by decide +kernel
theorem dX12_desk_251 : decode cX12_desk 251 = .ok (.goto (-21), 3) := by decide +kernel
theorem dX12_desk_254 : decode cX12_desk 254 = .ok (.iconst 0, 1) := by decide +kernel
theorem dX12_desk_255 : decode cX12_desk 255 = .ok (.istore_n 2, 1) := by decide +kernel
theorem dX12_desk_256 : decode cX12_desk 256 = .ok (.iload_n 2, 1) := by decide +kernel
theorem dX12_desk_257 : decode cX12_desk 257 = .ok (.bipush 6, 2) := by decide +kernel
theorem dX12_desk_259 : decode cX12_desk 259 = .ok (.if_icmp .ge 21, 3) := by decide +kernel
theorem dX12_desk_262 : decode cX12_desk 262 = .ok (.aload_n 0, 1) := by decide +kernel
theorem dX12_desk_263 : decode cX12_desk 263 = .ok (.getfield 13, 3) := by decide +kernel
theorem dX12_desk_266 : decode cX12_desk 266 = .ok (.iload_n 2, 1) := by decide +kernel
theorem dX12_desk_267 : decode cX12_desk 267 = .ok (.aload_n 0, 1) := by decide +kernel
theorem dX12_desk_268 : decode cX12_desk 268 = .ok (.getfield 62, 3) := by decide +kernel
theorem dX12_desk_271 : decode cX12_desk 271 = .ok (.iload_n 2, 1) := by decide +kernel
theorem dX12_desk_272 : decode cX12_desk 272 = .ok (.iaload, 1) := by decide +kernel
theorem dX12_desk_273 : decode cX12_desk 273 = .ok (.iastore, 1) := by decide +kernel
theorem dX12_desk_274 : decode cX12_desk 274 = .ok (.iinc 2 1, 3) := by decide +kernel
theorem dX12_desk_277 : decode cX12_desk 277 = .ok (.goto (-21), 3) := by decide +kernel
theorem dX12_desk_280 : decode cX12_desk 280 = .ok (.aload_n 0, 1) := by decide +kernel
theorem dX12_desk_281 : decode cX12_desk 281 = .ok (.aload_n 0, 1) := by decide +kernel
theorem dX12_desk_282 : decode cX12_desk 282 = .ok (.aload_n 0, 1) := by decide +kernel
theorem dX12_desk_283 : decode cX12_desk 283 = .ok (.aload_n 0, 1) := by decide +kernel
theorem dX12_desk_284 : decode cX12_desk 284 = .ok (.iconst 0, 1) := by decide +kernel
theorem dX12_desk_285 : decode cX12_desk 285 = .ok (.dup_x1, 1) := by decide +kernel
theorem dX12_desk_286 : decode cX12_desk 286 = .ok (.putfield 278, 3) := by decide +kernel
theorem dX12_desk_289 : decode cX12_desk 289 = .ok (.dup_x1, 1) := by decide +kernel
theorem dX12_desk_290 : decode cX12_desk 290 = .ok (.putfield 281, 3) := by decide +kernel
theorem dX12_desk_293 : decode cX12_desk 293 = .ok (.dup_x1, 1) := by decide +kernel
theorem dX12_desk_294 : decode cX12_desk 294 = .ok (.putfield 284, 3) := by decide +kernel
theorem dX12_desk_297 : decode cX12_desk 297 = .ok (.putfield 287, 3) := by decide +kernel
theorem dX12_desk_300 : decode cX12_desk 300 = .ok (.iconst 0, 1) := by decide +kernel
theorem dX12_desk_301 : decode cX12_desk 301 = .ok (.ireturn, 1) := by decide +kernel
set_option maxHeartbeats 2000000 in
theorem c12_desk_200 {G : Gl} {l : Launch} {C : Cx} {M M3 : Mem} {m tp : Int} {r : Int → Int} {kq : Nat} (hC : CxOK G m12_desk C) (hRm : RmOK C 6) (hlau : C.2.1 = l) (hG : GR M3) (hT : (0 ≤ m ∧ m ≤ tp)) (hF3 : Fr [73, 74, 75, 76] [(57, 4), (57, 16), (57, 33), (57, 31), (57, 32), (57, 34), (57, 35), (57, 36), (57, 37), (57, 17), (57, 42), (57, 43), (57, 44)] M M3) (hm3 : MRS M3 r m (rdI r m kq).2.2) (hT3 : TD M3 (rdI r m kq).1 ∧ True) (h43 : M3 57 4 = 0) (h163 : M3 57 16 = 0) (hk9 : rdZ r m kq) (hf9 : (rdI r m kq).2.2.2.2.2.1 = 0) : RZ G LY C (Zn G LY 82 C (RP (fun v M' => (¬ (0 ≤ m ∧ m ≤ tp) ∧ (Fr [] [(57, 4)] M M' ∧ M' 57 4 = 1) ∧ v = 0) ∨ ((0 ≤ m ∧ m ≤ tp) ∧ (M' 57 4 = 0 ∧ M' 57 16 = 0) ∧ ∃ k : Nat, rdZ r m k ∧ M' 57 17 = (rdI r m k).2.2.2.2.2.2 ∧ v = (rdI r m k).2.2.2.2.2.1 ∧ (((rdI r m k).2.2.2.2.2.1 ≠ 0 ∧ Fr [61, 73, 74, 75, 76] [(57, 4), (57, 16), (57, 33), (57, 31), (57, 32), (57, 34), (57, 35), (57, 36), (57, 37), (57, 17), (57, 42), (57, 43), (57, 44)] M M' ∧ M' 61 0 = M 61 0 + 1 ∧ ∀ j, j ≠ 0 → M' 61 j = M 61 j) ∨ ((rdI r m k).2.2.2.2.2.1 = 0 ∧ Fr [58, 59, 73, 74, 75, 76] [(57, 4), (57, 16), (57, 33), (57, 31), (57, 32), (57, 34), (57, 35), (57, 36), (57, 37), (57, 17), (57, 42), (57, 43), (57, 44), (57, 5), (57, 6), (57, 14), (57, 13), (57, 9), (57, 8), (57, 7)] M M' ∧ HI M M' ∧ RW M' 0 (rdI r m k).1 ∧ M' 57 7 = 0 ∧ M' 57 8 = 0 ∧ M' 57 9 = 0 ∧ M' 57 13 = 0)))))) 0 0 82 200 [some (vR 57), some (vI m), none] [] M3 := by
  refine R_aload_0 hC dX12_desk_200 ?_
  refine R_aload_0 hC dX12_desk_201 ?_
  refine R_getI hC dX12_desk_202 fl_12_241 (by decide) rfl (by decide) (by decide) (fi := 42) rfl ?_
  refine R_putI hC dX12_desk_205 fl_12_105 (by decide) rfl (by decide) (by decide) (fi := 5) rfl ?_
  refine R_aload_0 hC dX12_desk_208 ?_
  refine R_aload_0 hC dX12_desk_209 ?_
  refine R_getIE hC dX12_desk_210 fl_12_247 (by decide) rfl (by decide) (by decide) (fi := 43) rfl (uM_k (by decide)) ?_
  refine R_putI hC dX12_desk_213 fl_12_102 (by decide) rfl (by decide) (by decide) (fi := 6) rfl ?_
  refine R_aload_0 hC dX12_desk_216 ?_
  refine R_iconst hC dX12_desk_217 ⟨by decide, by decide⟩ ?_
  refine R_aload_0 hC dX12_desk_218 ?_
  refine R_getIE hC dX12_desk_219 fl_12_250 (by decide) rfl (by decide) (by decide) (fi := 44) rfl ((uM_k (by decide)).trans (uM_k (by decide))) ?_
  refine R_callSq (as := [vI _, vI _]) hC dX12_desk_222 mo_12_greater ml_12_99 (c12_greater  ) rfl rfl hRm (by decide) (by decide) (Nat.le_of_ble_eq_true rfl) ?_
  refine R_putI hC dX12_desk_225 fl_12_275 (by decide) rfl (by decide) (by decide) (fi := 14) rfl ?_
  refine R_iconst hC dX12_desk_228 ⟨by decide, by decide⟩ ?_
  refine R_istore_2 hC dX12_desk_229 rfl ?_
  have L230 : ∀ (mq : Nat) (k : Int) (M4 : Mem), (0 ≤ k) → (k ≤ 114) → (GR M4) → (Fr [58, 59] [(57, 5), (57, 6), (57, 14)] M3 M4) → (M4 57 5 = M3 57 42 ∧ M4 57 6 = M3 57 43 ∧ M4 57 14 = max 0 (M3 57 44)) → (∀ j, 114 ≤ j → M4 58 j = M3 58 j) → (∀ j, 0 ≤ j → j < k → M4 58 j = M3 73 j) → (114 - k).toNat < mq → RZ G LY C (Zn G LY 82 C (RP (fun v M' => (¬ (0 ≤ m ∧ m ≤ tp) ∧ (Fr [] [(57, 4)] M M' ∧ M' 57 4 = 1) ∧ v = 0) ∨ ((0 ≤ m ∧ m ≤ tp) ∧ (M' 57 4 = 0 ∧ M' 57 16 = 0) ∧ ∃ k : Nat, rdZ r m k ∧ M' 57 17 = (rdI r m k).2.2.2.2.2.2 ∧ v = (rdI r m k).2.2.2.2.2.1 ∧ (((rdI r m k).2.2.2.2.2.1 ≠ 0 ∧ Fr [61, 73, 74, 75, 76] [(57, 4), (57, 16), (57, 33), (57, 31), (57, 32), (57, 34), (57, 35), (57, 36), (57, 37), (57, 17), (57, 42), (57, 43), (57, 44)] M M' ∧ M' 61 0 = M 61 0 + 1 ∧ ∀ j, j ≠ 0 → M' 61 j = M 61 j) ∨ ((rdI r m k).2.2.2.2.2.1 = 0 ∧ Fr [58, 59, 73, 74, 75, 76] [(57, 4), (57, 16), (57, 33), (57, 31), (57, 32), (57, 34), (57, 35), (57, 36), (57, 37), (57, 17), (57, 42), (57, 43), (57, 44), (57, 5), (57, 6), (57, 14), (57, 13), (57, 9), (57, 8), (57, 7)] M M' ∧ HI M M' ∧ RW M' 0 (rdI r m k).1 ∧ M' 57 7 = 0 ∧ M' 57 8 = 0 ∧ M' 57 9 = 0 ∧ M' 57 13 = 0)))))) 0 0 82 230 [some (vR 57), some (vI m), some (vI k)] [] M4 := by
    intro mq
    induction mq with
    | zero =>
      intro k M4 hk0 hk1 hg4 hF4 hc4 hh4 hr4 hm
      exact absurd hm (Nat.not_lt_zero _)
    | succ mq ih230 =>
      intro k M4 hk0 hk1 hg4 hF4 hc4 hh4 hr4 hm230
      refine R_iload_2 hC dX12_desk_230 ?_
      refine R_bipush hC dX12_desk_231 (by decide +kernel) ⟨by decide, by decide⟩ ?_
      refine R_icmp_ge hC dX12_desk_233 (tgt := 254) (by decide) (fun hb233 => ?_) (fun hb233 => ?_)
      · skip
        refine R_iconst hC dX12_desk_254 ⟨by decide, by decide⟩ ?_
        refine R_istore_2 hC dX12_desk_255 rfl ?_
        have L256 : ∀ (mq : Nat) (k : Int) (M5 : Mem), (0 ≤ k) → (k ≤ 6) → (GR M5) → (Fr [58, 59] [(57, 5), (57, 6), (57, 14)] M3 M5) → (M5 57 5 = M3 57 42 ∧ M5 57 6 = M3 57 43 ∧ M5 57 14 = max 0 (M3 57 44)) → (∀ j, 114 ≤ j → M5 58 j = M3 58 j) → (∀ j, 0 ≤ j → j < 114 → M5 58 j = M3 73 j) → (∀ j, 0 ≤ j → j < k → M5 59 j = M3 74 j) → (6 - k).toNat < mq → RZ G LY C (Zn G LY 82 C (RP (fun v M' => (¬ (0 ≤ m ∧ m ≤ tp) ∧ (Fr [] [(57, 4)] M M' ∧ M' 57 4 = 1) ∧ v = 0) ∨ ((0 ≤ m ∧ m ≤ tp) ∧ (M' 57 4 = 0 ∧ M' 57 16 = 0) ∧ ∃ k : Nat, rdZ r m k ∧ M' 57 17 = (rdI r m k).2.2.2.2.2.2 ∧ v = (rdI r m k).2.2.2.2.2.1 ∧ (((rdI r m k).2.2.2.2.2.1 ≠ 0 ∧ Fr [61, 73, 74, 75, 76] [(57, 4), (57, 16), (57, 33), (57, 31), (57, 32), (57, 34), (57, 35), (57, 36), (57, 37), (57, 17), (57, 42), (57, 43), (57, 44)] M M' ∧ M' 61 0 = M 61 0 + 1 ∧ ∀ j, j ≠ 0 → M' 61 j = M 61 j) ∨ ((rdI r m k).2.2.2.2.2.1 = 0 ∧ Fr [58, 59, 73, 74, 75, 76] [(57, 4), (57, 16), (57, 33), (57, 31), (57, 32), (57, 34), (57, 35), (57, 36), (57, 37), (57, 17), (57, 42), (57, 43), (57, 44), (57, 5), (57, 6), (57, 14), (57, 13), (57, 9), (57, 8), (57, 7)] M M' ∧ HI M M' ∧ RW M' 0 (rdI r m k).1 ∧ M' 57 7 = 0 ∧ M' 57 8 = 0 ∧ M' 57 9 = 0 ∧ M' 57 13 = 0)))))) 0 0 82 256 [some (vR 57), some (vI m), some (vI k)] [] M5 := by
          intro mq
          induction mq with
          | zero =>
            intro k M5 hk0 hk1 hg5 hF5 hc5 hh5 hr5 hs5 hm
            exact absurd hm (Nat.not_lt_zero _)
          | succ mq ih256 =>
            intro k M5 hk0 hk1 hg5 hF5 hc5 hh5 hr5 hs5 hm256
            refine R_iload_2 hC dX12_desk_256 ?_
            refine R_bipush hC dX12_desk_257 (by decide +kernel) ⟨by decide, by decide⟩ ?_
            refine R_icmp_ge hC dX12_desk_259 (tgt := 280) (by decide) (fun hb259 => ?_) (fun hb259 => ?_)
            · skip
              refine R_aload_0 hC dX12_desk_280 ?_
              refine R_aload_0 hC dX12_desk_281 ?_
              refine R_aload_0 hC dX12_desk_282 ?_
              refine R_aload_0 hC dX12_desk_283 ?_
              refine R_iconst hC dX12_desk_284 ⟨by decide, by decide⟩ ?_
              refine R_dup_x1 hC dX12_desk_285 rfl rfl ?_
              refine R_putI hC dX12_desk_286 fl_12_278 (by decide) rfl (by decide) (by decide) (fi := 13) rfl ?_
              refine R_dup_x1 hC dX12_desk_289 rfl rfl ?_
              refine R_putI hC dX12_desk_290 fl_12_281 (by decide) rfl (by decide) (by decide) (fi := 9) rfl ?_
              refine R_dup_x1 hC dX12_desk_293 rfl rfl ?_
              refine R_putI hC dX12_desk_294 fl_12_284 (by decide) rfl (by decide) (by decide) (fi := 8) rfl ?_
              refine R_putI hC dX12_desk_297 fl_12_287 (by decide) rfl (by decide) (by decide) (fi := 7) rfl ?_
              refine R_iconst hC dX12_desk_300 ⟨by decide, by decide⟩ ?_
              exact R_ireturn hC dX12_desk_301 rfl (ret_P (by
                  have hT9 := hT3
                  have o : ∀ (a : Nat) (j : Int), (a ≠ 57 ∨ (j ≠ 13 ∧ j ≠ 9 ∧ j ≠ 8 ∧ j ≠ 7)) → (uM (uM (uM (uM M5 57 13 0) 57 9 0) 57 8 0) 57 7 0) a j = M5 a j := fun a j p => (if_neg (fun z => by omega)).trans ((if_neg (fun z => by omega)).trans ((if_neg (fun z => by omega)).trans (if_neg (fun z => by omega))))
                  have hF9 : Fr [58, 59] [(57, 5), (57, 6), (57, 14), (57, 13), (57, 9), (57, 8), (57, 7)] M3 (uM (uM (uM (uM M5 57 13 0) 57 9 0) 57 8 0) 57 7 0) := (by (repeat (first | (refine Fr.uB ?_ (by decide)))); exact hF5.mo (by simp) (by simp))
                  refine .inr ⟨hT, ⟨(o 57 4 (.inr (by decide))).trans ((hF5 57 4 (by decide) (by decide)).trans h43), (o 57 16 (.inr (by decide))).trans ((hF5 57 16 (by decide) (by decide)).trans h163)⟩, kq, hk9, (o 57 17 (.inr (by decide))).trans ((hF5 57 17 (by decide) (by decide)).trans hm3.p), hf9.symm, .inr ⟨hf9, Fr.tt (hF3.mo (by simp) (by simp)) (hF9.mo (by simp) (by simp)), fun j e => (o 58 j (.inl (by decide))).trans ((hh5 j (by omega)).trans (hF3 58 j (by decide) (by simp))), RW.tm hT9.1 (fun j a b => (o 58 j (.inl (by decide))).trans (hr5 j a b)) (fun j a b => (o 59 j (.inl (by decide))).trans (hs5 j a (by omega))) ((o 57 14 (.inr (by decide))).trans hc5.2.2) ((o 57 5 (.inr (by decide))).trans hc5.1) ((o 57 6 (.inr (by decide))).trans hc5.2.1), uM_same, (uM_k (by decide)).trans uM_same, (uM_k (by decide)).trans ((uM_k (by decide)).trans uM_same), (uM_k (by decide)).trans ((uM_k (by decide)).trans ((uM_k (by decide)).trans uM_same))⟩⟩))
            · skip
              refine R_aload_0 hC dX12_desk_262 ?_
              refine R_getR hC dX12_desk_263 fl_12_13 (by decide) rfl (by decide) (by decide) (fi := 1) rfl (r := 59) (gr_57_1 hg5) ?_
              refine R_iload_2 hC dX12_desk_266 ?_
              refine R_aload_0 hC dX12_desk_267 ?_
              refine R_getR hC dX12_desk_268 fl_12_62 (by decide) rfl (by decide) (by decide) (fi := 39) rfl (r := 74) (gr_57_39 hg5) ?_
              refine R_iload_2 hC dX12_desk_271 ?_
              refine R_iaload hC dX12_desk_272 (by decide) rfl (by omega) (by omega) ?_
              refine R_iastore hC dX12_desk_273 (by decide) rfl (by omega) (by omega) ?_
              refine R_iinc_2 hC dX12_desk_274 rfl ⟨by omega, by omega⟩ ?_
              refine R_goto hC dX12_desk_277 (tgt := 256) (by decide) ?_
              have hG1 : GR (uM M5 59 k (M5 74 k)) := (GR.uA hg5 (by decide +kernel) (.inl (by decide)))
              exact ih256 _ _ (by omega) (by omega) hG1 (Fr.uA hF5 (by decide)) (⟨(uM_h (by decide)).trans hc5.1, (uM_h (by decide)).trans hc5.2.1, (uM_h (by decide)).trans hc5.2.2⟩) (fun j a => (uM_h (by decide)).trans (hh5 j a)) (fun j a b => (uM_h (by decide)).trans (hr5 j a b)) (fun j a b => by
                by_cases e : j = k
                · rw [e]; exact uM_same.trans (hF5 74 k (by decide) (by simp))
                · exact (uM_k e).trans (hs5 j a (by omega))) (by omega)
        exact L256 _ _ _ (by omega) (by omega) hg4 hF4 hc4 hh4 (fun j a b => hr4 j a (by omega)) (fun j a b => by omega) (Nat.lt_succ_self _)
      · skip
        refine R_aload_0 hC dX12_desk_236 ?_
        refine R_getR hC dX12_desk_237 fl_12_9 (by decide) rfl (by decide) (by decide) (fi := 0) rfl (r := 58) (gr_57_0 hg4) ?_
        refine R_iload_2 hC dX12_desk_240 ?_
        refine R_aload_0 hC dX12_desk_241 ?_
        refine R_getR hC dX12_desk_242 fl_12_59 (by decide) rfl (by decide) (by decide) (fi := 38) rfl (r := 73) (gr_57_38 hg4) ?_
        refine R_iload_2 hC dX12_desk_245 ?_
        refine R_iaload hC dX12_desk_246 (by decide) rfl (by omega) (by omega) ?_
        refine R_iastore hC dX12_desk_247 (by decide) rfl (by omega) (by omega) ?_
        refine R_iinc_2 hC dX12_desk_248 rfl ⟨by omega, by omega⟩ ?_
        refine R_goto hC dX12_desk_251 (tgt := 230) (by decide) ?_
        have hG2 : GR (uM M4 58 k (M4 73 k)) := (GR.uA hg4 (by decide +kernel) (.inl (by decide)))
        exact ih230 _ _ (by omega) (by omega) hG2 (Fr.uA hF4 (by decide)) (⟨(uM_h (by decide)).trans hc4.1, (uM_h (by decide)).trans hc4.2.1, (uM_h (by decide)).trans hc4.2.2⟩) (fun j a => (uM_k (by omega)).trans (hh4 j a)) (fun j a b => by
          by_cases e : j = k
          · rw [e]; exact uM_same.trans (hF4 73 k (by decide) (by simp))
          · exact (uM_k e).trans (hr4 j a (by omega))) (by omega)
  have hG3 : GR (uM (uM (uM M3 57 5 (M3 57 42)) 57 6 (M3 57 43)) 57 14 (max 0 (M3 57 44))) := (GR.uF (GR.uF (GR.uF hG (by decide +kernel) (by decide)) (by decide +kernel) (by decide)) (by decide +kernel) (by decide))
  exact L230 _ _ _ (by omega) (by omega) hG3 (by (repeat (first | (refine Fr.uB ?_ (by decide)))); exact Fr.rf) (⟨(uM_k (by decide)).trans ((uM_k (by decide)).trans uM_same), (uM_k (by decide)).trans uM_same, uM_same⟩) (fun j a => (uM_h (by decide)).trans ((uM_h (by decide)).trans (uM_h (by decide)))) (fun j a b => by omega) (Nat.lt_succ_self _)
theorem dX12_desk_125 : decode cX12_desk 125 = .ok (.aload_n 0, 1) := by decide +kernel
theorem dX12_desk_126 : decode cX12_desk 126 = .ok (.getfield 228, 3) := by decide +kernel
theorem dX12_desk_129 : decode cX12_desk 129 = .ok (.ifCond .ne 49, 3) := by decide +kernel
theorem dX12_desk_132 : decode cX12_desk 132 = .ok (.aload_n 0, 1) := by decide +kernel
theorem dX12_desk_133 : decode cX12_desk 133 = .ok (.getfield 219, 3) := by decide +kernel
theorem dX12_desk_136 : decode cX12_desk 136 = .ok (.ifCond .eq 42, 3) := by decide +kernel
theorem dX12_desk_139 : decode cX12_desk 139 = .ok (.aload_n 0, 1) := by decide +kernel
theorem dX12_desk_140 : decode cX12_desk 140 = .ok (.invokevirtual 272, 3) := by decide +kernel
theorem dX12_desk_143 : decode cX12_desk 143 = .ok (.aload_n 0, 1) := by decide +kernel
theorem dX12_desk_144 : decode cX12_desk 144 = .ok (.getfield 228, 3) := by decide +kernel
theorem dX12_desk_147 : decode cX12_desk 147 = .ok (.ifCond .ne (-22), 3) := by decide +kernel
theorem dX12_desk_150 : decode cX12_desk 150 = .ok (.aload_n 0, 1) := by decide +kernel
theorem dX12_desk_151 : decode cX12_desk 151 = .ok (.aload_n 0, 1) := by decide +kernel
theorem dX12_desk_152 : decode cX12_desk 152 = .ok (.getfield 219, 3) := by decide +kernel
theorem dX12_desk_155 : decode cX12_desk 155 = .ok (.iconst 3, 1) := by decide +kernel
theorem dX12_desk_156 : decode cX12_desk 156 = .ok (.if_icmp .ne 7, 3) := by decide +kernel
theorem dX12_desk_159 : decode cX12_desk 159 = .ok (.iconst 1, 1) := by decide +kernel
theorem dX12_desk_160 : decode cX12_desk 160 = .ok (.goto 4, 3) := by decide +kernel
theorem dX12_desk_163 : decode cX12_desk 163 = .ok (.iconst 0, 1) := by decide +kernel
theorem dX12_desk_164 : decode cX12_desk 164 = .ok (.iconst 1, 1) := by decide +kernel
theorem dX12_desk_165 : decode cX12_desk 165 = .ok (.invokevirtual 231, 3) := by decide +kernel
theorem dX12_desk_168 : decode cX12_desk 168 = .ok (.ifCond .eq (-43), 3) := by decide +kernel
theorem dX12_desk_171 : decode cX12_desk 171 = .ok (.aload_n 0, 1) := by decide +kernel
theorem dX12_desk_172 : decode cX12_desk 172 = .ok (.invokevirtual 238, 3) := by decide +kernel
theorem dX12_desk_175 : decode cX12_desk 175 = .ok (.goto (-50), 3) := by decide +kernel
theorem dX12_desk_178 : decode cX12_desk 178 = .ok (.aload_n 0, 1) := by decide +kernel
theorem dX12_desk_179 : decode cX12_desk 179 = .ok (.getfield 228, 3) := by decide +kernel
theorem dX12_desk_182 : decode cX12_desk 182 = .ok (.ifCond .eq 18, 3) := by decide +kernel
theorem dX12_desk_185 : decode cX12_desk 185 = .ok (.aload_n 0, 1) := by decide +kernel
theorem dX12_desk_186 : decode cX12_desk 186 = .ok (.getfield 19, 3) := by decide +kernel
theorem dX12_desk_189 : decode cX12_desk 189 = .ok (.iconst 0, 1) := by decide +kernel
theorem dX12_desk_190 : decode cX12_desk 190 = .ok (.dup2, 1) := by decide +kernel
theorem dX12_desk_191 : decode cX12_desk 191 = .ok (.iaload, 1) := by decide +kernel
theorem dX12_desk_192 : decode cX12_desk 192 = .ok (.iconst 1, 1) := by decide +kernel
theorem dX12_desk_193 : decode cX12_desk 193 = .ok (.iadd, 1) := by decide +kernel
theorem dX12_desk_194 : decode cX12_desk 194 = .ok (.iastore, 1) := by decide +kernel
theorem dX12_desk_195 : decode cX12_desk 195 = .ok (.aload_n 0, 1) := by decide +kernel
theorem dX12_desk_196 : decode cX12_desk 196 = .ok (.getfield 228, 3) := by decide +kernel
theorem dX12_desk_199 : decode cX12_desk 199 = .ok (.ireturn, 1) := by decide +kernel
set_option maxHeartbeats 4000000 in
theorem c12_desk_125 {G : Gl} {l : Launch} {C : Cx} {M M9 : Mem} {m tp : Int} {r : Int → Int} (hC : CxOK G m12_desk C) (hRm : RmOK C 6) (hlau : C.2.1 = l) (hG : GR M9) (hT : (0 ≤ m ∧ m ≤ tp)) (htp : ∀ j, 0 ≤ j → j < tp → M 62 j = r j % 2 ^ 8) (ht1 : tp ≤ 700) (hr0 : 0 ≤ M 61 0) (hr1 : M 61 0 ≤ 1000000000) (hFg : Fr [73, 74, 75, 76] [(57, 4), (57, 16), (57, 33), (57, 31), (57, 32), (57, 34), (57, 35), (57, 36), (57, 37), (57, 17), (57, 42), (57, 43), (57, 44)] M M9) (hmg : MRS M9 r m (rdI r m 0).2.2) (hTg : ((rdI r m 0).2.2.2.2.2.1 = 0 → TD M9 (rdI r m 0).1 ∧ ALd M9 75 28 (rdI r m 0).1 ∧ ALd M9 76 58 (rdI r m 0).1 ∧ (rdI r m 0).2.1 = flS (M9 57 44))) (h4g : M9 57 4 = 0) (h16g : M9 57 16 = 0) (h33g : M9 57 33 = m) : RZ G LY C (Zn G LY 82 C (RP (fun v M' => (¬ (0 ≤ m ∧ m ≤ tp) ∧ (Fr [] [(57, 4)] M M' ∧ M' 57 4 = 1) ∧ v = 0) ∨ ((0 ≤ m ∧ m ≤ tp) ∧ (M' 57 4 = 0 ∧ M' 57 16 = 0) ∧ ∃ k : Nat, rdZ r m k ∧ M' 57 17 = (rdI r m k).2.2.2.2.2.2 ∧ v = (rdI r m k).2.2.2.2.2.1 ∧ (((rdI r m k).2.2.2.2.2.1 ≠ 0 ∧ Fr [61, 73, 74, 75, 76] [(57, 4), (57, 16), (57, 33), (57, 31), (57, 32), (57, 34), (57, 35), (57, 36), (57, 37), (57, 17), (57, 42), (57, 43), (57, 44)] M M' ∧ M' 61 0 = M 61 0 + 1 ∧ ∀ j, j ≠ 0 → M' 61 j = M 61 j) ∨ ((rdI r m k).2.2.2.2.2.1 = 0 ∧ Fr [58, 59, 73, 74, 75, 76] [(57, 4), (57, 16), (57, 33), (57, 31), (57, 32), (57, 34), (57, 35), (57, 36), (57, 37), (57, 17), (57, 42), (57, 43), (57, 44), (57, 5), (57, 6), (57, 14), (57, 13), (57, 9), (57, 8), (57, 7)] M M' ∧ HI M M' ∧ RW M' 0 (rdI r m k).1 ∧ M' 57 7 = 0 ∧ M' 57 8 = 0 ∧ M' 57 9 = 0 ∧ M' 57 13 = 0)))))) 0 0 82 125 [some (vR 57), some (vI m), none] [] M9 := by
  have L125 : ∀ (mq : Nat) (i : Int) (M3 : Mem), (0 ≤ i) → (i ≤ m) → (GR M3) → (Fr [73, 74, 75, 76] [(57, 4), (57, 16), (57, 33), (57, 31), (57, 32), (57, 34), (57, 35), (57, 36), (57, 37), (57, 17), (57, 42), (57, 43), (57, 44)] M M3) → (MRS M3 r m (rdI r m i.toNat).2.2) → ((rdI r m i.toNat).2.2.2.2.2.1 = 0 → TD M3 (rdI r m i.toNat).1 ∧ ALd M3 75 28 (rdI r m i.toNat).1 ∧ ALd M3 76 58 (rdI r m i.toNat).1 ∧ (rdI r m i.toNat).2.1 = flS (M3 57 44)) → (M3 57 4 = 0) → (M3 57 16 = 0) → (M3 57 33 = m) → (∀ j : Nat, j < i.toNat → (rdI r m j).2.2.2.2.2.1 = 0 ∧ (rdI r m j).2.2.1 ≠ 0) → (m - i).toNat < mq → RZ G LY C (Zn G LY 82 C (RP (fun v M' => (¬ (0 ≤ m ∧ m ≤ tp) ∧ (Fr [] [(57, 4)] M M' ∧ M' 57 4 = 1) ∧ v = 0) ∨ ((0 ≤ m ∧ m ≤ tp) ∧ (M' 57 4 = 0 ∧ M' 57 16 = 0) ∧ ∃ k : Nat, rdZ r m k ∧ M' 57 17 = (rdI r m k).2.2.2.2.2.2 ∧ v = (rdI r m k).2.2.2.2.2.1 ∧ (((rdI r m k).2.2.2.2.2.1 ≠ 0 ∧ Fr [61, 73, 74, 75, 76] [(57, 4), (57, 16), (57, 33), (57, 31), (57, 32), (57, 34), (57, 35), (57, 36), (57, 37), (57, 17), (57, 42), (57, 43), (57, 44)] M M' ∧ M' 61 0 = M 61 0 + 1 ∧ ∀ j, j ≠ 0 → M' 61 j = M 61 j) ∨ ((rdI r m k).2.2.2.2.2.1 = 0 ∧ Fr [58, 59, 73, 74, 75, 76] [(57, 4), (57, 16), (57, 33), (57, 31), (57, 32), (57, 34), (57, 35), (57, 36), (57, 37), (57, 17), (57, 42), (57, 43), (57, 44), (57, 5), (57, 6), (57, 14), (57, 13), (57, 9), (57, 8), (57, 7)] M M' ∧ HI M M' ∧ RW M' 0 (rdI r m k).1 ∧ M' 57 7 = 0 ∧ M' 57 8 = 0 ∧ M' 57 9 = 0 ∧ M' 57 13 = 0)))))) 0 0 82 125 [some (vR 57), some (vI m), none] [] M3 := by
    intro mq
    induction mq with
    | zero =>
      intro i M3 hi0 hi1 hg hF3 hm3 hT3 h43 h163 h333 hZ hm
      exact absurd hm (Nat.not_lt_zero _)
    | succ mq ih125 =>
      intro i M3 hi0 hi1 hg hF3 hm3 hT3 h43 h163 h333 hZ hm125
      have hok := rdI_ok (r := r) hT.1 i.toNat
      have hgi := hok.1
      have hok1 := hok.2.1
      have hok2 := hok.2.2.1
      have hok3 := hok.2.2.2.1
      have hok4 := hok.2.2.2.2
      have htp3 : ∀ j, 0 ≤ j → j < m → M3 62 j = r j % 2 ^ 8 := fun j a b => (hF3 62 j (by decide) (by simp)).trans (htp j a (by omega))
      refine R_aload_0 hC dX12_desk_125 ?_
      have L178 : ((rdI r m i.toNat).2.2.2.2.2.1 ≠ 0 ∨ (rdI r m i.toNat).2.2.1 = 0) → RZ G LY C (Zn G LY 82 C (RP (fun v M' => (¬ (0 ≤ m ∧ m ≤ tp) ∧ (Fr [] [(57, 4)] M M' ∧ M' 57 4 = 1) ∧ v = 0) ∨ ((0 ≤ m ∧ m ≤ tp) ∧ (M' 57 4 = 0 ∧ M' 57 16 = 0) ∧ ∃ k : Nat, rdZ r m k ∧ M' 57 17 = (rdI r m k).2.2.2.2.2.2 ∧ v = (rdI r m k).2.2.2.2.2.1 ∧ (((rdI r m k).2.2.2.2.2.1 ≠ 0 ∧ Fr [61, 73, 74, 75, 76] [(57, 4), (57, 16), (57, 33), (57, 31), (57, 32), (57, 34), (57, 35), (57, 36), (57, 37), (57, 17), (57, 42), (57, 43), (57, 44)] M M' ∧ M' 61 0 = M 61 0 + 1 ∧ ∀ j, j ≠ 0 → M' 61 j = M 61 j) ∨ ((rdI r m k).2.2.2.2.2.1 = 0 ∧ Fr [58, 59, 73, 74, 75, 76] [(57, 4), (57, 16), (57, 33), (57, 31), (57, 32), (57, 34), (57, 35), (57, 36), (57, 37), (57, 17), (57, 42), (57, 43), (57, 44), (57, 5), (57, 6), (57, 14), (57, 13), (57, 9), (57, 8), (57, 7)] M M' ∧ HI M M' ∧ RW M' 0 (rdI r m k).1 ∧ M' 57 7 = 0 ∧ M' 57 8 = 0 ∧ M' 57 9 = 0 ∧ M' 57 13 = 0)))))) 0 0 82 178 [some (vR 57), some (vI m), none] [] M3 := by
        intro  hfin
        have hk9 : rdZ r m i.toNat := ⟨hZ, hfin.elim .inl (fun q => .inr (.inl q))⟩
        refine R_aload_0 hC dX12_desk_178 ?_
        refine R_getIE hC dX12_desk_179 fl_12_228 (by decide) rfl (by decide) (by decide) (fi := 37) rfl hm3.f ?_
        have h61 : M3 61 0 = M 61 0 := hF3 61 0 (by decide) (by simp)
        refine R_if_eq hC dX12_desk_182 (tgt := 200) (by decide) (fun hb182 => ?_) (fun hb182 => ?_)
        · skip
          exact c12_desk_200 hC hRm hlau hg hT hF3 hm3 (⟨(hT3 hb182).1, trivial⟩) h43 h163 hk9 hb182
        · skip
          refine R_aload_0 hC dX12_desk_185 ?_
          refine R_getR hC dX12_desk_186 fl_12_19 (by decide) rfl (by decide) (by decide) (fi := 3) rfl (r := 61) (gr_57_3 hg) ?_
          refine R_iconst hC dX12_desk_189 ⟨by decide, by decide⟩ ?_
          refine R_dup2 hC dX12_desk_190 rfl rfl ?_
          refine R_iaload hC dX12_desk_191 (by decide) rfl (by omega) (by omega) ?_
          refine R_iconst hC dX12_desk_192 ⟨by decide, by decide⟩ ?_
          refine R_iadd hC dX12_desk_193 ⟨by omega, by omega⟩ ?_
          refine R_iastore hC dX12_desk_194 (by decide) rfl (by omega) (by omega) ?_
          refine R_aload_0 hC dX12_desk_195 ?_
          refine R_getIE hC dX12_desk_196 fl_12_228 (by decide) rfl (by decide) (by decide) (fi := 37) rfl ((uM_h (by decide)).trans hm3.f) ?_
          exact R_ireturn hC dX12_desk_199 rfl (ret_P (.inr ⟨hT, ⟨(uM_h (by decide)).trans h43, (uM_h (by decide)).trans h163⟩, i.toNat, hk9, (uM_h (by decide)).trans hm3.p, rfl, .inl ⟨hb182, Fr.uA (hF3.mo (by simp) (by simp)) (by decide), uM_same.trans (congrArg (· + 1) (hF3 61 0 (by decide) (by simp))), fun j e => (uM_k e).trans (hF3 61 j (by decide) (by simp))⟩⟩))
      refine R_getIE hC dX12_desk_126 fl_12_228 (by decide) rfl (by decide) (by decide) (fi := 37) rfl hm3.f ?_
      refine R_if_ne hC dX12_desk_129 (tgt := 178) (by decide) (fun hb129 => ?_) (fun hb129 => ?_)
      · skip
        exact L178  (by first | exact .inl hb129 | exact .inr hb136)
      · skip
        refine R_aload_0 hC dX12_desk_132 ?_
        refine R_getIE hC dX12_desk_133 fl_12_219 (by decide) rfl (by decide) (by decide) (fi := 34) rfl hm3.k ?_
        refine R_if_eq hC dX12_desk_136 (tgt := 178) (by decide) (fun hb136 => ?_) (fun hb136 => ?_)
        · skip
          exact L178  (by first | exact .inl hb129 | exact .inr hb136)
        · skip
          refine R_aload_0 hC dX12_desk_139 ?_
          have hpr := rd_pr hT.1 i.toNat hb129 hb136 hZ
          have hgl := hgi.2.2
          refine R_callVv (as := []) hC dX12_desk_140 mo_12_clause1 ml_12_272 (by decide) rfl rfl (c12_clause1 (s1 := (M3 57 44)) (fl := ((rdI r m i.toNat).2.1)) (d := ((rdI r m i.toNat).1)) (S := ((rdI r m i.toNat).2.2)) hg h333 htp3 (by omega) (by omega) hm3 ((hT3 hb129).1) hb129 (by omega) (by omega) (by omega) (by omega) ((hT3 hb129).2.1) ((hT3 hb129).2.2.1) rfl ((hT3 hb129).2.2.2)) rfl rfl hRm (by decide) (by decide) (Nat.le_of_ble_eq_true rfl) (fun Mc1 hq2 => ?_)
          have hFc : Fr [73, 74, 75, 76] [(57, 4), (57, 16), (57, 33), (57, 31), (57, 32), (57, 34), (57, 35), (57, 36), (57, 37), (57, 17), (57, 42), (57, 43), (57, 44)] M Mc1 := Fr.tt hF3 (hq2.1.mo (by simp) (by simp))
          have hmc : MRS Mc1 r m (cl0 r m (rdI r m i.toNat)).2.2 := hq2.2.1
          have h4c := (hq2.1 57 4 (by decide) (by decide)).trans h43
          have h16c := (hq2.1 57 16 (by decide) (by decide)).trans h163
          have h33c := (hq2.1 57 33 (by decide) (by decide)).trans h333
          refine R_aload_0 hC dX12_desk_143 ?_
          refine R_getIE hC dX12_desk_144 fl_12_228 (by decide) rfl (by decide) (by decide) (fi := 37) rfl hmc.f ?_
          refine R_if_ne hC dX12_desk_147 (tgt := 125) (by decide) (fun hb147 => ?_) (fun hb147 => ?_)
          · skip
            have ec : (rdI r m (i + 1).toNat).2.2 = (cl0 r m (rdI r m i.toNat)).2.2 := by
              rw [rdI_s hi0 rfl]
              exact (clz hgi).1.trans (sg_n hb147)
            have hmn : MRS Mc1 r m (rdI r m (i + 1).toNat).2.2 := by rw [ec]; exact hmc
            have hTn : ((rdI r m (i + 1).toNat).2.2.2.2.2.1 = 0 → TD Mc1 (rdI r m (i + 1).toNat).1 ∧ ALd Mc1 75 28 (rdI r m (i + 1).toNat).1 ∧ ALd Mc1 76 58 (rdI r m (i + 1).toNat).1 ∧ (rdI r m (i + 1).toNat).2.1 = flS (Mc1 57 44)) := fun z => absurd z (by rw [ec]; exact hb147)
            have hFn := hFc
            have h4n := h4c
            have h16n := h16c
            have h33n := h33c
            have hG3 : GR Mc1 := (GR.fr hg hq2.1 (by decide +kernel))
            exact ih125 (i + 1) _ (by omega) (by omega) hG3 hFn hmn hTn h4n h16n h33n (fun j a => by
              by_cases e : j = i.toNat
              · subst e
                exact ⟨hb129, hb136⟩
              · exact hZ j (by omega)) (by omega)
          · skip
            have hf0 := hb147
            have hTD := hq2.2.2 hb147
            refine R_aload_0 hC dX12_desk_150 ?_
            refine R_aload_0 hC dX12_desk_151 ?_
            refine R_getIE hC dX12_desk_152 fl_12_219 (by decide) rfl (by decide) (by decide) (fi := 34) rfl hmc.k ?_
            refine R_iconst hC dX12_desk_155 ⟨by decide, by decide⟩ ?_
            have L164 : ∀ (t : Int), (t = bP ((cl0 r m (rdI r m i.toNat)).2.2.1 = 3)) → RZ G LY C (Zn G LY 82 C (RP (fun v M' => (¬ (0 ≤ m ∧ m ≤ tp) ∧ (Fr [] [(57, 4)] M M' ∧ M' 57 4 = 1) ∧ v = 0) ∨ ((0 ≤ m ∧ m ≤ tp) ∧ (M' 57 4 = 0 ∧ M' 57 16 = 0) ∧ ∃ k : Nat, rdZ r m k ∧ M' 57 17 = (rdI r m k).2.2.2.2.2.2 ∧ v = (rdI r m k).2.2.2.2.2.1 ∧ (((rdI r m k).2.2.2.2.2.1 ≠ 0 ∧ Fr [61, 73, 74, 75, 76] [(57, 4), (57, 16), (57, 33), (57, 31), (57, 32), (57, 34), (57, 35), (57, 36), (57, 37), (57, 17), (57, 42), (57, 43), (57, 44)] M M' ∧ M' 61 0 = M 61 0 + 1 ∧ ∀ j, j ≠ 0 → M' 61 j = M 61 j) ∨ ((rdI r m k).2.2.2.2.2.1 = 0 ∧ Fr [58, 59, 73, 74, 75, 76] [(57, 4), (57, 16), (57, 33), (57, 31), (57, 32), (57, 34), (57, 35), (57, 36), (57, 37), (57, 17), (57, 42), (57, 43), (57, 44), (57, 5), (57, 6), (57, 14), (57, 13), (57, 9), (57, 8), (57, 7)] M M' ∧ HI M M' ∧ RW M' 0 (rdI r m k).1 ∧ M' 57 7 = 0 ∧ M' 57 8 = 0 ∧ M' 57 9 = 0 ∧ M' 57 13 = 0)))))) 0 0 82 164 [some (vR 57), some (vI m), none] [vI t, vR 57] Mc1 := by
              intro t ht3
              refine R_iconst hC dX12_desk_164 ⟨by decide, by decide⟩ ?_
              have hG4 : GR Mc1 := (GR.fr hg hq2.1 (by decide +kernel))
              refine R_callVp (as := [vI _, vI _]) hC dX12_desk_165 mo_12_wants ml_12_231 (by decide) rfl rfl (c12_wants  hG4) rfl rfl hRm (by decide) (by decide) (Nat.le_of_ble_eq_true rfl) (fun v7 Mc5 hq6 => ?_)
              have hmA : MRS Mc5 r m (itc ((cl0 r m (rdI r m i.toNat)).2.2.1 = 3) (cl0 r m (rdI r m i.toNat)).2.2 (refR 1 (cl0 r m (rdI r m i.toNat)).2.2)) := by
                have z := hmc.wt hq6.1 hq6.2.1
                by_cases y : ((cl0 r m (rdI r m i.toNat)).2.2.1 = 3)
                · rw [itc_t y]; rw [if_neg (fun e => bP_z (ht3.symm.trans e) y)] at z; exact z
                · rw [itc_f y]; rw [if_pos (ht3.trans (bP_neg y))] at z; exact z
              have hvv : v7 = bP ((cl0 r m (rdI r m i.toNat)).2.2.1 = 3) := by
                rw [hq6.2.2, hmA.f]
                by_cases z : ((cl0 r m (rdI r m i.toNat)).2.2.1 = 3)
                · rw [itc_t z, bP_pos z, bP_pos hf0]
                · rw [itc_f z, bP_neg z, bP_neg (rf_nz (by decide))]
              have h4a := (hq6.1 57 4 (by decide) (by decide)).trans h4c
              have h16a := (hq6.1 57 16 (by decide) (by decide)).trans h16c
              have h33a := (hq6.1 57 33 (by decide) (by decide)).trans h33c
              have hFa : Fr [73, 74, 75, 76] [(57, 4), (57, 16), (57, 33), (57, 31), (57, 32), (57, 34), (57, 35), (57, 36), (57, 37), (57, 17), (57, 42), (57, 43), (57, 44)] M Mc5 := Fr.tt hFc (hq6.1.mo (by simp) (by simp))
              refine R_if_eq hC dX12_desk_168 (tgt := 125) (by decide) (fun hb168 => ?_) (fun hb168 => ?_)
              · skip
                have hn3 : ¬ ((cl0 r m (rdI r m i.toNat)).2.2.1 = 3) := bP_z (hvv.symm.trans hb168)
                have ec : (rdI r m (i + 1).toNat).2.2 = refR 1 (cl0 r m (rdI r m i.toNat)).2.2 := by
                  rw [rdI_s hi0 rfl]
                  exact (clz hgi).1.trans ((if_pos hf0).trans (if_neg hn3))
                have hmn : MRS Mc5 r m (rdI r m (i + 1).toNat).2.2 := by
                  rw [ec]
                  rw [itc_f hn3] at hmA
                  exact hmA
                have hTn : ((rdI r m (i + 1).toNat).2.2.2.2.2.1 = 0 → TD Mc5 (rdI r m (i + 1).toNat).1 ∧ ALd Mc5 75 28 (rdI r m (i + 1).toNat).1 ∧ ALd Mc5 76 58 (rdI r m (i + 1).toNat).1 ∧ (rdI r m (i + 1).toNat).2.1 = flS (Mc5 57 44)) := fun z => absurd z (by rw [ec]; exact rf_nz (by decide))
                have hFn : Fr [73, 74, 75, 76] [(57, 4), (57, 16), (57, 33), (57, 31), (57, 32), (57, 34), (57, 35), (57, 36), (57, 37), (57, 17), (57, 42), (57, 43), (57, 44)] M Mc5 := Fr.tt hFc (hq6.1.mo (by simp) (by simp))
                have h4n := h4a
                have h16n := h16a
                have h33n := h33a
                have hG8 : GR Mc5 := (GR.fr hG4 hq6.1 (by decide +kernel))
                exact ih125 (i + 1) _ (by omega) (by omega) hG8 hFn hmn hTn h4n h16n h33n (fun j a => by
                  by_cases e : j = i.toNat
                  · subst e
                    exact ⟨hb129, hb136⟩
                  · exact hZ j (by omega)) (by omega)
              · skip
                have hi3 : ((cl0 r m (rdI r m i.toNat)).2.2.1 = 3) := bP_nz (fun z => hb168 (hvv.trans z))
                have hma : MRS Mc5 r m (cl0 r m (rdI r m i.toNat)).2.2 := by rw [itc_t hi3] at hmA; exact hmA
                refine R_aload_0 hC dX12_desk_171 ?_
                have hge := hma.2.2
                have hg0 := hge.1
                have hg1_ := hge.2.1
                have hg2_ := hge.2.2
                have hG9 : GR Mc5 := (GR.fr hG4 hq6.1 (by decide +kernel))
                refine R_callVv (as := []) hC dX12_desk_172 mo_12_go ml_12_238 (by decide) rfl rfl (c12_go (e := ((cl0 r m (rdI r m i.toNat)).2.2.2.2.1)) hG9 h33a (fun j a b => ((hq6.1 62 j (by decide) (by simp)).trans ((hq2.1 62 j (by decide) (by simp)).trans (htp3 j a b)))) (by omega) (by omega) hma.e (by omega) (by omega)) rfl rfl hRm (by decide) (by decide) (Nat.le_of_ble_eq_true rfl) (fun Mc10 hq11 => ?_)
                have hFn : Fr [73, 74, 75, 76] [(57, 4), (57, 16), (57, 33), (57, 31), (57, 32), (57, 34), (57, 35), (57, 36), (57, 37), (57, 17), (57, 42), (57, 43), (57, 44)] M Mc10 := Fr.tt hFa (hq11.1.mo (by simp) (by simp))
                have h4n := (hq11.1 57 4 (by decide) (by decide)).trans h4a
                have h16n := (hq11.1 57 16 (by decide) (by decide)).trans h16a
                have h33n := (hq11.1 57 33 (by decide) (by decide)).trans h33a
                have hmk := hma.go hq11.1 hq11.2
                have es : sgR r m (cl0 r m (rdI r m i.toNat)).2.2 = nxR r m (cl0 r m (rdI r m i.toNat)).2.2 := (if_pos hf0).trans (if_pos hi3)
                have ec : (rdI r m (i + 1).toNat).2.2 = nxR r m (cl0 r m (rdI r m i.toNat)).2.2 := by
                  rw [rdI_s hi0 rfl]
                  exact (clz hgi).1.trans es
                have hmn : MRS Mc10 r m (rdI r m (i + 1).toNat).2.2 := by rw [ec]; exact hmk
                have hTn : ((rdI r m (i + 1).toNat).2.2.2.2.2.1 = 0 → TD Mc10 (rdI r m (i + 1).toNat).1 ∧ ALd Mc10 75 28 (rdI r m (i + 1).toNat).1 ∧ ALd Mc10 76 58 (rdI r m (i + 1).toNat).1 ∧ (rdI r m (i + 1).toNat).2.1 = flS (Mc10 57 44)) := fun z => by
                  have hfr : ∀ (a : Nat) (j : Int), a ≠ 57 ∨ (j = 42 ∨ j = 43 ∨ j = 44) → Mc10 a j = (_ : Mem) a j := fun a j p => (hq11.1 a j (by simp) (by simp; omega)).trans (hq6.1 a j (by simp) (by simp; omega))
                  have y := (clz (r := r) (n := m) hgi).2
                  have z2 := z
                  rw [rdI_s hi0 rfl] at z2 ⊢
                  have w := y z2
                  show TD _ (clR r m (rdI r m i.toNat)).1 ∧ ALd _ 75 28 (clR r m (rdI r m i.toNat)).1 ∧ ALd _ 76 58 (clR r m (rdI r m i.toNat)).1 ∧ (clR r m (rdI r m i.toNat)).2.1 = _
                  rw [w.1, w.2]
                  refine ⟨(hTD.1.fr hq6.1 (by decide)).fr hq11.1 (by decide), fun q a b => (hfr 75 q (.inl (by decide))).trans (hTD.2.1 q a b), fun q a b => (hfr 76 q (.inl (by decide))).trans (hTD.2.2.1 q a b), ?_⟩
                  rw [hfr 57 44 (.inr (.inr (.inr rfl)))]
                  exact hTD.2.2.2
                refine R_goto hC dX12_desk_175 (tgt := 125) (by decide) ?_
                have hG12 : GR Mc10 := (GR.fr hG9 hq11.1 (by decide +kernel))
                exact ih125 (i + 1) _ (by omega) (by omega) hG12 hFn hmn hTn h4n h16n h33n (fun j a => by
                  by_cases e : j = i.toNat
                  · subst e
                    exact ⟨hb129, hb136⟩
                  · exact hZ j (by omega)) (by omega)
            refine R_icmp_ne hC dX12_desk_156 (tgt := 163) (by decide) (fun hb156 => ?_) (fun hb156 => ?_)
            · skip
              refine R_iconst hC dX12_desk_163 ⟨by decide, by decide⟩ ?_
              exact L164 _ (by first | exact (bP_pos (by first | assumption | omega)).symm | exact (bP_neg (by first | assumption | omega)).symm)
            · skip
              refine R_iconst hC dX12_desk_159 ⟨by decide, by decide⟩ ?_
              refine R_goto hC dX12_desk_160 (tgt := 164) (by decide) ?_
              exact L164 _ (by first | exact (bP_pos (by first | assumption | omega)).symm | exact (bP_neg (by first | assumption | omega)).symm)
  exact L125 _ 0 _ (by omega) (by omega) hG hFg hmg hTg h4g h16g h33g (fun j a => absurd a (Nat.not_lt_zero j)) (Nat.lt_succ_self _)
theorem dX12_desk_0 : decode cX12_desk 0 = .ok (.aload_n 0, 1) := by decide +kernel
theorem dX12_desk_1 : decode cX12_desk 1 = .ok (.iconst 0, 1) := by decide +kernel
theorem dX12_desk_2 : decode cX12_desk 2 = .ok (.putfield 84, 3) := by decide +kernel
theorem dX12_desk_5 : decode cX12_desk 5 = .ok (.aload_n 0, 1) := by decide +kernel
theorem dX12_desk_6 : decode cX12_desk 6 = .ok (.iload_n 1, 1) := by decide +kernel
theorem dX12_desk_7 : decode cX12_desk 7 = .ok (.ifCond .lt 15, 3) := by decide +kernel
theorem dX12_desk_10 : decode cX12_desk 10 = .ok (.iload_n 1, 1) := by decide +kernel
theorem dX12_desk_11 : decode cX12_desk 11 = .ok (.aload_n 0, 1) := by decide +kernel
theorem dX12_desk_12 : decode cX12_desk 12 = .ok (.getfield 266, 3) := by decide +kernel
theorem dX12_desk_15 : decode cX12_desk 15 = .ok (.if_icmp .gt 7, 3) := by decide +kernel
theorem dX12_desk_18 : decode cX12_desk 18 = .ok (.iconst 1, 1) := by decide +kernel
theorem dX12_desk_19 : decode cX12_desk 19 = .ok (.goto 4, 3) := by decide +kernel
theorem dX12_desk_22 : decode cX12_desk 22 = .ok (.iconst 0, 1) := by decide +kernel
theorem dX12_desk_23 : decode cX12_desk 23 = .ok (.iconst 1, 1) := by decide +kernel
theorem dX12_desk_24 : decode cX12_desk 24 = .ok (.invokevirtual 269, 3) := by decide +kernel
theorem dX12_desk_27 : decode cX12_desk 27 = .ok (.ifCond .ne 5, 3) := by decide +kernel
theorem dX12_desk_30 : decode cX12_desk 30 = .ok (.iconst 0, 1) := by decide +kernel
theorem dX12_desk_31 : decode cX12_desk 31 = .ok (.ireturn, 1) := by decide +kernel
theorem dX12_desk_32 : decode cX12_desk 32 = .ok (.aload_n 0, 1) := by decide +kernel
theorem dX12_desk_33 : decode cX12_desk 33 = .ok (.iconst 0, 1) := by decide +kernel
theorem dX12_desk_34 : decode cX12_desk 34 = .ok (.putfield 266, 3) := by decide +kernel
theorem dX12_desk_37 : decode cX12_desk 37 = .ok (.aload_n 0, 1) := by decide +kernel
theorem dX12_desk_38 : decode cX12_desk 38 = .ok (.iload_n 1, 1) := by decide +kernel
theorem dX12_desk_39 : decode cX12_desk 39 = .ok (.putfield 197, 3) := by decide +kernel
theorem dX12_desk_42 : decode cX12_desk 42 = .ok (.aload_n 0, 1) := by decide +kernel
theorem dX12_desk_43 : decode cX12_desk 43 = .ok (.iconst 0, 1) := by decide +kernel
theorem dX12_desk_44 : decode cX12_desk 44 = .ok (.putfield 207, 3) := by decide +kernel
theorem dX12_desk_47 : decode cX12_desk 47 = .ok (.aload_n 0, 1) := by decide +kernel
theorem dX12_desk_48 : decode cX12_desk 48 = .ok (.iconst 0, 1) := by decide +kernel
theorem dX12_desk_49 : decode cX12_desk 49 = .ok (.putfield 228, 3) := by decide +kernel
theorem dX12_desk_52 : decode cX12_desk 52 = .ok (.aload_n 0, 1) := by decide +kernel
theorem dX12_desk_53 : decode cX12_desk 53 = .ok (.iconst (-1), 1) := by decide +kernel
theorem dX12_desk_54 : decode cX12_desk 54 = .ok (.putfield 25, 3) := by decide +kernel
theorem dX12_desk_57 : decode cX12_desk 57 = .ok (.aload_n 0, 1) := by decide +kernel
theorem dX12_desk_58 : decode cX12_desk 58 = .ok (.aload_n 0, 1) := by decide +kernel
theorem dX12_desk_59 : decode cX12_desk 59 = .ok (.iconst 0, 1) := by decide +kernel
theorem dX12_desk_60 : decode cX12_desk 60 = .ok (.dup_x1, 1) := by decide +kernel
theorem dX12_desk_61 : decode cX12_desk 61 = .ok (.putfield 247, 3) := by decide +kernel
theorem dX12_desk_64 : decode cX12_desk 64 = .ok (.putfield 241, 3) := by decide +kernel
theorem dX12_desk_67 : decode cX12_desk 67 = .ok (.aload_n 0, 1) := by decide +kernel
theorem dX12_desk_68 : decode cX12_desk 68 = .ok (.iconst (-1), 1) := by decide +kernel
theorem dX12_desk_69 : decode cX12_desk 69 = .ok (.putfield 250, 3) := by decide +kernel
theorem dX12_desk_72 : decode cX12_desk 72 = .ok (.iconst 0, 1) := by decide +kernel
theorem dX12_desk_73 : decode cX12_desk 73 = .ok (.istore_n 2, 1) := by decide +kernel
theorem dX12_desk_74 : decode cX12_desk 74 = .ok (.iload_n 2, 1) := by decide +kernel
theorem dX12_desk_75 : decode cX12_desk 75 = .ok (.bipush 114, 2) := by decide +kernel
theorem dX12_desk_77 : decode cX12_desk 77 = .ok (.if_icmp .ge 16, 3) := by decide +kernel
theorem dX12_desk_80 : decode cX12_desk 80 = .ok (.aload_n 0, 1) := by decide +kernel
theorem dX12_desk_81 : decode cX12_desk 81 = .ok (.getfield 59, 3) := by decide +kernel
theorem dX12_desk_84 : decode cX12_desk 84 = .ok (.iload_n 2, 1) := by decide +kernel
theorem dX12_desk_85 : decode cX12_desk 85 = .ok (.iconst 0, 1) := by decide +kernel
theorem dX12_desk_86 : decode cX12_desk 86 = .ok (.iastore, 1) := by decide +kernel
theorem dX12_desk_87 : decode cX12_desk 87 = .ok (.iinc 2 1, 3) := by decide +kernel
theorem dX12_desk_90 : decode cX12_desk 90 = .ok (.goto (-16), 3) := by decide +kernel
theorem dX12_desk_93 : decode cX12_desk 93 = .ok (.iconst 0, 1) := by decide +kernel
theorem dX12_desk_94 : decode cX12_desk 94 = .ok (.istore_n 2, 1) := by decide +kernel
theorem dX12_desk_95 : decode cX12_desk 95 = .ok (.iload_n 2, 1) := by decide +kernel
theorem dX12_desk_96 : decode cX12_desk 96 = .ok (.bipush 30, 2) := by decide +kernel
theorem dX12_desk_98 : decode cX12_desk 98 = .ok (.if_icmp .ge 23, 3) := by decide +kernel
theorem dX12_desk_101 : decode cX12_desk 101 = .ok (.aload_n 0, 1) := by decide +kernel
theorem dX12_desk_102 : decode cX12_desk 102 = .ok (.getfield 65, 3) := by decide +kernel
theorem dX12_desk_105 : decode cX12_desk 105 = .ok (.iload_n 2, 1) := by decide +kernel
theorem dX12_desk_106 : decode cX12_desk 106 = .ok (.aload_n 0, 1) := by decide +kernel
theorem dX12_desk_107 : decode cX12_desk 107 = .ok (.getfield 69, 3) := by decide +kernel
theorem dX12_desk_110 : decode cX12_desk 110 = .ok (.iload_n 2, 1) := by decide +kernel
theorem dX12_desk_111 : decode cX12_desk 111 = .ok (.iconst 0, 1) := by decide +kernel
theorem dX12_desk_112 : decode cX12_desk 112 = .ok (.dup_x2, 1) := by decide +kernel
theorem dX12_desk_113 : decode cX12_desk 113 = .ok (.bastore, 1) := by decide +kernel
theorem dX12_desk_114 : decode cX12_desk 114 = .ok (.bastore, 1) := by decide +kernel
theorem dX12_desk_115 : decode cX12_desk 115 = .ok (.iinc 2 1, 3) := by decide +kernel
theorem dX12_desk_118 : decode cX12_desk 118 = .ok (.goto (-23), 3) := by decide +kernel
theorem dX12_desk_121 : decode cX12_desk 121 = .ok (.aload_n 0, 1) := by decide +kernel
theorem dX12_desk_122 : decode cX12_desk 122 = .ok (.invokevirtual 238, 3) := by decide +kernel
set_option maxHeartbeats 4000000 in
theorem c12_desk {G : Gl} {l : Launch}  {M : Mem} {m tp : Int} {r : Int → Int} (hG : GR M) (htd : M 57 16 = tp) (htp : ∀ j, 0 ≤ j → j < tp → M 62 j = r j % 2 ^ 8) (ht0 : 0 ≤ tp) (ht1 : tp ≤ 700) (hr0 : 0 ≤ M 61 0) (hr1 : M 61 0 ≤ 1000000000) : Ct G LY 82 l 6 m12_desk [vR 57, vI m] M (RP (fun v M' => (¬ (0 ≤ m ∧ m ≤ tp) ∧ (Fr [] [(57, 4)] M M' ∧ M' 57 4 = 1) ∧ v = 0) ∨ ((0 ≤ m ∧ m ≤ tp) ∧ (M' 57 4 = 0 ∧ M' 57 16 = 0) ∧ ∃ k : Nat, rdZ r m k ∧ M' 57 17 = (rdI r m k).2.2.2.2.2.2 ∧ v = (rdI r m k).2.2.2.2.2.1 ∧ (((rdI r m k).2.2.2.2.2.1 ≠ 0 ∧ Fr [61, 73, 74, 75, 76] [(57, 4), (57, 16), (57, 33), (57, 31), (57, 32), (57, 34), (57, 35), (57, 36), (57, 37), (57, 17), (57, 42), (57, 43), (57, 44)] M M' ∧ M' 61 0 = M 61 0 + 1 ∧ ∀ j, j ≠ 0 → M' 61 j = M 61 j) ∨ ((rdI r m k).2.2.2.2.2.1 = 0 ∧ Fr [58, 59, 73, 74, 75, 76] [(57, 4), (57, 16), (57, 33), (57, 31), (57, 32), (57, 34), (57, 35), (57, 36), (57, 37), (57, 17), (57, 42), (57, 43), (57, 44), (57, 5), (57, 6), (57, 14), (57, 13), (57, 9), (57, 8), (57, 7)] M M' ∧ HI M M' ∧ RW M' 0 (rdI r m k).1 ∧ M' 57 7 = 0 ∧ M' 57 8 = 0 ∧ M' 57 9 = 0 ∧ M' 57 13 = 0))))) := by
  refine R_start (by decide +kernel) (Nat.le_of_ble_eq_true rfl) (fun C hC hRm hlau => ?_)
  show RZ G LY C (Zn G LY 82 C (RP (fun v M' => (¬ (0 ≤ m ∧ m ≤ tp) ∧ (Fr [] [(57, 4)] M M' ∧ M' 57 4 = 1) ∧ v = 0) ∨ ((0 ≤ m ∧ m ≤ tp) ∧ (M' 57 4 = 0 ∧ M' 57 16 = 0) ∧ ∃ k : Nat, rdZ r m k ∧ M' 57 17 = (rdI r m k).2.2.2.2.2.2 ∧ v = (rdI r m k).2.2.2.2.2.1 ∧ (((rdI r m k).2.2.2.2.2.1 ≠ 0 ∧ Fr [61, 73, 74, 75, 76] [(57, 4), (57, 16), (57, 33), (57, 31), (57, 32), (57, 34), (57, 35), (57, 36), (57, 37), (57, 17), (57, 42), (57, 43), (57, 44)] M M' ∧ M' 61 0 = M 61 0 + 1 ∧ ∀ j, j ≠ 0 → M' 61 j = M 61 j) ∨ ((rdI r m k).2.2.2.2.2.1 = 0 ∧ Fr [58, 59, 73, 74, 75, 76] [(57, 4), (57, 16), (57, 33), (57, 31), (57, 32), (57, 34), (57, 35), (57, 36), (57, 37), (57, 17), (57, 42), (57, 43), (57, 44), (57, 5), (57, 6), (57, 14), (57, 13), (57, 9), (57, 8), (57, 7)] M M' ∧ HI M M' ∧ RW M' 0 (rdI r m k).1 ∧ M' 57 7 = 0 ∧ M' 57 8 = 0 ∧ M' 57 9 = 0 ∧ M' 57 13 = 0)))))) 0 0 82 0 [some (vR 57), some (vI m), none] [] M
  refine R_aload_0 hC dX12_desk_0 ?_
  refine R_iconst hC dX12_desk_1 ⟨by decide, by decide⟩ ?_
  refine R_putI hC dX12_desk_2 fl_12_84 (by decide) rfl (by decide) (by decide) (fi := 4) rfl ?_
  refine R_aload_0 hC dX12_desk_5 ?_
  refine R_iload_1 hC dX12_desk_6 ?_
  have L23 : ∀ (t : Int), (t = bP (0 ≤ m ∧ m ≤ tp)) → RZ G LY C (Zn G LY 82 C (RP (fun v M' => (¬ (0 ≤ m ∧ m ≤ tp) ∧ (Fr [] [(57, 4)] M M' ∧ M' 57 4 = 1) ∧ v = 0) ∨ ((0 ≤ m ∧ m ≤ tp) ∧ (M' 57 4 = 0 ∧ M' 57 16 = 0) ∧ ∃ k : Nat, rdZ r m k ∧ M' 57 17 = (rdI r m k).2.2.2.2.2.2 ∧ v = (rdI r m k).2.2.2.2.2.1 ∧ (((rdI r m k).2.2.2.2.2.1 ≠ 0 ∧ Fr [61, 73, 74, 75, 76] [(57, 4), (57, 16), (57, 33), (57, 31), (57, 32), (57, 34), (57, 35), (57, 36), (57, 37), (57, 17), (57, 42), (57, 43), (57, 44)] M M' ∧ M' 61 0 = M 61 0 + 1 ∧ ∀ j, j ≠ 0 → M' 61 j = M 61 j) ∨ ((rdI r m k).2.2.2.2.2.1 = 0 ∧ Fr [58, 59, 73, 74, 75, 76] [(57, 4), (57, 16), (57, 33), (57, 31), (57, 32), (57, 34), (57, 35), (57, 36), (57, 37), (57, 17), (57, 42), (57, 43), (57, 44), (57, 5), (57, 6), (57, 14), (57, 13), (57, 9), (57, 8), (57, 7)] M M' ∧ HI M M' ∧ RW M' 0 (rdI r m k).1 ∧ M' 57 7 = 0 ∧ M' 57 8 = 0 ∧ M' 57 9 = 0 ∧ M' 57 13 = 0)))))) 0 0 82 23 [some (vR 57), some (vI m), none] [vI t, vR 57] (uM M 57 4 0) := by
    intro t ht
    refine R_iconst hC dX12_desk_23 ⟨by decide, by decide⟩ ?_
    refine R_callVp (as := [vI _, vI _]) hC dX12_desk_24 mo_12_right ml_12_269 (by decide) rfl rfl (c12_right  ) rfl rfl hRm (by decide) (by decide) (Nat.le_of_ble_eq_true rfl) (fun v3 Mc1 hq2 => ?_)
    refine R_if_ne hC dX12_desk_27 (tgt := 32) (by decide) (fun hb27 => ?_) (fun hb27 => ?_)
    · skip
      have hT : (0 ≤ m ∧ m ≤ tp) := by
        have z := fun e => hb27 (hq2.2.2.trans (bP_neg e))
        rw [hq2.2.1, uM_same, ht] at z
        exact Classical.byContradiction (fun y => z (by rw [if_pos ⟨rfl, bP_neg y⟩]; decide))
      have h40 : Mc1 57 4 = 0 := by
        rw [hq2.2.1, uM_same, ht, if_neg (fun e => bP_z e.2 hT)]
      have hF0 : Fr [73, 75, 76] [(57, 4), (57, 16), (57, 33), (57, 31), (57, 32), (57, 34), (57, 35), (57, 36), (57, 37), (57, 17), (57, 42), (57, 43), (57, 44)] M Mc1 := Fr.tt (Fr.uB Fr.rf (by decide)) (hq2.1.mo (by simp) (by simp))
      refine R_aload_0 hC dX12_desk_32 ?_
      refine R_iconst hC dX12_desk_33 ⟨by decide, by decide⟩ ?_
      refine R_putI hC dX12_desk_34 fl_12_266 (by decide) rfl (by decide) (by decide) (fi := 16) rfl ?_
      refine R_aload_0 hC dX12_desk_37 ?_
      refine R_iload_1 hC dX12_desk_38 ?_
      refine R_putI hC dX12_desk_39 fl_12_197 (by decide) rfl (by decide) (by decide) (fi := 33) rfl ?_
      refine R_aload_0 hC dX12_desk_42 ?_
      refine R_iconst hC dX12_desk_43 ⟨by decide, by decide⟩ ?_
      refine R_putI hC dX12_desk_44 fl_12_207 (by decide) rfl (by decide) (by decide) (fi := 31) rfl ?_
      refine R_aload_0 hC dX12_desk_47 ?_
      refine R_iconst hC dX12_desk_48 ⟨by decide, by decide⟩ ?_
      refine R_putI hC dX12_desk_49 fl_12_228 (by decide) rfl (by decide) (by decide) (fi := 37) rfl ?_
      refine R_aload_0 hC dX12_desk_52 ?_
      refine R_iconst hC dX12_desk_53 ⟨by decide, by decide⟩ ?_
      refine R_putI hC dX12_desk_54 fl_12_25 (by decide) rfl (by decide) (by decide) (fi := 17) rfl ?_
      refine R_aload_0 hC dX12_desk_57 ?_
      refine R_aload_0 hC dX12_desk_58 ?_
      refine R_iconst hC dX12_desk_59 ⟨by decide, by decide⟩ ?_
      refine R_dup_x1 hC dX12_desk_60 rfl rfl ?_
      refine R_putI hC dX12_desk_61 fl_12_247 (by decide) rfl (by decide) (by decide) (fi := 43) rfl ?_
      refine R_putI hC dX12_desk_64 fl_12_241 (by decide) rfl (by decide) (by decide) (fi := 42) rfl ?_
      refine R_aload_0 hC dX12_desk_67 ?_
      refine R_iconst hC dX12_desk_68 ⟨by decide, by decide⟩ ?_
      refine R_putI hC dX12_desk_69 fl_12_250 (by decide) rfl (by decide) (by decide) (fi := 44) rfl ?_
      refine R_iconst hC dX12_desk_72 ⟨by decide, by decide⟩ ?_
      refine R_istore_2 hC dX12_desk_73 rfl ?_
      have L74 : ∀ (mq : Nat) (k : Int) (M1 : Mem), (0 ≤ k) → (k ≤ 114) → (GR M1) → (Fr [73, 75, 76] [(57, 4), (57, 16), (57, 33), (57, 31), (57, 32), (57, 34), (57, 35), (57, 36), (57, 37), (57, 17), (57, 42), (57, 43), (57, 44)] M M1) → (dkF M1 m) → (∀ j, 0 ≤ j → j < k → M1 73 j = 0) → (114 - k).toNat < mq → RZ G LY C (Zn G LY 82 C (RP (fun v M' => (¬ (0 ≤ m ∧ m ≤ tp) ∧ (Fr [] [(57, 4)] M M' ∧ M' 57 4 = 1) ∧ v = 0) ∨ ((0 ≤ m ∧ m ≤ tp) ∧ (M' 57 4 = 0 ∧ M' 57 16 = 0) ∧ ∃ k : Nat, rdZ r m k ∧ M' 57 17 = (rdI r m k).2.2.2.2.2.2 ∧ v = (rdI r m k).2.2.2.2.2.1 ∧ (((rdI r m k).2.2.2.2.2.1 ≠ 0 ∧ Fr [61, 73, 74, 75, 76] [(57, 4), (57, 16), (57, 33), (57, 31), (57, 32), (57, 34), (57, 35), (57, 36), (57, 37), (57, 17), (57, 42), (57, 43), (57, 44)] M M' ∧ M' 61 0 = M 61 0 + 1 ∧ ∀ j, j ≠ 0 → M' 61 j = M 61 j) ∨ ((rdI r m k).2.2.2.2.2.1 = 0 ∧ Fr [58, 59, 73, 74, 75, 76] [(57, 4), (57, 16), (57, 33), (57, 31), (57, 32), (57, 34), (57, 35), (57, 36), (57, 37), (57, 17), (57, 42), (57, 43), (57, 44), (57, 5), (57, 6), (57, 14), (57, 13), (57, 9), (57, 8), (57, 7)] M M' ∧ HI M M' ∧ RW M' 0 (rdI r m k).1 ∧ M' 57 7 = 0 ∧ M' 57 8 = 0 ∧ M' 57 9 = 0 ∧ M' 57 13 = 0)))))) 0 0 82 74 [some (vR 57), some (vI m), some (vI k)] [] M1 := by
        intro mq
        induction mq with
        | zero =>
          intro k M1 hk0 hk1 hg1 hF1 hd1 hz1 hm
          exact absurd hm (Nat.not_lt_zero _)
        | succ mq ih74 =>
          intro k M1 hk0 hk1 hg1 hF1 hd1 hz1 hm74
          refine R_iload_2 hC dX12_desk_74 ?_
          refine R_bipush hC dX12_desk_75 (by decide +kernel) ⟨by decide, by decide⟩ ?_
          refine R_icmp_ge hC dX12_desk_77 (tgt := 93) (by decide) (fun hb77 => ?_) (fun hb77 => ?_)
          · skip
            refine R_iconst hC dX12_desk_93 ⟨by decide, by decide⟩ ?_
            refine R_istore_2 hC dX12_desk_94 rfl ?_
            have L95 : ∀ (mq : Nat) (k : Int) (M2 : Mem), (0 ≤ k) → (k ≤ 30) → (GR M2) → (Fr [73, 75, 76] [(57, 4), (57, 16), (57, 33), (57, 31), (57, 32), (57, 34), (57, 35), (57, 36), (57, 37), (57, 17), (57, 42), (57, 43), (57, 44)] M M2) → (dkF M2 m) → (∀ j, 0 ≤ j → j < 114 → M2 73 j = 0) → (∀ j, 0 ≤ j → j < k → M2 75 j = 0 ∧ M2 76 j = 0) → (30 - k).toNat < mq → RZ G LY C (Zn G LY 82 C (RP (fun v M' => (¬ (0 ≤ m ∧ m ≤ tp) ∧ (Fr [] [(57, 4)] M M' ∧ M' 57 4 = 1) ∧ v = 0) ∨ ((0 ≤ m ∧ m ≤ tp) ∧ (M' 57 4 = 0 ∧ M' 57 16 = 0) ∧ ∃ k : Nat, rdZ r m k ∧ M' 57 17 = (rdI r m k).2.2.2.2.2.2 ∧ v = (rdI r m k).2.2.2.2.2.1 ∧ (((rdI r m k).2.2.2.2.2.1 ≠ 0 ∧ Fr [61, 73, 74, 75, 76] [(57, 4), (57, 16), (57, 33), (57, 31), (57, 32), (57, 34), (57, 35), (57, 36), (57, 37), (57, 17), (57, 42), (57, 43), (57, 44)] M M' ∧ M' 61 0 = M 61 0 + 1 ∧ ∀ j, j ≠ 0 → M' 61 j = M 61 j) ∨ ((rdI r m k).2.2.2.2.2.1 = 0 ∧ Fr [58, 59, 73, 74, 75, 76] [(57, 4), (57, 16), (57, 33), (57, 31), (57, 32), (57, 34), (57, 35), (57, 36), (57, 37), (57, 17), (57, 42), (57, 43), (57, 44), (57, 5), (57, 6), (57, 14), (57, 13), (57, 9), (57, 8), (57, 7)] M M' ∧ HI M M' ∧ RW M' 0 (rdI r m k).1 ∧ M' 57 7 = 0 ∧ M' 57 8 = 0 ∧ M' 57 9 = 0 ∧ M' 57 13 = 0)))))) 0 0 82 95 [some (vR 57), some (vI m), some (vI k)] [] M2 := by
              intro mq
              induction mq with
              | zero =>
                intro k M2 hk0 hk1 hg2 hF2 hd2 hz2 hq2 hm
                exact absurd hm (Nat.not_lt_zero _)
              | succ mq ih95 =>
                intro k M2 hk0 hk1 hg2 hF2 hd2 hz2 hq2 hm95
                refine R_iload_2 hC dX12_desk_95 ?_
                refine R_bipush hC dX12_desk_96 (by decide +kernel) ⟨by decide, by decide⟩ ?_
                refine R_icmp_ge hC dX12_desk_98 (tgt := 121) (by decide) (fun hb98 => ?_) (fun hb98 => ?_)
                · skip
                  refine R_aload_0 hC dX12_desk_121 ?_
                  refine R_callVv (as := []) hC dX12_desk_122 mo_12_go ml_12_238 (by decide) rfl rfl (c12_go (e := (0 : Int)) hg2 hd2.1.1 (fun j a b => (hF2 62 j (by decide) (by simp)).trans (htp j a (by omega))) (by omega) (by omega) hd2.1.2.1 (by omega) (by omega)) rfl rfl hRm (by decide) (by decide) (Nat.le_of_ble_eq_true rfl) (fun Mc4 hq5 => ?_)
                  have hFg : Fr [73, 74, 75, 76] [(57, 4), (57, 16), (57, 33), (57, 31), (57, 32), (57, 34), (57, 35), (57, 36), (57, 37), (57, 17), (57, 42), (57, 43), (57, 44)] M Mc4 := Fr.tt (hF2.mo (by simp) (by simp)) (hq5.1.mo (by simp) (by simp))
                  have hmg : MRS Mc4 r m (rdI r m 0).2.2 := by
                    refine ⟨?_, ⟨hq5.2.2.2.2.1, hq5.2.2.2.2.2⟩, (rdI_ok hT.1 0).1⟩
                    unfold MRD
                    rw [hq5.2.1, hq5.2.2.1, hq5.2.2.2.1, hq5.1 57 37 (by decide) (by decide), hq5.1 57 17 (by decide) (by decide), hd2.1.2.2, hd2.2.1.1]
                    rfl
                  have hTg : TD Mc4 (fun _ => 0) := by
                    refine TD.z (fun j a b => (hq5.1 73 j (by decide) (by simp)).trans (hz2 j a b)) ?_ ?_ ?_
                    · exact (hq5.1 57 42 (by decide) (by decide)).trans hd2.2.1.2.1
                    · exact (hq5.1 57 43 (by decide) (by decide)).trans hd2.2.1.2.2
                    · exact (hq5.1 57 44 (by decide) (by decide)).trans hd2.2.2.1
                  have hA5 : ALd Mc4 75 28 (fun _ => 0) := fun q a b => (hq5.1 75 q (by decide) (by simp)).trans ((hq2 q a (by omega)).1.trans (bP_neg (show ¬ (0 : Int) < 0 by decide)).symm)
                  have hA6 : ALd Mc4 76 58 (fun _ => 0) := fun q a b => (hq5.1 76 q (by decide) (by simp)).trans ((hq2 q a (by omega)).2.trans (bP_neg (show ¬ (0 : Int) < 0 by decide)).symm)
                  have hflg : (0 : Int) = flS (Mc4 57 44) := by
                    rw [(hq5.1 57 44 (by decide) (by decide)).trans hd2.2.2.1]
                    rfl
                  have h4g := (hq5.1 57 4 (by decide) (by decide)).trans hd2.2.2.2.1
                  have h16g := (hq5.1 57 16 (by decide) (by decide)).trans hd2.2.2.2.2
                  have h33g := (hq5.1 57 33 (by decide) (by decide)).trans hd2.1.1
                  have hG6 : GR Mc4 := (GR.fr hg2 hq5.1 (by decide +kernel))
                  refine R_weak (subL_c (subL_c (subL_d subL_n))) ?_
                  exact c12_desk_125 hC hRm hlau hG6 hT htp ht1 hr0 hr1 hFg hmg (fun _ => ⟨hTg, hA5, hA6, hflg⟩) h4g h16g h33g
                · skip
                  refine R_aload_0 hC dX12_desk_101 ?_
                  refine R_getR hC dX12_desk_102 fl_12_65 (by decide) rfl (by decide) (by decide) (fi := 40) rfl (r := 75) (gr_57_40 hg2) ?_
                  refine R_iload_2 hC dX12_desk_105 ?_
                  refine R_aload_0 hC dX12_desk_106 ?_
                  refine R_getR hC dX12_desk_107 fl_12_69 (by decide) rfl (by decide) (by decide) (fi := 41) rfl (r := 76) (gr_57_41 hg2) ?_
                  refine R_iload_2 hC dX12_desk_110 ?_
                  refine R_iconst hC dX12_desk_111 ⟨by decide, by decide⟩ ?_
                  refine R_dup_x2 hC dX12_desk_112 rfl rfl rfl ?_
                  refine R_zastore hC dX12_desk_113 (by decide) rfl (by omega) (by omega) (.inl rfl) ?_
                  refine R_zastore hC dX12_desk_114 (by decide) rfl (by omega) (by omega) (.inl rfl) ?_
                  refine R_iinc_2 hC dX12_desk_115 rfl ⟨by omega, by omega⟩ ?_
                  refine R_goto hC dX12_desk_118 (tgt := 95) (by decide) ?_
                  have hG7 : GR (uM (uM M2 76 k 0) 75 k 0) := (GR.uA (GR.uA hg2 (by decide +kernel) (.inl (by decide))) (by decide +kernel) (.inl (by decide)))
                  exact ih95 _ _ (by omega) (by omega) hG7 (Fr.uA (Fr.uA hF2 (by decide)) (by decide)) ((hd2.u (by decide)).u (by decide)) (fun j a b => (uM_h (by decide)).trans ((uM_h (by decide)).trans (hz2 j a b))) (fun j a b => by
                    by_cases e : j = k
                    · rw [e]; exact ⟨uM_same, (uM_h (by decide)).trans uM_same⟩
                    · exact ⟨(uM_k e).trans ((uM_h (by decide)).trans (hq2 j a (by omega)).1), (uM_h (by decide)).trans ((uM_k e).trans (hq2 j a (by omega)).2)⟩) (by omega)
            exact L95 _ _ _ (by omega) (by omega) hg1 hF1 hd1 (fun j a b => hz1 j a (by omega)) (fun j a b => by omega) (Nat.lt_succ_self _)
          · skip
            refine R_aload_0 hC dX12_desk_80 ?_
            refine R_getR hC dX12_desk_81 fl_12_59 (by decide) rfl (by decide) (by decide) (fi := 38) rfl (r := 73) (gr_57_38 hg1) ?_
            refine R_iload_2 hC dX12_desk_84 ?_
            refine R_iconst hC dX12_desk_85 ⟨by decide, by decide⟩ ?_
            refine R_iastore hC dX12_desk_86 (by decide) rfl (by omega) (by omega) ?_
            refine R_iinc_2 hC dX12_desk_87 rfl ⟨by omega, by omega⟩ ?_
            refine R_goto hC dX12_desk_90 (tgt := 74) (by decide) ?_
            have hG8 : GR (uM M1 73 k 0) := (GR.uA hg1 (by decide +kernel) (.inl (by decide)))
            exact ih74 _ _ (by omega) (by omega) hG8 (Fr.uA hF1 (by decide)) (hd1.u (by decide)) (fun j a b => by
              by_cases e : j = k
              · rw [e]; exact uM_same
              · exact (uM_k e).trans (hz1 j a (by omega))) (by omega)
      have hG9 : GR (uM (uM (uM (uM (uM (uM (uM (uM Mc1 57 16 0) 57 33 m) 57 31 0) 57 37 0) 57 17 (-1)) 57 43 0) 57 42 0) 57 44 (-1)) := (GR.uF (GR.uF (GR.uF (GR.uF (GR.uF (GR.uF (GR.uF (GR.uF (GR.fr (GR.uF hG (by decide +kernel) (by decide)) hq2.1 (by decide +kernel)) (by decide +kernel) (by decide)) (by decide +kernel) (by decide)) (by decide +kernel) (by decide)) (by decide +kernel) (by decide)) (by decide +kernel) (by decide)) (by decide +kernel) (by decide)) (by decide +kernel) (by decide)) (by decide +kernel) (by decide))
      exact L74 _ _ _ (by omega) (by omega) hG9 (by (repeat (first | (refine Fr.uB ?_ (by decide)))); exact hF0) (by unfold dkF; refine ⟨⟨?_, ?_, ?_⟩, ⟨?_, ?_, ?_⟩, ?_, ?_, ?_⟩ <;> (repeat (first | exact uM_same | exact h40 | (refine (uM_k (by decide)).trans ?_)))) (fun j a b => by omega) (Nat.lt_succ_self _)
    · skip
      have hT : ¬ (0 ≤ m ∧ m ≤ tp) := by
        intro y
        have z := hq2.2.2.symm.trans hb27
        refine bP_z z ?_
        rw [hq2.2.1, uM_same, ht, if_neg (fun e => bP_z e.2 y)]
      have h41 : Mc1 57 4 = 1 := by
        rw [hq2.2.1, uM_same, ht, if_pos ⟨rfl, bP_neg hT⟩]
      refine R_iconst hC dX12_desk_30 ⟨by decide, by decide⟩ ?_
      exact R_ireturn hC dX12_desk_31 rfl (ret_P (.inl ⟨hT, ⟨Fr.tt (Fr.uB Fr.rf (by decide)) hq2.1, h41⟩, rfl⟩))
  refine R_if_lt hC dX12_desk_7 (tgt := 22) (by decide) (fun hb7 => ?_) (fun hb7 => ?_)
  · skip
    refine R_iconst hC dX12_desk_22 ⟨by decide, by decide⟩ ?_
    exact L23 _ (by first | exact (bP_pos (by omega)).symm | exact (bP_neg (by omega)).symm)
  · skip
    refine R_iload_1 hC dX12_desk_10 ?_
    refine R_aload_0 hC dX12_desk_11 ?_
    refine R_getIE hC dX12_desk_12 fl_12_266 (by decide) rfl (by decide) (by decide) (fi := 16) rfl ((uM_k (by decide)).trans htd) ?_
    refine R_icmp_gt hC dX12_desk_15 (tgt := 22) (by decide) (fun hb15 => ?_) (fun hb15 => ?_)
    · skip
      refine R_iconst hC dX12_desk_22 ⟨by decide, by decide⟩ ?_
      exact L23 _ (by first | exact (bP_pos (by omega)).symm | exact (bP_neg (by omega)).symm)
    · skip
      refine R_iconst hC dX12_desk_18 ⟨by decide, by decide⟩ ?_
      refine R_goto hC dX12_desk_19 (tgt := 23) (by decide) ?_
      exact L23 _ (by first | exact (bP_pos (by omega)).symm | exact (bP_neg (by omega)).symm)
