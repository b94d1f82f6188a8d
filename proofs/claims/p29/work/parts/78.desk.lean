abbrev mW_desk : Mt := (yL_desk, cL_desk, 5, (some FieldType.int))
theorem dW_desk_17 : decode cL_desk 17 = .ok (.iload 4, 2) := by decide +kernel
theorem dW_desk_19 : decode cL_desk 19 = .ok (.bipush 20, 2) := by decide +kernel
theorem dW_desk_21 : decode cL_desk 21 = .ok (.if_icmp .ge 53, 3) := by decide +kernel
theorem dW_desk_66 : decode cL_desk 66 = .ok (.ior, 1) := by decide +kernel
theorem dW_desk_67 : decode cL_desk 67 = .ok (.iastore, 1) := by decide +kernel
theorem dW_desk_68 : decode cL_desk 68 = .ok (.iinc 4 1, 3) := by decide +kernel
theorem dW_desk_71 : decode cL_desk 71 = .ok (.goto (-54), 3) := by decide +kernel
theorem dW_desk_24 : decode cL_desk 24 = .ok (.aload_n 3, 1) := by decide +kernel
theorem dW_desk_25 : decode cL_desk 25 = .ok (.iload 4, 2) := by decide +kernel
theorem dW_desk_27 : decode cL_desk 27 = .ok (.iconst 4, 1) := by decide +kernel
theorem dW_desk_28 : decode cL_desk 28 = .ok (.idiv, 1) := by decide +kernel
theorem dW_desk_29 : decode cL_desk 29 = .ok (.aload_n 3, 1) := by decide +kernel
theorem dW_desk_30 : decode cL_desk 30 = .ok (.iload 4, 2) := by decide +kernel
theorem dW_desk_32 : decode cL_desk 32 = .ok (.iconst 4, 1) := by decide +kernel
theorem dW_desk_33 : decode cL_desk 33 = .ok (.idiv, 1) := by decide +kernel
theorem dW_desk_34 : decode cL_desk 34 = .ok (.iaload, 1) := by decide +kernel
theorem dW_desk_35 : decode cL_desk 35 = .ok (.bipush 8, 2) := by decide +kernel
theorem dW_desk_37 : decode cL_desk 37 = .ok (.ishl, 1) := by decide +kernel
theorem dW_desk_38 : decode cL_desk 38 = .ok (.iload_n 2, 1) := by decide +kernel
theorem dW_desk_39 : decode cL_desk 39 = .ok (.iload 4, 2) := by decide +kernel
theorem dW_desk_41 : decode cL_desk 41 = .ok (.iadd, 1) := by decide +kernel
theorem dW_desk_42 : decode cL_desk 42 = .ok (.aload_n 1, 1) := by decide +kernel
theorem dW_desk_43 : decode cL_desk 43 = .ok (.invokevirtual 8, 3) := by decide +kernel
theorem mlW_8 : Cond.methodLink RL 8 mS_length_8abf5.1 ∈ Ts := Ts_in (in_t4 _ (List.mem_of_getElem? (i := 103) rfl)) rfl
theorem dW_desk_46 : decode cL_desk 46 = .ok (.if_icmp .ge 18, 3) := by decide +kernel
theorem dW_desk_64 : decode cL_desk 64 = .ok (.bipush 32, 2) := by decide +kernel
theorem dW_desk_49 : decode cL_desk 49 = .ok (.aload_n 1, 1) := by decide +kernel
theorem dW_desk_50 : decode cL_desk 50 = .ok (.iload_n 2, 1) := by decide +kernel
theorem dW_desk_51 : decode cL_desk 51 = .ok (.iload 4, 2) := by decide +kernel
theorem dW_desk_53 : decode cL_desk 53 = .ok (.iadd, 1) := by decide +kernel
theorem dW_desk_54 : decode cL_desk 54 = .ok (.invokevirtual 14, 3) := by decide +kernel
abbrev mS_charAt_5068e : Mt := (yJ0_charAt_5068e, cJ0_charAt_5068e, 2, (some FieldType.char))
theorem mlW_14 : Cond.methodLink RL 14 mS_charAt_5068e.1 ∈ Ts := Ts_in (in_t4 _ (List.mem_of_getElem? (i := 113) rfl)) rfl
theorem dW_desk_57 : decode cL_desk 57 = .ok (.sipush 255, 3) := by decide +kernel
theorem dW_desk_60 : decode cL_desk 60 = .ok (.iand, 1) := by decide +kernel
theorem dW_desk_61 : decode cL_desk 61 = .ok (.goto 5, 3) := by decide +kernel
theorem dW_desk_0 : decode cL_desk 0 = .ok (.iconst 0, 1) := by decide +kernel
theorem dW_desk_1 : decode cL_desk 1 = .ok (.istore_n 2, 1) := by decide +kernel
theorem dW_desk_2 : decode cL_desk 2 = .ok (.iload_n 2, 1) := by decide +kernel
theorem dW_desk_3 : decode cL_desk 3 = .ok (.aload_n 1, 1) := by decide +kernel
theorem dW_desk_4 : decode cL_desk 4 = .ok (.invokevirtual 8, 3) := by decide +kernel
theorem dW_desk_7 : decode cL_desk 7 = .ok (.if_icmp .ge 93, 3) := by decide +kernel
theorem dW_desk_100 : decode cL_desk 100 = .ok (.aload_n 0, 1) := by decide +kernel
theorem dW_desk_101 : decode cL_desk 101 = .ok (.aload_n 1, 1) := by decide +kernel
theorem dW_desk_102 : decode cL_desk 102 = .ok (.invokevirtual 8, 3) := by decide +kernel
theorem dW_desk_105 : decode cL_desk 105 = .ok (.invokevirtual 24, 3) := by decide +kernel
theorem mlW_24 : Cond.methodLink RL 24 m11_desk.1 ∈ Ts := Ts_in (in_t4 _ (List.mem_of_getElem? (i := 159) rfl)) rfl
theorem dW_desk_108 : decode cL_desk 108 = .ok (.ireturn, 1) := by decide +kernel
theorem dW_desk_10 : decode cL_desk 10 = .ok (.iconst 5, 1) := by decide +kernel
theorem dW_desk_11 : decode cL_desk 11 = .ok (.newarray .int, 2) := by decide +kernel
theorem dW_desk_13 : decode cL_desk 13 = .ok (.astore_n 3, 1) := by decide +kernel
theorem dW_desk_14 : decode cL_desk 14 = .ok (.iconst 0, 1) := by decide +kernel
theorem dW_desk_15 : decode cL_desk 15 = .ok (.istore 4, 2) := by decide +kernel
theorem dW_desk_74 : decode cL_desk 74 = .ok (.aload_n 0, 1) := by decide +kernel
theorem dW_desk_75 : decode cL_desk 75 = .ok (.aload_n 3, 1) := by decide +kernel
theorem dW_desk_76 : decode cL_desk 76 = .ok (.iconst 0, 1) := by decide +kernel
theorem dW_desk_77 : decode cL_desk 77 = .ok (.iaload, 1) := by decide +kernel
theorem dW_desk_78 : decode cL_desk 78 = .ok (.aload_n 3, 1) := by decide +kernel
theorem dW_desk_79 : decode cL_desk 79 = .ok (.iconst 1, 1) := by decide +kernel
theorem dW_desk_80 : decode cL_desk 80 = .ok (.iaload, 1) := by decide +kernel
theorem dW_desk_81 : decode cL_desk 81 = .ok (.aload_n 3, 1) := by decide +kernel
theorem dW_desk_82 : decode cL_desk 82 = .ok (.iconst 2, 1) := by decide +kernel
theorem dW_desk_83 : decode cL_desk 83 = .ok (.iaload, 1) := by decide +kernel
theorem dW_desk_84 : decode cL_desk 84 = .ok (.aload_n 3, 1) := by decide +kernel
theorem dW_desk_85 : decode cL_desk 85 = .ok (.iconst 3, 1) := by decide +kernel
theorem dW_desk_86 : decode cL_desk 86 = .ok (.iaload, 1) := by decide +kernel
theorem dW_desk_87 : decode cL_desk 87 = .ok (.aload_n 3, 1) := by decide +kernel
theorem dW_desk_88 : decode cL_desk 88 = .ok (.iconst 4, 1) := by decide +kernel
theorem dW_desk_89 : decode cL_desk 89 = .ok (.iaload, 1) := by decide +kernel
theorem dW_desk_90 : decode cL_desk 90 = .ok (.invokevirtual 18, 3) := by decide +kernel
theorem mlW_18 : Cond.methodLink RL 18 m11_feed.1 ∈ Ts := Ts_in (in_t4 _ (List.mem_of_getElem? (i := 151) rfl)) rfl
theorem dW_desk_93 : decode cL_desk 93 = .ok (.pop, 1) := by decide +kernel
theorem dW_desk_94 : decode cL_desk 94 = .ok (.iinc 2 20, 3) := by decide +kernel
theorem dW_desk_97 : decode cL_desk 97 = .ok (.goto (-95), 3) := by decide +kernel
/-! the law's desk: the text on the tape -/
theorem fr_x {A : List Nat} {B : List (Nat × Int)} {M M' : Mem} (hF : Fr A B M M') : Fr A B M (mg M M') := fun h k a b => by
  show (if h < 57 then M' h k else M h k) = M h k
  split
  · exact hF h k a b
  · rfl
theorem GR.lo {M M' : Mem} (hG : GR M) (h : ∀ a, a < 57 → M' a = M a) : GR M' := by
  refine ⟨fun q hq => ?_, fun c hc k hk => ?_⟩
  · have z : refL.all (fun q => decide (q.1 < 57)) = true := by decide +kernel
    rw [h q.1 (of_decide_eq_true (List.all_eq_true.mp z q hq))]
    exact hG.1 q hq
  · have z : stC.all (fun c => decide (c < 57)) = true := by decide +kernel
    rw [h c (of_decide_eq_true (List.all_eq_true.mp z c hc))]
    exact hG.2 c hc k hk
theorem GR.mg {M M' : Mem} (hG : GR M') : GR (mg M M') := hG.lo (fun _ e => mg_lo e)
theorem FP.lo {M M' : Mem} {d : Int → Int} (hF : FP M d) (h : ∀ a, a < 57 → M' a = M a) : FP M' d := fun z => by
  rw [h 0 (by decide)] at z
  have p := hF z
  unfold PLN at p ⊢
  rw [h 36 (by decide), h 37 (by decide)]
  exact p
theorem FP.mg {M M' : Mem} {d : Int → Int} (hF : FP M' d) : FP (mg M M') d := hF.lo (fun _ e => mg_lo e)
/-- the references of the class's part are still below -/
theorem RB.fr {S : Sh} {n : Nat} {M M' : Mem} {A : List Nat} {B X : List (Nat × Int)} (e : EX S n) (rb : RB S n M) (hF : Fr A B M M') (hA : A.all (fun a => decide (14 ≤ (LY.1 a).1)) = true) (hB : B.all (fun p => X.contains p || decide (14 ≤ (LY.1 p.1).1) || decide (LY.2 (LY.1 p.1).1 p.2.toNat < 2)) = true) (hX : ∀ p ∈ X, M' p.1 p.2 < n) : RB S n (mg M M') := fun h k hh c t => by
  by_cases h57 : h < 57
  · rw [mg_lo h57]
    have c2 := c
    have t2 := t
    rw [e.2.1 h h57] at c2
    rw [e.2.1 h h57, e.2.2.1] at t2
    by_cases ha : h ∈ A
    · have := of_decide_eq_true (List.all_eq_true.mp hA h ha)
      omega
    by_cases hb : (h, (k : Int)) ∈ B
    · have z := List.all_eq_true.mp hB _ hb
      by_cases hx : (h, (k : Int)) ∈ X
      · exact hX _ hx
      · have z2 : X.contains (h, (k : Int)) = false := by
          cases e : X.contains (h, (k : Int)) with
          | false => rfl
          | true => exact absurd (List.contains_iff_mem.mp e) hx
        rw [z2, Bool.false_or, Bool.or_eq_true] at z
        rcases z with z | z
        · have z3 : 14 ≤ (LY.1 h).1 := of_decide_eq_true z
          omega
        · have z := of_decide_eq_true z
          exact absurd z (Nat.not_lt.mpr t2)
    · rw [hF h k ha hb]
      exact rb h k hh c t
  · rw [mg_hi (by omega)]
    exact rb h k hh c t
theorem setR_r {M : Mem} {n a : Nat} {f : Int → Int} (e : a ≠ n) : setR M n f a = M a := funext fun _ => setR_o e
section DCALL
variable {G : Gl} {S : Sh} {C : Cx} {Z : State → Prop} {k w n : Nat} {pc : Nat} {ls : List (Option V)} {st : List V} {M : Mem} {y : Mt} {D kc kw : Nat}
theorem rm_D {d : Nat} {z : Mt} (hRm : C.2.2.2.1 = rmN D kc kw) (hdd : d + 1 ≤ D) (hmx : z.2.2.1 ≤ 21) (hk : k ≤ kc) (hw : w ≤ kw) : d + 1 ≤ C.2.2.2.1.frames ∧ 8 + (z.2.2.1 + 11) + (40 * d + 40) ≤ C.2.2.2.1.locals ∧ k ≤ C.2.2.2.1.cells ∧ w ≤ C.2.2.2.1.slots := by
  rw [hRm]
  exact ⟨hdd, by show 8 + (z.2.2.1 + 11) + (40 * d + 40) ≤ 40 * D + 40; omega, hk, hw⟩
theorem D_vq {d na idx h ci nf : Nat} {z : Mt} {as : List V} {st0 : List V} {v : V} (hC : CxOK G y C) (hRm : C.2.2.2.1 = rmN D kc kw) (hd : decode y.2.1 pc = .ok (.invokevirtual idx, 3)) (hz : MO z na false) (hlk : Cond.methodLink y.1.cls idx z.1 ∈ Ts)
    (hh : h < n) (hk : S.1 h = (ci, nf)) (hci : (vwCl[ci]?).map (fun q => q.1) = some z.1.cls) (hct : Ct G S n C.2.1 d z (vR h :: as) M (Ret v M)) (hst : st0 = as.reverse ++ vR h :: st) (hna : as.length = na)
    (hdd : d + 1 ≤ D) (hmx : z.2.2.1 ≤ 21) (h1 : k ≤ kc) (h2 : w ≤ kw) (hcat : (st.map vcat).sum ≤ 8)
    (kk : RZ G S C Z k w n (pc + 3) ls (v :: st) M) : RZ G S C Z k w n pc ls st0 M :=
  R_callV hC hd hz hlk hh hk hci hct hst hna (rm_D hRm hdd hmx h1 h2) hcat (fun r M' q => by
    obtain ⟨rfl, rfl⟩ := q
    exact kk)
/-- the class's method, from a greater world -/
theorem D_vf {d na idx h ci nf : Nat} {z : Mt} {as : List V} {st0 : List V} {Q : Option V → Mem → Prop} (hC : CxOK G y C) (e : EX S n) (hRm : C.2.2.2.1 = rmN D kc kw) (hd : decode y.2.1 pc = .ok (.invokevirtual idx, 3)) (hz : MO z na false) (hlk : Cond.methodLink y.1.cls idx z.1 ∈ Ts)
    (hh : h < 57) (hk : LY.1 h = (ci, nf)) (hci : (vwCl[ci]?).map (fun q => q.1) = some z.1.cls) (hct : ∀ N, Ct (GN G N) LY 57 C.2.1 d z (vR h :: as) M Q) (hst : st0 = as.reverse ++ vR h :: st) (hna : as.length = na)
    (hdd : d + 1 ≤ D) (hmx : z.2.2.1 ≤ 21) (h1 : k ≤ kc) (h2 : w ≤ kw) (hcat : (st.map vcat).sum ≤ 8)
    (kk : ∀ (r : Option V) (M' : Mem), Q r M' → RZ G S C Z k w n (pc + 3) ls (r.toList ++ st) (mg M M')) : RZ G S C Z k w n pc ls st0 M :=
  R_callVF hC e hd hz hlk hh hk hci hct hst hna (rm_D hRm hdd hmx h1 h2) hcat kk
theorem D_sf {d na idx : Nat} {z : Mt} {as : List V} {st0 : List V} {Q : Option V → Mem → Prop} (hC : CxOK G y C) (e : EX S n) (hRm : C.2.2.2.1 = rmN D kc kw) (hd : decode y.2.1 pc = .ok (.invokestatic idx, 3)) (hz : MO z na true) (hlk : Cond.methodLink y.1.cls idx z.1 ∈ Ts)
    (hct : ∀ N, Ct (GN G N) LY 57 C.2.1 d z as M Q) (hst : st0 = as.reverse ++ st) (hna : as.length = na)
    (hdd : d + 1 ≤ D) (hmx : z.2.2.1 ≤ 21) (h1 : k ≤ kc) (h2 : w ≤ kw) (hcat : (st.map vcat).sum ≤ 8)
    (kk : ∀ (r : Option V) (M' : Mem), Q r M' → RZ G S C Z k w n (pc + 3) ls (r.toList ++ st) (mg M M')) : RZ G S C Z k w n pc ls st0 M :=
  R_callSF hC e hd hz hlk hct hst hna (rm_D hRm hdd hmx h1 h2) hcat kk
end DCALL
/-- the byte of a text, or a space behind it -/
def byT (τ : List Int) (j : Nat) : Int := if j < τ.length then τ.getD j 0 else 32
theorem byT_b {τ : List Int} (h : tx7 τ) (j : Nat) : 0 ≤ byT τ j ∧ byT τ j ≤ 127 := by
  unfold byT
  split
  · rename_i e
    rw [List.getD_eq_getElem?_getD, List.getElem?_eq_getElem e]
    exact h _ (List.getElem_mem e)
  · decide
def wvF (f : Nat → Int) (p : Nat) : Nat → Int
  | 0 => 0
  | m + 1 => wvF f p m * 256 + f (p + m)
theorem wvF_b {f : Nat → Int} (h : ∀ j, 0 ≤ f j ∧ f j ≤ 127) (p m : Nat) (hm : m < 4) : 0 ≤ wvF f p m ∧ wvF f p m ≤ 8355711 := by
  have h0 := h (p + 0)
  have h1 := h (p + 1)
  have h2 := h (p + 2)
  have : m = 0 ∨ m = 1 ∨ m = 2 ∨ m = 3 := by omega
  rcases this with rfl | rfl | rfl | rfl <;> simp only [wvF] <;> omega
theorem wvF_4 {f : Nat → Int} (h : ∀ j, 0 ≤ f j ∧ f j ≤ 127) (p : Nat) (j : Int) (h0 : 0 ≤ j) (h1 : j < 4) : wvF f p 4 / 2 ^ (24 - 8 * j).toNat % 2 ^ 8 = f (p + j.toNat) := by
  have a0 := h (p + 0)
  have a1 := h (p + 1)
  have a2 := h (p + 2)
  have a3 := h (p + 3)
  have : j = 0 ∨ j = 1 ∨ j = 2 ∨ j = 3 := by omega
  rcases this with rfl | rfl | rfl | rfl
  · show ((((0 * 256 + f (p + 0)) * 256 + f (p + 1)) * 256 + f (p + 2)) * 256 + f (p + 3)) / 16777216 % 256 = f (p + 0)
    omega
  · show ((((0 * 256 + f (p + 0)) * 256 + f (p + 1)) * 256 + f (p + 2)) * 256 + f (p + 3)) / 65536 % 256 = f (p + 1)
    omega
  · show ((((0 * 256 + f (p + 0)) * 256 + f (p + 1)) * 256 + f (p + 2)) * 256 + f (p + 3)) / 256 % 256 = f (p + 2)
    omega
  · show ((((0 * 256 + f (p + 0)) * 256 + f (p + 1)) * 256 + f (p + 2)) * 256 + f (p + 3)) / 1 % 256 = f (p + 3)
    omega
theorem or_b {v b : Int} (hv : 0 ≤ v) (h0 : 0 ≤ b) (h1 : b < 256) : (((v * 2 ^ (8 : Int).toNat).toNat ||| b.toNat : Nat) : Int) = v * 256 + b := by
  have e : (v * 2 ^ (8 : Int).toNat).toNat = 2 ^ 8 * v.toNat := by
    show (v * 256).toNat = 256 * v.toNat
    omega
  have z := Nat.two_pow_add_eq_or_of_lt (i := 8) (b := b.toNat) (by show b.toNat < 256; omega) v.toNat
  rw [e, ← z]
  show ((256 * v.toNat + b.toNat : Nat) : Int) = _
  omega

theorem dk_in {g : Nat → Nat} {q : Gq} {S : Sh} {C : Cx} {Z : State → Prop} {n k w p t r : Nat} {M0 : Mem} {τ : List Int} (hC : CxOK (g, q) mW_desk C) (hRm : C.2.2.2.1 = rmN 8 20 100) (hk : k ≤ 20) (hw : w ≤ 100) (e : EX S (n + 1)) (hSn : S.1 n = (20, 5)) (ht : t < n) (hr : r < n) (hlen : τ.length ≤ 400) (hp : p < τ.length)
    (hS0 : ∀ M : Mem, (∀ h, h ≠ n → M h = M0 h) → STG S M t r τ)
    (kE : ∀ M : Mem, (∀ h, h ≠ n → M h = M0 h) → (∀ z : Nat, z < 5 → M n z = wvF (byT τ) (p + 4 * z) 4) → RZ (g, q) S C Z k w (n + 1) 74 [some (vR 0), some (vR t), some (vI (p : Int)), some (vR n), some (vI 20)] [] M) :
    ∀ (mq : Nat) (i : Int) (M : Mem), 0 ≤ i → i ≤ 20 → (∀ h, h ≠ n → M h = M0 h) → (∀ z : Nat, z < 5 → M n z = wvF (byT τ) (p + 4 * z) (min (i.toNat - 4 * z) 4)) → (20 - i).toNat < mq → RZ (g, q) S C Z k w (n + 1) 17 [some (vR 0), some (vR t), some (vI (p : Int)), some (vR n), some (vI i)] [] M := by
  intro mq
  induction mq with
  | zero =>
    intro i M i0 i1 hM hW hm
    exact absurd hm (Nat.not_lt_zero _)
  | succ mq ih =>
    intro i M i0 i1 hM hW hm
    have hS := hS0 M hM
    have h7 := hS.2.2.2.2.2
    have ht2 : t < n + 1 := by omega
    have hr2 : r < n + 1 := by omega
    refine R_iload_4 hC dW_desk_17 ?_
    refine R_bipush hC dW_desk_19 (by decide +kernel) ⟨by decide, by decide⟩ ?_
    refine R_icmp_ge hC dW_desk_21 (tgt := 74) (by decide) (fun hj => ?_) (fun hj => ?_)
    · have ei : i = 20 := by omega
      subst ei
      exact kE M hM (fun z hz => by
        have := hW z hz
        rw [show min ((20 : Int).toNat - 4 * z) 4 = 4 by show min (20 - 4 * z) 4 = 4; omega] at this
        exact this)
    have hq0 : 0 ≤ i / 4 := by omega
    have hq1 : i / 4 < 5 := by omega
    have hv : M n (i / 4) = wvF (byT τ) (p + 4 * (i / 4).toNat) (i.toNat - 4 * (i / 4).toNat) := by
      have z := hW (i / 4).toNat (by omega)
      rw [Int.toNat_of_nonneg hq0, show min (i.toNat - 4 * (i / 4).toNat) 4 = i.toNat - 4 * (i / 4).toNat by omega] at z
      exact z
    have hb := wvF_b (byT_b h7) (p + 4 * (i / 4).toNat) (i.toNat - 4 * (i / 4).toNat) (by omega)
    have fin : ∀ b : Int, b = byT τ (p + i.toNat) → RZ (g, q) S C Z k w (n + 1) 66 [some (vR 0), some (vR t), some (vI (p : Int)), some (vR n), some (vI i)] [vI b, vI (wvF (byT τ) (p + 4 * (i / 4).toNat) (i.toNat - 4 * (i / 4).toNat) * 2 ^ (8 : Int).toNat), vI (i / 4), vR n] M := by
      intro b hbb
      have hb2 := byT_b h7 (p + i.toNat)
      refine R_ior hC dW_desk_66 (Int.mul_nonneg hb.1 (by decide)) (by omega) ?_
      rw [or_b hb.1 (by omega) (by omega)]
      refine R_iastore hC dW_desk_67 (Nat.lt_succ_self n) hSn hq0 hq1 ?_
      refine R_iinc_4 hC dW_desk_68 rfl ⟨by omega, by omega⟩ ?_
      refine R_goto hC dW_desk_71 (tgt := 17) (by decide) ?_
      refine ih (i + 1) _ (by omega) (by omega) (fun h hh => (uM_ne hh).trans (hM h hh)) (fun z hz => ?_) (by omega)
      by_cases ez : (z : Int) = i / 4
      · rw [ez, uM_same, hbb]
        have e1 : (i / 4).toNat = z := by omega
        rw [e1, show min ((i + 1).toNat - 4 * z) 4 = (i.toNat - 4 * z) + 1 by omega, wvF, show p + 4 * z + (i.toNat - 4 * z) = p + i.toNat by omega]
      · rw [uM_k ez, hW z hz]
        rw [show min (i.toNat - 4 * z) 4 = min ((i + 1).toNat - 4 * z) 4 by omega]
    refine R_aload_3 hC dW_desk_24 ?_
    refine R_iload_4 hC dW_desk_25 ?_
    refine R_iconst hC dW_desk_27 ⟨by decide, by decide⟩ ?_
    refine R_idiv hC dW_desk_28 i0 (by decide) ?_
    refine R_aload_3 hC dW_desk_29 ?_
    refine R_iload_4 hC dW_desk_30 ?_
    refine R_iconst hC dW_desk_32 ⟨by decide, by decide⟩ ?_
    refine R_idiv hC dW_desk_33 i0 (by decide) ?_
    refine R_iaload hC dW_desk_34 (Nat.lt_succ_self n) hSn hq0 hq1 ?_
    rw [hv]
    refine R_bipush hC dW_desk_35 (by decide +kernel) ⟨by decide, by decide⟩ ?_
    refine R_ishl hC dW_desk_37 (by decide) (by decide) (by
      show inI (_ * 256)
      exact ⟨by omega, by omega⟩) ?_
    refine R_iload_2 hC dW_desk_38 ?_
    refine R_iload_4 hC dW_desk_39 ?_
    refine R_iadd hC dW_desk_41 ⟨by omega, by omega⟩ ?_
    refine R_aload_1 hC dW_desk_42 ?_
    refine D_vq (as := []) hC hRm dW_desk_43 mo_107_length mlW_8 ht2 hS.1 rfl (w_length e ht2 hr2 hS (by omega)) rfl rfl (by decide) (by decide) hk hw (Nat.le_of_ble_eq_true rfl) ?_
    refine R_icmp_ge hC dW_desk_46 (tgt := 64) (by decide) (fun hj2 => ?_) (fun hj2 => ?_)
    · skip
      refine R_bipush hC dW_desk_64 (by decide +kernel) ⟨by decide, by decide⟩ ?_
      exact fin 32 (by unfold byT; rw [if_neg (by omega)])
    refine R_aload_1 hC dW_desk_49 ?_
    refine R_iload_2 hC dW_desk_50 ?_
    refine R_iload_4 hC dW_desk_51 ?_
    refine R_iadd hC dW_desk_53 ⟨by omega, by omega⟩ ?_
    rw [show (p : Int) + i = ((p + i.toNat : Nat) : Int) by omega]
    refine D_vq (as := [vI _]) hC hRm dW_desk_54 mo_107_charAt mlW_14 ht2 hS.1 rfl (w_charAt e ht2 hr2 hS (by omega) (by omega)) rfl rfl (by decide) (by decide) hk hw (Nat.le_of_ble_eq_true rfl) ?_
    refine R_sipush hC dW_desk_57 (by decide +kernel) ⟨by decide, by decide⟩ ?_
    refine R_iandm hC dW_desk_60 (m := 8) (by decide) (by decide) ?_
    refine R_goto hC dW_desk_61 (tgt := 66) (by decide) ?_
    have hb3 := byT_b h7 (p + i.toNat)
    have hb4 : τ.getD (p + i.toNat) 0 = byT τ (p + i.toNat) := by unfold byT; rw [if_pos (by omega)]
    exact fin _ (by
      rw [hb4]
      show _ % 256 = _
      omega)
theorem l_desk {g0 : Nat → Nat} {q : Gq} {S0 : Sh} {n0 : Nat} {l : Launch} {M0 : Mem} {t r : Nat} {τ : List Int} {d : Int → Int} (e0 : EX S0 n0) (rb0 : RB S0 n0 M0) (hn : n0 ≤ 950) (ht : t < n0) (ht5 : 57 ≤ t) (hr : r < n0) (hr5 : 57 ≤ r) (hT : STG S0 M0 t r τ) (hlen : τ.length ≤ 399) (hG0 : GR M0) (hD : M0 4 = d) (hSP : SP d) (hFP0 : FP M0 d) (h01 : M0 0 1 = 0) (hr0 : 0 ≤ M0 10 0) (hr1 : M0 10 0 ≤ 1000000000)
    (hP : ∀ (r0 : Int → Int) (k : Nat), (∀ j : Nat, j < τ.length → r0 j % 2 ^ 8 = τ.getD j 0) → rdZ r0 τ.length k → (rdI r0 τ.length k).2.2.2.2.2.1 = 0) : CtD g0 q S0 n0 l 8 20 100 mW_desk [vR 0, vR t] M0 (fun o S' n' M' => n' ≤ n0 + 20 ∧ (∀ h, 57 ≤ h → h < n0 → M' h = M0 h) ∧ ∃ (r0 : Int → Int) (k : Nat), (∀ j : Nat, j < τ.length → r0 j % 2 ^ 8 = τ.getD j 0) ∧ rdZ r0 τ.length k ∧ (rdI r0 τ.length k).2.2.2.2.2.1 = 0 ∧ o = some (vI 0) ∧ GR M' ∧ M' 4 = (rdI r0 τ.length k).1 ∧ M' 5 3 = 0 ∧ M' 5 4 = 0 ∧ M' 0 10 = 0 ∧ M' 10 = M0 10) := by
  refine R_startD (by decide +kernel) (Nat.le_of_ble_eq_true rfl) (fun C hC hN hRm hlau => ?_)
  show RZ (g0, q) S0 C (ZD g0 q S0 n0 C (fun o S' n' M' => n' ≤ n0 + 20 ∧ (∀ h, 57 ≤ h → h < n0 → M' h = M0 h) ∧ ∃ (r0 : Int → Int) (k : Nat), (∀ j : Nat, j < τ.length → r0 j % 2 ^ 8 = τ.getD j 0) ∧ rdZ r0 τ.length k ∧ (rdI r0 τ.length k).2.2.2.2.2.1 = 0 ∧ o = some (vI 0) ∧ GR M' ∧ M' 4 = (rdI r0 τ.length k).1 ∧ M' 5 3 = 0 ∧ M' 5 4 = 0 ∧ M' 0 10 = 0 ∧ M' 10 = M0 10) 20 100) 0 0 n0 0 [some (vR 0), some (vR t), none, none, none] [] M0
  refine R_iconst hC dW_desk_0 ⟨by decide, by decide⟩ ?_
  refine R_istore_2 hC dW_desk_1 rfl ?_
  have L : ∀ (mq : Nat) (p : Nat) (g : Nat → Nat) (S : Sh) (n k w : Nat) (M : Mem) (o3 o4 : Option V), CxOK (g, q) mW_desk C → GA g0 g n0 → n0 ≤ n → EX S n → (∀ h, h < n0 → S.1 h = S0.1 h) → RB S n M → (∀ h, 57 ≤ h → h < n0 → M h = M0 h) → Fr [1] [(0, 1)] M0 (mg M0 M) → GR M → M 0 1 = p → (∀ j : Nat, j < p → M 1 j % 2 ^ 8 = byT τ j) → p % 20 = 0 → p < τ.length + 20 → n ≤ n0 + p / 20 → k ≤ p / 20 → w ≤ 5 * (p / 20) → (∀ v, o3 = some v → hOK n v) → (∀ v, o4 = some v → hOK n v) → (noL o3 = true ∧ noL o4 = true) → τ.length + 20 - p < mq →
      RZ (g, q) S C (ZD g0 q S0 n0 C (fun o S' n' M' => n' ≤ n0 + 20 ∧ (∀ h, 57 ≤ h → h < n0 → M' h = M0 h) ∧ ∃ (r0 : Int → Int) (k : Nat), (∀ j : Nat, j < τ.length → r0 j % 2 ^ 8 = τ.getD j 0) ∧ rdZ r0 τ.length k ∧ (rdI r0 τ.length k).2.2.2.2.2.1 = 0 ∧ o = some (vI 0) ∧ GR M' ∧ M' 4 = (rdI r0 τ.length k).1 ∧ M' 5 3 = 0 ∧ M' 5 4 = 0 ∧ M' 0 10 = 0 ∧ M' 10 = M0 10) 20 100) k w n 2 [some (vR 0), some (vR t), some (vI (p : Int)), o3, o4] [] M := by
    intro mq
    induction mq with
    | zero =>
      intro p g S n k w M o3 o4 hC ga hnn e hS rb hM hF hG h1 hB p20 pl nb kb wb ho3 ho4 hno hm
      exact absurd hm (Nat.not_lt_zero _)
    | succ mq ih =>
      intro p g S n k w M o3 o4 hC ga hnn e hS rb hM hF hG h1 hB p20 pl nb kb wb ho3 ho4 hno hm
      have hTS := hT.keep ht hr hS (hM t ht5 ht) (hM r hr5 hr)
      have e57 := e.1
      have hlo : ∀ h j, h < 57 → h ≠ 1 → (h, j) ≠ ((0 : Nat), (1 : Int)) → M h j = M0 h j := fun h j a b c => by
        have z := hF h j (by simp only [List.mem_cons, List.not_mem_nil, or_false]; exact b) (by simp only [List.mem_cons, List.not_mem_nil, or_false]; exact c)
        rw [mg_lo a] at z
        exact z
      refine R_iload_2 hC dW_desk_2 ?_
      refine R_aload_1 hC dW_desk_3 ?_
      refine D_vq (as := []) hC hRm dW_desk_4 mo_107_length mlW_8 (show t < n by omega) hTS.1 rfl (w_length e (by omega) (by omega) hTS (by omega)) rfl rfl (by decide) (by decide) (by omega) (by omega) (Nat.le_of_ble_eq_true rfl) ?_
      refine R_icmp_ge hC dW_desk_7 (tgt := 100) (by decide) (fun hj => ?_) (fun hj => ?_)
      · skip
        refine R_aload_0 hC dW_desk_100 ?_
        refine R_aload_1 hC dW_desk_101 ?_
        refine D_vq (as := []) hC hRm dW_desk_102 mo_107_length mlW_8 (show t < n by omega) hTS.1 rfl (w_length e (by omega) (by omega) hTS (by omega)) rfl rfl (by decide) (by decide) (by omega) (by omega) (Nat.le_of_ble_eq_true rfl) ?_
        have hD2 : M 4 = d := (funext fun j => hlo 4 j (by decide) (by decide) (by simp)).trans hD
        have hFP : FP M d := fun z => by
          rw [hlo 0 10 (by decide) (by decide) (by decide)] at z
          have pz := hFP0 z
          unfold PLN at pz ⊢
          rw [hlo 36 2 (by decide) (by decide) (by decide), hlo 36 3 (by decide) (by decide) (by decide), show M 37 = M0 37 from funext fun j => hlo 37 j (by decide) (by decide) (by simp)]
          exact pz
        have h10 : M 10 = M0 10 := funext fun j => hlo 10 j (by decide) (by decide) (by simp)
        refine D_vf (as := [vI _]) hC e hRm dW_desk_105 mo_11_desk mlW_24 (by decide) rfl rfl (fun N => c11_desk (t := (p : Int)) (r := M 1) ⟨by omega, by omega⟩ hG hD2 hSP hFP h1 (by omega) (by omega) rfl (by rw [h10]; exact hr0) (by rw [h10]; exact hr1)) rfl rfl (by decide) (by decide) (by omega) (by omega) (Nat.le_of_ble_eq_true rfl) (fun o M' hq => ?_)
        obtain ⟨v, rfl, -, -, kk, hz, -, hv, hq⟩ := hq
        have hby : ∀ j : Nat, j < τ.length → M 1 j % 2 ^ 8 = τ.getD j 0 := fun j hj => by
          rw [hB j (by omega)]
          unfold byT
          rw [if_pos hj]
        have hz0 := hP (M 1) kk hby hz
        rcases hq with ⟨hne, -⟩ | ⟨-, hF2, hG2, h4, h53, h54, -, -, h010, h220, h222⟩
        · exact absurd hz0 hne
        rw [hz0] at hv
        subst hv
        have rb2 : RB S n (mg M M') := RB.fr (X := [(22, 0), (22, 2)]) e rb hF2 (by decide +kernel) (by decide +kernel) (by
          intro pp hpp
          simp only [List.mem_cons, List.not_mem_nil, or_false] at hpp
          rcases hpp with rfl | rfl
          · show M' 22 0 < _
            rw [h220]
            omega
          · show M' 22 2 < _
            rw [h222]
            omega)
        refine R_iretD hC dW_desk_108 rfl (by omega) (by omega) ga hnn e hS rb2 ⟨by omega, fun h a b => (mg_hi a).trans (hM h a b), M 1, kk, hby, hz, hz0, rfl, hG2.mg, ?_, ?_, ?_, ?_, ?_⟩
        · exact (mg_lo (by decide)).trans h4
        · rw [mg_lo (by decide)]
          exact h53
        · rw [mg_lo (by decide)]
          exact h54
        · rw [mg_lo (by decide)]
          exact h010
        · rw [mg_lo (by decide), ← h10]
          exact funext fun j => hF2 10 j (by decide) (by simp)
      have hpn : p < τ.length := by omega
      refine R_iconst hC dW_desk_10 ⟨by decide, by decide⟩ ?_
      refine R_newAd (kd := 20) (N := 5) hC e dW_desk_11 rfl (.inl rfl) w_arrI rfl (by decide) (by omega) rb (hls_R (by omega) (hls_R (by omega) (hls_I (hls_c ho3 (hls_c ho4 hls_0))))) hst_0 (by rw [hRm]; show k + 1 ≤ 20; omega) (by rw [hRm]; show w + 5 ≤ 100; omega) (fun g1 ga1 e1 rb1 => ?_)
      have hC1 := CxOK.ga ga1 hC
      refine R_astore_3 hC1 dW_desk_13 rfl ?_
      refine R_iconst hC1 dW_desk_14 ⟨by decide, by decide⟩ ?_
      refine R_istore_4 hC1 dW_desk_15 rfl ?_
      refine dk_in (p := p) (M0 := setR M n (fun _ => 0)) hC1 hRm (by omega) (by omega) e1 push_s (show t < n by omega) (show r < n by omega) (by omega) hpn (fun M2 h2 => hTS.keep (by omega) (by omega) (fun h hh => push_o (by omega)) ((h2 t (by omega)).trans (setR_r (by omega))) ((h2 r (by omega)).trans (setR_r (by omega)))) (fun M2 h2 hw2 => ?_) _ 0 _ (by decide) (by decide) (fun _ _ => rfl) (fun z hz => by
        rw [show min ((0 : Int).toNat - 4 * z) 4 = 0 by show min (0 - 4 * z) 4 = 0; omega]
        exact setR_s) (Nat.lt_succ_self _)
      have hM2 : ∀ h, h < n → M2 h = M h := fun h hh => (h2 h (by omega)).trans (setR_r (by omega))
      have hG2 : GR M2 := hG.lo (fun a ha => hM2 a (by omega))
      have ld : ∀ (z : Nat) (i : Int), z < 5 → i = z → M2 n i = wvF (byT τ) (p + 4 * z) 4 := fun z i a b => by rw [b]; exact hw2 z a
      refine R_aload_0 hC1 dW_desk_74 ?_
      refine R_aload_3 hC1 dW_desk_75 ?_
      refine R_iconst hC1 dW_desk_76 ⟨by decide, by decide⟩ ?_
      refine R_iaload hC1 dW_desk_77 (Nat.lt_succ_self n) push_s (by decide) (by decide) ?_
      refine R_aload_3 hC1 dW_desk_78 ?_
      refine R_iconst hC1 dW_desk_79 ⟨by decide, by decide⟩ ?_
      refine R_iaload hC1 dW_desk_80 (Nat.lt_succ_self n) push_s (by decide) (by decide) ?_
      refine R_aload_3 hC1 dW_desk_81 ?_
      refine R_iconst hC1 dW_desk_82 ⟨by decide, by decide⟩ ?_
      refine R_iaload hC1 dW_desk_83 (Nat.lt_succ_self n) push_s (by decide) (by decide) ?_
      refine R_aload_3 hC1 dW_desk_84 ?_
      refine R_iconst hC1 dW_desk_85 ⟨by decide, by decide⟩ ?_
      refine R_iaload hC1 dW_desk_86 (Nat.lt_succ_self n) push_s (by decide) (by decide) ?_
      refine R_aload_3 hC1 dW_desk_87 ?_
      refine R_iconst hC1 dW_desk_88 ⟨by decide, by decide⟩ ?_
      refine R_iaload hC1 dW_desk_89 (Nat.lt_succ_self n) push_s (by decide) (by decide) ?_
      rw [ld 0 0 (by decide) rfl, ld 1 1 (by decide) rfl, ld 2 2 (by decide) rfl, ld 3 3 (by decide) rfl, ld 4 4 (by decide) rfl]
      refine D_vf (as := [vI _, vI _, vI _, vI _, vI _]) hC1 e1 hRm dW_desk_90 mo_11_feed mlW_18 (by decide) rfl rfl (fun N => c11_feed (t := (p : Int)) hG2 (by rw [hM2 0 (by omega)]; exact h1) (by omega) (by omega)) rfl rfl (by decide) (by decide) (by omega) (by omega) (Nat.le_of_ble_eq_true rfl) (fun o M' hq => ?_)
      obtain ⟨v, rfl, hq⟩ := hq
      rcases hq with ⟨hbig, -⟩ | ⟨-, ⟨hF2, h012, hby, hbk⟩, rfl⟩
      · exact absurd hbig (by omega)
      refine R_pop hC1 dW_desk_93 rfl ?_
      refine R_iinc_2 hC1 dW_desk_94 rfl ⟨by omega, by omega⟩ ?_
      refine R_goto hC1 dW_desk_97 (tgt := 2) (by decide) ?_
      rw [show (p : Int) + 20 = ((p + 20 : Nat) : Int) by omega]
      have h7 := hTS.2.2.2.2.2
      have hM' : ∀ h j, h < 57 → h ≠ 1 → (h, j) ≠ ((0 : Nat), (1 : Int)) → M' h j = M h j := fun h j a b c => (hF2 h j (by simp only [List.mem_cons, List.not_mem_nil, or_false]; exact b) (by simp only [List.mem_cons, List.not_mem_nil, or_false]; exact c)).trans (congrFun (hM2 h (by omega)) j)
      have hG3 : GR M' := GR.fr hG2 hF2 (by decide +kernel)
      refine ih (p + 20) g1 _ (n + 1) (k + 1) (w + 5) (mg M2 M') _ _ hC1 (ga.tr ga1 hnn) (by omega) e1 (fun h hh => (push_o (by omega)).trans (hS h hh)) (RB.fr (X := []) e1 ?_ hF2 (by decide +kernel) (by decide +kernel) (fun pp hpp => absurd hpp List.not_mem_nil)) (fun h a b => (mg_hi a).trans ((hM2 h (by omega)).trans (hM h a b))) (fun h j a b => ?_) hG3.mg ?_ (fun j hj2 => ?_) (by omega) (by omega) (by omega) (by omega) (by omega) (fun v hv => by cases hv; exact .inl (Nat.lt_succ_self n)) (fun v hv => by cases hv; trivial) ⟨rfl, rfl⟩ (by omega)
      · intro a j ha c tt
        by_cases en : a = n
        · subst en
          rw [push_s] at c
          exact absurd c (by decide)
        · have hh : a < n := by omega
          rw [hM2 a hh]
          rw [push_o en] at c tt
          have := rb a j hh c tt
          omega
      · by_cases h57 : h < 57
        · rw [mg_lo h57, mg_lo h57]
          have b1 : h ≠ 1 := fun z => a (by rw [z]; exact List.mem_cons_self ..)
          have b2 : (h, j) ≠ ((0 : Nat), (1 : Int)) := fun z => b (by rw [z]; exact List.mem_cons_self ..)
          rw [hM' h j h57 b1 b2, hlo h j h57 b1 b2]
        · rw [mg_hi (by omega)]
      · rw [mg_lo (by decide), h012]
        omega
      · rw [mg_lo (by decide)]
        by_cases hjp : j < p
        · rw [hbk j (.inl (by omega)), hM2 1 (by omega)]
          exact hB j hjp
        · have z := hby ((j : Int) - p) (by omega) (by omega)
          rw [show (p : Int) + ((j : Int) - p) = j by omega] at z
          rw [z]
          have wz : ∀ zq : Nat, zq < 5 → 4 * (zq : Int) ≤ (j : Int) - p → (j : Int) - p < 4 * zq + 4 → wvF (byT τ) (p + 4 * zq) 4 / 2 ^ (24 - 8 * (((j : Int) - p) % 4)).toNat % 2 ^ 8 = byT τ j := fun zq a b c => by
            rw [wvF_4 (byT_b h7) _ _ (by omega) (by omega), show p + 4 * zq + (((j : Int) - p) % 4).toNat = j by omega]
          split
          · exact wz 0 (by decide) (by omega) (by omega)
          split
          · exact wz 1 (by decide) (by omega) (by omega)
          split
          · exact wz 2 (by decide) (by omega) (by omega)
          split
          · exact wz 3 (by decide) (by omega) (by omega)
          · exact wz 4 (by decide) (by omega) (by omega)
  refine L _ 0 g0 S0 n0 0 0 M0 none none hC GA.rf (Nat.le_refl _) e0 (fun _ _ => rfl) rb0 (fun _ _ _ => rfl) (fun h j _ _ => ?_) hG0 h01 (fun j hj => absurd hj (Nat.not_lt_zero j)) rfl (by omega) (by omega) (by omega) (by omega) (fun v hv => by cases hv) (fun v hv => by cases hv) ⟨rfl, rfl⟩ (Nat.lt_succ_self _)
  show (if h < 57 then M0 h j else M0 h j) = _
  rw [ite_self]
