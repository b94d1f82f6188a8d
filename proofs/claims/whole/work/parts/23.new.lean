/-! Fits: what is new -/
def bitM (m : Int) : Int64 := Int64.ofInt ((Int64.ofInt 1 <<< ((Int32.ofInt m).toInt64 &&& 63)).toInt)
/-- a is in the set that the sixteen longs keep -/
def seenB (r : Int → Int) (a : Int) : Prop := (Int64.ofInt (r (a / 2 ^ 6)) &&& bitM (a % 2 ^ 6)).toInt ≠ 0
theorem bitM_tab : ∀ m n : Fin 64, bitM ((m : Nat) : Int) ≠ 0 ∧ (m ≠ n → bitM ((m : Nat) : Int) &&& bitM ((n : Nat) : Int) = 0) := by decide +kernel
theorem bitM_ne {m : Int} (h0 : 0 ≤ m) (h1 : m < 64) : bitM m ≠ 0 := by
  have := (bitM_tab ⟨m.toNat, by omega⟩ 0).1
  rw [show (((⟨m.toNat, by omega⟩ : Fin 64) : Nat) : Int) = m from Int.toNat_of_nonneg h0] at this
  exact this
theorem bitM_and {m n : Int} (h0 : 0 ≤ m) (h1 : m < 64) (g0 : 0 ≤ n) (g1 : n < 64) (e : m ≠ n) : bitM m &&& bitM n = 0 := by
  have := (bitM_tab ⟨m.toNat, by omega⟩ ⟨n.toNat, by omega⟩).2 (fun z => e (by have := congrArg Fin.val z; simp only at this; omega))
  rw [show (((⟨m.toNat, by omega⟩ : Fin 64) : Nat) : Int) = m from Int.toNat_of_nonneg h0, show (((⟨n.toNat, by omega⟩ : Fin 64) : Nat) : Int) = n from Int.toNat_of_nonneg g0] at this
  exact this
theorem l_or_and (x y z : Int64) : (x ||| y) &&& z = (x &&& z) ||| (y &&& z) := by
  apply Int64.toBitVec_inj.1
  simp only [Int64.toBitVec_and, Int64.toBitVec_or]
  ext i
  simp [Bool.and_or_distrib_right]
theorem l_ne {x : Int64} : x.toInt ≠ 0 ↔ x ≠ 0 :=
  ⟨fun h q => h (by rw [q]; rfl), fun h q => h (Int64.toInt_inj.mp (q.trans (by decide)))⟩
theorem seen_set {r : Int → Int} {a b : Int} : seenB (fun j => if j = a / 2 ^ 6 then (Int64.ofInt (r (a / 2 ^ 6)) ||| bitM (a % 2 ^ 6)).toInt else r j) b ↔ seenB r b ∨ b = a := by
  unfold seenB
  by_cases q : b / 2 ^ 6 = a / 2 ^ 6
  · rw [q]
    simp only [if_pos]
    rw [Int64.ofInt_toInt, l_ne, l_ne, l_or_and]
    by_cases e : b = a
    · subst e
      have hz : bitM (b % 2 ^ 6) ≠ 0 := bitM_ne (by omega) (by omega)
      have : bitM (b % 2 ^ 6) &&& bitM (b % 2 ^ 6) = bitM (b % 2 ^ 6) := Int64.and_self
      rw [this]
      exact ⟨fun _ => .inr rfl, fun _ z => hz (Int64.or_eq_zero_iff.mp z).2⟩
    · rw [bitM_and (m := a % 2 ^ 6) (n := b % 2 ^ 6) (by omega) (by omega) (by omega) (by omega) (by omega), Int64.or_zero]
      exact ⟨fun z => .inl z, fun z => z.resolve_right e⟩
  · simp only [if_neg q]
    exact ⟨fun z => .inl z, fun z => z.resolve_right (fun e => q (by rw [e]))⟩
theorem seen_none {r : Int → Int} {a : Int} (h : r (a / 2 ^ 6) = 0) : ¬ seenB r a := fun z => by
  unfold seenB at z
  rw [h, l_ne] at z
  refine z ?_
  have : Int64.ofInt 0 = 0 := rfl
  rw [this, Int64.zero_and]
section LST
variable {G : Gl} {S : Sh} {C : Cx} {Z : State → Prop} {k w n : Nat} {pc : Nat} {ls : List (Option V)} {st : List V} {M : Mem} {y : Mt}
theorem R_lstore_4z (hC : CxOK G y C) {l0 l1 l2 l3 : Option V} {l l' : Option V} {v : Int} (hd : decode y.2.1 pc = .ok (.lstore 4, 2)) (hn : noL l3 = true) (kk : RZ G S C Z k w n (pc + 2) (l0 :: l1 :: l2 :: l3 :: some (vL v) :: none :: ls) st M) : RZ G S C Z k w n pc (l0 :: l1 :: l2 :: l3 :: l :: l' :: ls) (vL v :: st) M := by
  intro H locs ar hp hs hm hl hv ha
  obtain ⟨e1, e2⟩ := lsR_put2 (i := 4) (v := vL v) ha (by simp) (fun j e => by cases e; exact ⟨_, rfl, hn⟩) rfl
  exact lv_lstore hC.1 hC.2.1 hd e1 (lsR_lt2 ha 4 rfl) rfl (fun a2 h2 => kk H locs a2 hp hs hm (okLs_set2 4 hl rfl hv.1) hv.2 (e2 a2 h2))
end LST
theorem cmp0 {x : Int} : (if x < 0 then -1 else if x = 0 then 0 else 1 : Int) = 0 ↔ x = 0 := by
  constructor
  · intro h
    split at h
    · cases h
    · split at h
      · assumption
      · cases h
  · intro h
    rw [if_neg (by omega), if_pos h]
theorem SPC_ls {I : Ins} (h : IB I) (hm : ∀ x, 0 ≤ x → x < iL I → iM I x ≤ 20) : -1 ≤ SPC I ∧ SPC I ≤ 900 := by
  have hf := h.fs
  have hl : lsum I ≤ 100 := by
    have := (ss_bd (f := iM I) (L := iL I) (b := 20) h.1.1 h.1.2 hf.1 hf.2.1 (fun x a b => ⟨by have := h.2.2.2.2 x a b; omega, hm x a b⟩) (by decide)).2
    unfold lsum
    omega
  have h1 : ∀ s, 0 ≤ MC I s ∧ MC I s ≤ 100 := fun s => by
    have e : sm (iW I).toNat (fun w => if s ≤ iZ I w then canw I w 0 else 0) = 0 := sm_zero _ (fun w w0 w1 => by
      have := (h.2.2.2.1 w w0 (by omega)).1
      split
      · unfold canw
        rw [ss_0]
        omega
      · rfl)
    have c0 : cutS I s 0 = lsum I := by
      unfold cutS
      rw [e, ss_0]
      omega
    have a := mnn_le (cutS I s) (fullS I).toNat 0 (by omega) (by omega)
    refine ⟨?_, by show mnn _ _ ≤ 100; omega⟩
    obtain ⟨j, j0, j1, j2⟩ := mnn_ex (cutS I s) (fullS I).toNat
    have b := (h.lm j0 (show j < 2 ^ (iL I).toNat by omega)).1
    have c := (sm_bd2 (f := fun w => if s ≤ iZ I w then canw I w j else 0) (q := 6) 15 h.2.1.1 (fun w w0 w1 => by
      have := h.cw w0 w1 j0 (show j < 2 ^ (iL I).toNat by omega)
      split <;> omega) (by decide) h.2.1.2).1
    show 0 ≤ mnn _ _
    rw [j2]
    unfold cutS
    omega
  by_cases q : planI I
  · rw [SPC_t q]
    have := sm_bd (f := fun s => MC I (s + 1)) (b := 100) 9 (fun s _ _ => h1 _)
    have e : sumMC I = sm 9 (fun s => MC I (s + 1)) := rfl
    rw [e]
    omega
  · rw [SPC_f q]; omega
def seenT (r : Int → Int) (a : Int) : Prop := (0 ≤ a ∧ a < 1024) ∧ seenB r a
theorem seenT_set {r r' : Int → Int} {v : Int} (h0 : 0 ≤ v) (h1 : v < 1024) (h : ∀ a, seenB r' a ↔ seenB r a ∨ a = v) : seenT r' = fun a => seenT r a ∨ a = v := funext (fun a => propext (by
  unfold seenT
  rw [h]
  constructor
  · rintro ⟨b, c⟩
    exact c.elim (fun z => .inl ⟨b, z⟩) .inr
  · intro z
    rcases z with z | z
    · exact ⟨z.1, .inl z.2⟩
    · subst z
      exact ⟨⟨h0, h1⟩, .inr rfl⟩))
theorem seenT_none {r : Int → Int} (h : ∀ i, 0 ≤ i → i < 16 → r i = 0) : seenT r = fun _ => False := funext (fun a => propext ⟨fun z => seen_none (h _ (by have := z.1.1; omega) (by have := z.1.2; omega)) z.2, False.elim⟩)
theorem set_same {T : Int → Prop} {v : Int} (h : T v) : (fun a => T a ∨ a = v) = T := funext (fun a => propext ⟨fun z => z.elim id (fun e => e ▸ h), .inl⟩)
/-- what the keeps before k of one work add -/
noncomputable def nwS (f : Int → Prop) (g : Int → Int) (T : Int → Prop) : Nat → Int × (Int → Prop)
  | 0 => (0, T)
  | k + 1 => @ite (Int × (Int → Prop)) (f k) (Classical.propDecidable _) ((nwS f g T k).1 + bP (¬ (nwS f g T k).2 (g k)), fun a => (nwS f g T k).2 a ∨ a = g k) (nwS f g T k)
theorem nwS_t {f : Int → Prop} {g : Int → Int} {T : Int → Prop} {k j : Int} (h : 0 ≤ k) (hj : j = k + 1) (p : f k) : nwS f g T j.toNat = ((nwS f g T k.toNat).1 + bP (¬ (nwS f g T k.toNat).2 (g k)), fun a => (nwS f g T k.toNat).2 a ∨ a = g k) := by
  subst hj
  rw [show (k + 1).toNat = k.toNat + 1 by omega, nwS, Int.toNat_of_nonneg h, if_pos p]
theorem nwS_f {f : Int → Prop} {g : Int → Int} {T : Int → Prop} {k j : Int} (h : 0 ≤ k) (hj : j = k + 1) (p : ¬ f k) : nwS f g T j.toNat = nwS f g T k.toNat := by
  subst hj
  rw [show (k + 1).toNat = k.toNat + 1 by omega, nwS, Int.toNat_of_nonneg h, if_neg p]
theorem nwS_in {f : Int → Prop} {g : Int → Int} {T : Int → Prop} {k j : Int} (h : 0 ≤ k) (hj : j = k + 1) (p : f k) (q : (nwS f g T k.toNat).2 (g k)) : nwS f g T j.toNat = nwS f g T k.toNat := by
  rw [nwS_t h hj p, set_same q, bP_neg (fun z => z q), Int.add_zero]
theorem nwS_bd {f : Int → Prop} {g : Int → Int} {T : Int → Prop} : ∀ n : Nat, 0 ≤ (nwS f g T n).1 ∧ (nwS f g T n).1 ≤ n
  | 0 => ⟨Int.le_refl _, Int.le_refl _⟩
  | n + 1 => by
    have := nwS_bd (f := f) (g := g) (T := T) n
    have b := bP_01 (¬ (nwS f g T n).2 (g n))
    rw [nwS]
    split
    · simp only
      omega
    · omega
noncomputable def nwA (f : Int → Int → Prop) (g : Int → Int → Int) : Nat → Int × (Int → Prop)
  | 0 => (0, fun _ => False)
  | w + 1 => ((nwA f g w).1 + (nwS (f w) (g w) (nwA f g w).2 16).1, (nwS (f w) (g w) (nwA f g w).2 16).2)
theorem nwA_s {f : Int → Int → Prop} {g : Int → Int → Int} {w j : Int} (h : 0 ≤ w) (hj : j = w + 1) : nwA f g j.toNat = ((nwA f g w.toNat).1 + (nwS (f w) (g w) (nwA f g w.toNat).2 16).1, (nwS (f w) (g w) (nwA f g w.toNat).2 16).2) := by
  subst hj
  rw [show (w + 1).toNat = w.toNat + 1 by omega, nwA, Int.toNat_of_nonneg h]
theorem nwA_bd {f : Int → Int → Prop} {g : Int → Int → Int} : ∀ n : Nat, 0 ≤ (nwA f g n).1 ∧ (nwA f g n).1 ≤ 16 * n
  | 0 => ⟨Int.le_refl _, Int.le_refl _⟩
  | n + 1 => by
    have := nwA_bd (f := f) (g := g) n
    have b := nwS_bd (f := f n) (g := g n) (T := (nwA f g n).2) 16
    rw [nwA]
    simp only
    omega
noncomputable def ubF (U : Int → Int) : Nat → Int × Int
  | 0 => (0, -1)
  | n + 1 => if (ubF U n).1 < U n then (U n, n) else ubF U n
theorem ubF_t {U : Int → Int} {k j : Int} (h : 0 ≤ k) (hj : j = k + 1) (p : (ubF U k.toNat).1 < U k) : ubF U j.toNat = (U k, k) := by
  subst hj
  rw [show (k + 1).toNat = k.toNat + 1 by omega, ubF, Int.toNat_of_nonneg h, if_pos p]
theorem ubF_f {U : Int → Int} {k j : Int} (h : 0 ≤ k) (hj : j = k + 1) (p : ¬ (ubF U k.toNat).1 < U k) : ubF U j.toNat = ubF U k.toNat := by
  subst hj
  rw [show (k + 1).toNat = k.toNat + 1 by omega, ubF, Int.toNat_of_nonneg h, if_neg p]
theorem bP_01q {x : Int} {p : Prop} (h : x = bP p) : x = 0 ∨ x = 1 := by
  rw [h]
  exact bP_01 p
theorem setS_i (I : Ins) (w : Int) : setS I w (iS I w) = I := by
  have e : up (iS I) w (iS I w) = iS I := funext (fun v => by
    unfold up
    split
    · rename_i q
      subst q
      rfl
    · rfl)
  show (I.1, iO I, up (iS I) w (iS I w), iN I, iM I, iZ I) = I
  rw [e]
  rfl

theorem dX2_markNew_0 : decode cX2_markNew 0 = .ok (.iload_n 1, 1) := by decide +kernel
theorem dX2_markNew_1 : decode cX2_markNew 1 = .ok (.iconst 1, 1) := by decide +kernel
theorem dX2_markNew_2 : decode cX2_markNew 2 = .ok (.iadd, 1) := by decide +kernel
theorem dX2_markNew_3 : decode cX2_markNew 3 = .ok (.istore_n 2, 1) := by decide +kernel
theorem dX2_markNew_4 : decode cX2_markNew 4 = .ok (.iload_n 2, 1) := by decide +kernel
theorem dX2_markNew_5 : decode cX2_markNew 5 = .ok (.bipush 6, 2) := by decide +kernel
theorem dX2_markNew_7 : decode cX2_markNew 7 = .ok (.ishr, 1) := by decide +kernel
theorem dX2_markNew_8 : decode cX2_markNew 8 = .ok (.istore_n 3, 1) := by decide +kernel
theorem dX2_markNew_9 : decode cX2_markNew 9 = .ok (.iload_n 3, 1) := by decide +kernel
theorem dX2_markNew_10 : decode cX2_markNew 10 = .ok (.ifCond .lt 12, 3) := by decide +kernel
theorem dX2_markNew_13 : decode cX2_markNew 13 = .ok (.iload_n 3, 1) := by decide +kernel
theorem dX2_markNew_14 : decode cX2_markNew 14 = .ok (.aload_n 0, 1) := by decide +kernel
theorem dX2_markNew_15 : decode cX2_markNew 15 = .ok (.getfield 19, 3) := by decide +kernel
theorem dX2_markNew_18 : decode cX2_markNew 18 = .ok (.arraylength, 1) := by decide +kernel
theorem dX2_markNew_19 : decode cX2_markNew 19 = .ok (.if_icmp .lt 5, 3) := by decide +kernel
theorem dX2_markNew_24 : decode cX2_markNew 24 = .ok (.lconst 1, 1) := by decide +kernel
theorem dX2_markNew_25 : decode cX2_markNew 25 = .ok (.iload_n 2, 1) := by decide +kernel
theorem dX2_markNew_26 : decode cX2_markNew 26 = .ok (.bipush 63, 2) := by decide +kernel
theorem dX2_markNew_28 : decode cX2_markNew 28 = .ok (.iand, 1) := by decide +kernel
theorem dX2_markNew_29 : decode cX2_markNew 29 = .ok (.lshl, 1) := by decide +kernel
theorem dX2_markNew_30 : decode cX2_markNew 30 = .ok (.lstore 4, 2) := by decide +kernel
theorem dX2_markNew_32 : decode cX2_markNew 32 = .ok (.aload_n 0, 1) := by decide +kernel
theorem dX2_markNew_33 : decode cX2_markNew 33 = .ok (.getfield 19, 3) := by decide +kernel
theorem dX2_markNew_36 : decode cX2_markNew 36 = .ok (.iload_n 3, 1) := by decide +kernel
theorem dX2_markNew_37 : decode cX2_markNew 37 = .ok (.laload, 1) := by decide +kernel
theorem dX2_markNew_38 : decode cX2_markNew 38 = .ok (.lload 4, 2) := by decide +kernel
theorem dX2_markNew_40 : decode cX2_markNew 40 = .ok (.land, 1) := by decide +kernel
theorem dX2_markNew_41 : decode cX2_markNew 41 = .ok (.lconst 0, 1) := by decide +kernel
theorem dX2_markNew_42 : decode cX2_markNew 42 = .ok (.lcmp, 1) := by decide +kernel
theorem dX2_markNew_43 : decode cX2_markNew 43 = .ok (.ifCond .eq 5, 3) := by decide +kernel
theorem dX2_markNew_46 : decode cX2_markNew 46 = .ok (.iconst 0, 1) := by decide +kernel
theorem dX2_markNew_47 : decode cX2_markNew 47 = .ok (.ireturn, 1) := by decide +kernel
theorem dX2_markNew_48 : decode cX2_markNew 48 = .ok (.aload_n 0, 1) := by decide +kernel
theorem dX2_markNew_49 : decode cX2_markNew 49 = .ok (.getfield 19, 3) := by decide +kernel
theorem dX2_markNew_52 : decode cX2_markNew 52 = .ok (.iload_n 3, 1) := by decide +kernel
theorem dX2_markNew_53 : decode cX2_markNew 53 = .ok (.dup2, 1) := by decide +kernel
theorem dX2_markNew_54 : decode cX2_markNew 54 = .ok (.laload, 1) := by decide +kernel
theorem dX2_markNew_55 : decode cX2_markNew 55 = .ok (.lload 4, 2) := by decide +kernel
theorem dX2_markNew_57 : decode cX2_markNew 57 = .ok (.lor, 1) := by decide +kernel
theorem dX2_markNew_58 : decode cX2_markNew 58 = .ok (.lastore, 1) := by decide +kernel
theorem dX2_markNew_59 : decode cX2_markNew 59 = .ok (.iconst 1, 1) := by decide +kernel
theorem dX2_markNew_60 : decode cX2_markNew 60 = .ok (.ireturn, 1) := by decide +kernel
set_option maxHeartbeats 400000 in
theorem c2_markNew {G : Gl} {l : Launch}  {M : Mem} {v : Int} (hG : GR M) (hv0 : -1 ≤ v) (hv1 : v ≤ 1022) : Ct G LY 82 l 0 m2_markNew [vR 49, vI v] M (RP (fun f M' => Fr [51] [] M M' ∧ f = bP (¬ seenT (M 51) (v + 1)) ∧ seenT (M' 51) = fun a => seenT (M 51) a ∨ a = v + 1)) := by
  refine R_start (by decide +kernel) (Nat.le_of_ble_eq_true rfl) (fun C hC hRm hlau => ?_)
  show RZ G LY C (Zn G LY 82 C (RP (fun f M' => Fr [51] [] M M' ∧ f = bP (¬ seenT (M 51) (v + 1)) ∧ seenT (M' 51) = fun a => seenT (M 51) a ∨ a = v + 1))) 0 0 82 0 [some (vR 49), some (vI v), none, none, none, none] [] M
  have h64 : (v + 1) / 2 ^ Int.toNat 6 = (v + 1) / 64 := rfl
  refine R_iload_1 hC dX2_markNew_0 ?_
  refine R_iconst hC dX2_markNew_1 ⟨by decide, by decide⟩ ?_
  refine R_iadd hC dX2_markNew_2 ⟨by omega, by omega⟩ ?_
  refine R_istore_2 hC dX2_markNew_3 rfl ?_
  refine R_iload_2 hC dX2_markNew_4 ?_
  refine R_bipush hC dX2_markNew_5 (by decide +kernel) ⟨by decide, by decide⟩ ?_
  refine R_ishr hC dX2_markNew_7 (by omega) (by omega) ?_
  refine R_istore_3 hC dX2_markNew_8 rfl ?_
  refine R_iload_3 hC dX2_markNew_9 ?_
  refine R_if_lt hC dX2_markNew_10 (tgt := 22) (by decide) (fun hb10 => ?_) (fun hb10 => ?_)
  · skip
    omega
  · skip
    refine R_iload_3 hC dX2_markNew_13 ?_
    refine R_aload_0 hC dX2_markNew_14 ?_
    refine R_getR hC dX2_markNew_15 fl_2_19 (by decide) rfl (by decide) (by decide) (fi := 2) rfl (r := 51) (gr_49_2 hG) ?_
    refine R_alen hC dX2_markNew_18 (by decide) rfl (by decide) (by decide) (by decide) ?_
    refine R_icmp_lt hC dX2_markNew_19 (tgt := 24) (by decide) (fun hb19 => ?_) (fun hb19 => ?_)
    · skip
      refine R_lconst hC dX2_markNew_24 ?_
      refine R_iload_2 hC dX2_markNew_25 ?_
      refine R_bipush hC dX2_markNew_26 (by decide +kernel) ⟨by decide, by decide⟩ ?_
      refine R_iandm hC dX2_markNew_28 (m := 6) (by decide) (by decide) ?_
      refine R_lshl hC dX2_markNew_29 ?_
      refine R_lstore_4z hC dX2_markNew_30 rfl ?_
      refine R_aload_0 hC dX2_markNew_32 ?_
      refine R_getR hC dX2_markNew_33 fl_2_19 (by decide) rfl (by decide) (by decide) (fi := 2) rfl (r := 51) (gr_49_2 hG) ?_
      refine R_iload_3 hC dX2_markNew_36 ?_
      refine R_laload hC dX2_markNew_37 (by decide) rfl (by omega) (by omega) ?_
      refine R_lload_4 hC dX2_markNew_38 ?_
      refine R_land hC dX2_markNew_40 ?_
      refine R_lconst hC dX2_markNew_41 ?_
      refine R_lcmp hC dX2_markNew_42 ?_
      refine R_if_eq hC dX2_markNew_43 (tgt := 48) (by decide) (fun hb43 => ?_) (fun hb43 => ?_)
      · skip
        have hs : ¬ seenB (M 51) (v + 1) := fun z => z (cmp0.mp hb43)
        refine R_aload_0 hC dX2_markNew_48 ?_
        refine R_getR hC dX2_markNew_49 fl_2_19 (by decide) rfl (by decide) (by decide) (fi := 2) rfl (r := 51) (gr_49_2 hG) ?_
        refine R_iload_3 hC dX2_markNew_52 ?_
        refine R_dup2 hC dX2_markNew_53 rfl rfl ?_
        refine R_laload hC dX2_markNew_54 (by decide) rfl (by omega) (by omega) ?_
        refine R_lload_4 hC dX2_markNew_55 ?_
        refine R_lor hC dX2_markNew_57 ?_
        refine R_lastore hC dX2_markNew_58 (by decide) rfl (by omega) (by omega) ?_
        refine R_iconst hC dX2_markNew_59 ⟨by decide, by decide⟩ ?_
        exact R_ireturn hC dX2_markNew_60 rfl (ret_P ⟨Fr.uA Fr.rf (by decide), (bP_pos (fun q => hs q.2)).symm, seenT_set (by omega) (by omega) (fun a => by (rw [uM_row]; exact seen_set))⟩)
      · skip
        have hs : seenB (M 51) (v + 1) := fun z => hb43 (cmp0.mpr z)
        refine R_iconst hC dX2_markNew_46 ⟨by decide, by decide⟩ ?_
        exact R_ireturn hC dX2_markNew_47 rfl (ret_P ⟨Fr.rf, (bP_neg (fun q => q ⟨⟨by omega, by omega⟩, hs⟩)).symm, (set_same (T := seenT (M 51)) ⟨⟨by omega, by omega⟩, hs⟩).symm⟩)
    · skip
      omega
theorem dX2_newWith_0 : decode cX2_newWith 0 = .ok (.iconst 0, 1) := by decide +kernel
theorem dX2_newWith_1 : decode cX2_newWith 1 = .ok (.istore_n 3, 1) := by decide +kernel
theorem dX2_newWith_2 : decode cX2_newWith 2 = .ok (.iconst (-1), 1) := by decide +kernel
theorem dX2_newWith_3 : decode cX2_newWith 3 = .ok (.istore 4, 2) := by decide +kernel
theorem dX2_newWith_5 : decode cX2_newWith 5 = .ok (.iconst 0, 1) := by decide +kernel
theorem dX2_newWith_6 : decode cX2_newWith 6 = .ok (.istore 5, 2) := by decide +kernel
theorem dX2_newWith_8 : decode cX2_newWith 8 = .ok (.iload 5, 2) := by decide +kernel
theorem dX2_newWith_10 : decode cX2_newWith 10 = .ok (.bipush 16, 2) := by decide +kernel
theorem dX2_newWith_12 : decode cX2_newWith 12 = .ok (.if_icmp .ge 59, 3) := by decide +kernel
theorem dX2_newWith_15 : decode cX2_newWith 15 = .ok (.aload_n 0, 1) := by decide +kernel
theorem dX2_newWith_16 : decode cX2_newWith 16 = .ok (.aload_n 1, 1) := by decide +kernel
theorem dX2_newWith_17 : decode cX2_newWith 17 = .ok (.iload_n 2, 1) := by decide +kernel
theorem dX2_newWith_18 : decode cX2_newWith 18 = .ok (.iload 5, 2) := by decide +kernel
theorem dX2_newWith_20 : decode cX2_newWith 20 = .ok (.invokevirtual 60, 3) := by decide +kernel
theorem dX2_newWith_23 : decode cX2_newWith 23 = .ok (.istore 6, 2) := by decide +kernel
theorem dX2_newWith_25 : decode cX2_newWith 25 = .ok (.aload_n 0, 1) := by decide +kernel
theorem dX2_newWith_26 : decode cX2_newWith 26 = .ok (.getfield 15, 3) := by decide +kernel
theorem dX2_newWith_29 : decode cX2_newWith 29 = .ok (.iload_n 2, 1) := by decide +kernel
theorem dX2_newWith_30 : decode cX2_newWith 30 = .ok (.bipush 16, 2) := by decide +kernel
theorem dX2_newWith_32 : decode cX2_newWith 32 = .ok (.imul, 1) := by decide +kernel
theorem dX2_newWith_33 : decode cX2_newWith 33 = .ok (.iload 5, 2) := by decide +kernel
theorem dX2_newWith_35 : decode cX2_newWith 35 = .ok (.iadd, 1) := by decide +kernel
theorem dX2_newWith_36 : decode cX2_newWith 36 = .ok (.baload, 1) := by decide +kernel
theorem dX2_newWith_37 : decode cX2_newWith 37 = .ok (.ifCond .eq 28, 3) := by decide +kernel
theorem dX2_newWith_40 : decode cX2_newWith 40 = .ok (.iload 6, 2) := by decide +kernel
theorem dX2_newWith_42 : decode cX2_newWith 42 = .ok (.iload 4, 2) := by decide +kernel
theorem dX2_newWith_44 : decode cX2_newWith 44 = .ok (.if_icmp .eq 21, 3) := by decide +kernel
theorem dX2_newWith_47 : decode cX2_newWith 47 = .ok (.iload 6, 2) := by decide +kernel
theorem dX2_newWith_49 : decode cX2_newWith 49 = .ok (.istore 4, 2) := by decide +kernel
theorem dX2_newWith_51 : decode cX2_newWith 51 = .ok (.iload_n 3, 1) := by decide +kernel
theorem dX2_newWith_52 : decode cX2_newWith 52 = .ok (.aload_n 0, 1) := by decide +kernel
theorem dX2_newWith_53 : decode cX2_newWith 53 = .ok (.aload_n 0, 1) := by decide +kernel
theorem dX2_newWith_54 : decode cX2_newWith 54 = .ok (.iload_n 2, 1) := by decide +kernel
theorem dX2_newWith_55 : decode cX2_newWith 55 = .ok (.iload 4, 2) := by decide +kernel
theorem dX2_newWith_57 : decode cX2_newWith 57 = .ok (.invokevirtual 64, 3) := by decide +kernel
theorem dX2_newWith_60 : decode cX2_newWith 60 = .ok (.invokevirtual 121, 3) := by decide +kernel
theorem dX2_newWith_63 : decode cX2_newWith 63 = .ok (.iadd, 1) := by decide +kernel
theorem dX2_newWith_64 : decode cX2_newWith 64 = .ok (.istore_n 3, 1) := by decide +kernel
theorem dX2_newWith_65 : decode cX2_newWith 65 = .ok (.iinc 5 1, 3) := by decide +kernel
theorem dX2_newWith_68 : decode cX2_newWith 68 = .ok (.goto (-60), 3) := by decide +kernel
theorem dX2_newWith_71 : decode cX2_newWith 71 = .ok (.iload_n 3, 1) := by decide +kernel
theorem dX2_newWith_72 : decode cX2_newWith 72 = .ok (.ireturn, 1) := by decide +kernel
set_option maxHeartbeats 2000000 in
theorem c2_newWith {G : Gl} {l : Launch}  {M : Mem} {I : Ins} {d : Int → Int} {w : Int} {f : Int → Prop} (hG : GR M) (hI : SC M I) (hIb : IB I) (hD : M 4 = d) (hSP : SP d) (hOE : iO I = iO (insOf d) ∧ I.1 = (insOf d).1) (hw0 : 0 ≤ w) (hw1 : w < d 122) (hM20 : ∀ x, 0 ≤ x → x < iL I → iM I x ≤ 20) (hft : ∀ k, 0 ≤ k → k < 16 → M 50 (w * 16 + k) = bP (f k)) : Ct G LY 82 l 3 m2_newWith [vR 49, vR 3, vI w] M (RP (fun v M' => Fr [26, 31, 32, 35, 51] [] M M' ∧ (∃ s, 0 ≤ s ∧ s ≤ 1000 ∧ SC M' (setS I w s)) ∧ v = (nwS f (fun k => spcK I d w k + 1) (seenT (M 51)) 16).1 ∧ seenT (M' 51) = (nwS f (fun k => spcK I d w k + 1) (seenT (M 51)) 16).2)) := by
  refine R_start (by decide +kernel) (Nat.le_of_ble_eq_true rfl) (fun C hC hRm hlau => ?_)
  show RZ G LY C (Zn G LY 82 C (RP (fun v M' => Fr [26, 31, 32, 35, 51] [] M M' ∧ (∃ s, 0 ≤ s ∧ s ≤ 1000 ∧ SC M' (setS I w s)) ∧ v = (nwS f (fun k => spcK I d w k + 1) (seenT (M 51)) 16).1 ∧ seenT (M' 51) = (nwS f (fun k => spcK I d w k + 1) (seenT (M 51)) 16).2))) 0 0 82 0 [some (vR 49), some (vR 3), some (vI w), none, none, none, none] [] M
  have hLd := hSP.1.1
  have hWd := hSP.1.2
  have hIW : iW I = d 122 := congrArg Prod.snd hOE.2
  refine R_iconst hC dX2_newWith_0 ⟨by decide, by decide⟩ ?_
  refine R_istore_3 hC dX2_newWith_1 rfl ?_
  refine R_iconst hC dX2_newWith_2 ⟨by decide, by decide⟩ ?_
  refine R_istore_4 hC dX2_newWith_3 rfl ?_
  refine R_iconst hC dX2_newWith_5 ⟨by decide, by decide⟩ ?_
  refine R_istore_5 hC dX2_newWith_6 rfl ?_
  have L8 : ∀ (mq : Nat) (fd : Int) (sp : Int) (k : Int) (s1 : Int) (M1 : Mem), (0 ≤ k) → (k ≤ 16) → (GR M1) → (M1 4 = d) → (Fr [26, 31, 32, 35, 51] [] M M1) → (0 ≤ s1) → (s1 ≤ 1000) → (SC M1 (setS I w s1)) → (fd = (nwS f (fun k => spcK I d w k + 1) (seenT (M 51)) k.toNat).1) → (seenT (M1 51) = (nwS f (fun k => spcK I d w k + 1) (seenT (M 51)) k.toNat).2) → (sp = -1 ∨ seenT (M1 51) (SPC (setS I w sp) + 1)) → (16 - k).toNat < mq → RZ G LY C (Zn G LY 82 C (RP (fun v M' => Fr [26, 31, 32, 35, 51] [] M M' ∧ (∃ s, 0 ≤ s ∧ s ≤ 1000 ∧ SC M' (setS I w s)) ∧ v = (nwS f (fun k => spcK I d w k + 1) (seenT (M 51)) 16).1 ∧ seenT (M' 51) = (nwS f (fun k => spcK I d w k + 1) (seenT (M 51)) 16).2))) 0 0 82 8 [some (vR 49), some (vR 3), some (vI w), some (vI fd), some (vI sp), some (vI k), none] [] M1 := by
    intro mq
    induction mq with
    | zero =>
      intro fd sp k s1 M1 hk0 hk1 hg gr4 hF hs0 hs1 hSJ hfd hT hsp hm
      exact absurd hm (Nat.not_lt_zero _)
    | succ mq ih8 =>
      intro fd sp k s1 M1 hk0 hk1 hg gr4 hF hs0 hs1 hSJ hfd hT hsp hm8
      have hIs := hIb.setS (w := w) hs0 hs1
      have bF := nwS_bd (f := f) (g := (fun k => spcK I d w k + 1)) (T := seenT (M 51)) k.toNat
      have bK := spK_bd (k := k) hSP hw0 hw1 hk0
      have hf50 : M1 50 = M 50 := hF.row (by decide) (by decide)
      refine R_iload_5 hC dX2_newWith_8 ?_
      refine R_bipush hC dX2_newWith_10 (by decide +kernel) ⟨by decide, by decide⟩ ?_
      refine R_icmp_ge hC dX2_newWith_12 (tgt := 71) (by decide) (fun hb12 => ?_) (fun hb12 => ?_)
      · skip
        refine R_iload_3 hC dX2_newWith_71 ?_
        exact R_ireturn hC dX2_newWith_72 rfl (ret_P ⟨hF, ⟨s1, hs0, hs1, hSJ⟩, by rw [hfd, show k = 16 by omega]; rfl, by rw [hT, show k = 16 by omega]; rfl⟩)
      · skip
        refine R_aload_0 hC dX2_newWith_15 ?_
        refine R_aload_1 hC dX2_newWith_16 ?_
        refine R_iload_2 hC dX2_newWith_17 ?_
        refine R_iload_5 hC dX2_newWith_18 ?_
        refine R_callVq (as := [vR _, vI _, vI _]) hC dX2_newWith_20 mo_2_spareWith ml_2_60 (by decide) rfl rfl (c2_spareWith  hg hSJ hIs gr4 hSP hOE (by omega) (by omega) (by omega) (by omega)) rfl rfl hRm (by decide) (by decide) (Nat.le_of_ble_eq_true rfl) ?_
        have e20_1 := spK_bd (w := w) (k := k) hSP (by omega) (by omega) (by omega)
        refine R_istore_6 hC dX2_newWith_23 rfl ?_
        refine R_aload_0 hC dX2_newWith_25 ?_
        refine R_getR hC dX2_newWith_26 fl_2_15 (by decide) rfl (by decide) (by decide) (fi := 1) rfl (r := 50) (gr_49_1 hg) ?_
        refine R_iload_2 hC dX2_newWith_29 ?_
        refine R_bipush hC dX2_newWith_30 (by decide +kernel) ⟨by decide, by decide⟩ ?_
        refine R_imul hC dX2_newWith_32 ⟨by omega, by omega⟩ ?_
        refine R_iload_5 hC dX2_newWith_33 ?_
        refine R_iadd hC dX2_newWith_35 ⟨by omega, by omega⟩ ?_
        refine R_zaload hC dX2_newWith_36 (by decide) rfl (by omega) (by omega) ?_
        have L65 : ∀ (fd2 : Int) (sp2 : Int) (M2 : Mem), (GR M2) → (M2 4 = d) → (Fr [26, 31, 32, 35, 51] [] M M2) → (∃ s, 0 ≤ s ∧ s ≤ 1000 ∧ SC M2 (setS I w s)) → (fd2 = (nwS f (fun k => spcK I d w k + 1) (seenT (M 51)) (k + 1).toNat).1) → (seenT (M2 51) = (nwS f (fun k => spcK I d w k + 1) (seenT (M 51)) (k + 1).toNat).2) → (sp2 = -1 ∨ seenT (M2 51) (SPC (setS I w sp2) + 1)) → RZ G LY C (Zn G LY 82 C (RP (fun v M' => Fr [26, 31, 32, 35, 51] [] M M' ∧ (∃ s, 0 ≤ s ∧ s ≤ 1000 ∧ SC M' (setS I w s)) ∧ v = (nwS f (fun k => spcK I d w k + 1) (seenT (M 51)) 16).1 ∧ seenT (M' 51) = (nwS f (fun k => spcK I d w k + 1) (seenT (M 51)) 16).2))) 0 0 82 65 [some (vR 49), some (vR 3), some (vI w), some (vI fd2), some (vI sp2), some (vI k), some (vI (spK d w k))] [] M2 := by
          intro fd2 sp2 M2 hg2 gr42 hF2 hEx hfd2 hT2 hsp2
          obtain ⟨s2, hs20, hs21, hSJ2⟩ := hEx
          refine R_iinc_5 hC dX2_newWith_65 rfl ⟨by omega, by omega⟩ ?_
          refine R_goto hC dX2_newWith_68 (tgt := 8) (by decide) ?_
          refine R_weak (subL_c (subL_c (subL_c (subL_c (subL_c (subL_c (subL_d subL_n))))))) ?_
          exact ih8 _ _ _ s2 _ (by omega) (by omega) hg2 gr42 hF2 hs20 hs21 hSJ2 hfd2 hT2 hsp2 (by omega)
        rw [hf50, hft k hk0 (by omega)]
        refine R_if_eq hC dX2_newWith_37 (tgt := 65) (by decide) (fun hb37 => ?_) (fun hb37 => ?_)
        · skip
          replace hb37 := bP_z hb37
          have hEx : ∃ s, 0 ≤ s ∧ s ≤ 1000 ∧ SC M1 (setS I w s) := ⟨s1, hs0, hs1, hSJ⟩
          have zF := hF
          have z1 : fd = (nwS f (fun k => spcK I d w k + 1) (seenT (M 51)) (k + 1).toNat).1 := by rw [nwS_f hk0 rfl hb37]; exact hfd
          have z2 : seenT (M1 51) = (nwS f (fun k => spcK I d w k + 1) (seenT (M 51)) (k + 1).toNat).2 := by rw [nwS_f hk0 rfl hb37]; exact hT
          have z3 := hsp
          exact L65 _ _ _ hg gr4 zF hEx (by first | exact z1 | (rw [nwS_t hk0 rfl hpf]; show _ = _ + _; rw [hfd, q1]; rfl)) z2 z3
        · skip
          replace hb37 := bP_nz hb37
          have hpf : f k := hb37
          refine R_iload_6 hC dX2_newWith_40 ?_
          refine R_iload_4 hC dX2_newWith_42 ?_
          refine R_icmp_eq hC dX2_newWith_44 (tgt := 65) (by decide) (fun hb44 => ?_) (fun hb44 => ?_)
          · skip
            have hEx : ∃ s, 0 ≤ s ∧ s ≤ 1000 ∧ SC M1 (setS I w s) := ⟨s1, hs0, hs1, hSJ⟩
            have zF := hF
            have hin : seenT (M1 51) (spcK I d w k + 1) := by (have q := hsp.resolve_left (by omega); rw [← hb44] at q; exact q)
            have hne : nwS f (fun k => spcK I d w k + 1) (seenT (M 51)) (k + 1).toNat = nwS f (fun k => spcK I d w k + 1) (seenT (M 51)) k.toNat := nwS_in hk0 rfl hpf (by rw [← hT]; exact hin)
            have z1 : fd = (nwS f (fun k => spcK I d w k + 1) (seenT (M 51)) (k + 1).toNat).1 := by rw [hne]; exact hfd
            have z2 : seenT (M1 51) = (nwS f (fun k => spcK I d w k + 1) (seenT (M 51)) (k + 1).toNat).2 := by rw [hne]; exact hT
            have z3 := hsp
            exact L65 _ _ _ hg gr4 zF hEx (by first | exact z1 | (rw [nwS_t hk0 rfl hpf]; show _ = _ + _; rw [hfd, q1]; rfl)) z2 z3
          · skip
            refine R_iload_6 hC dX2_newWith_47 ?_
            refine R_istore_4 hC dX2_newWith_49 rfl ?_
            refine R_iload_3 hC dX2_newWith_51 ?_
            refine R_aload_0 hC dX2_newWith_52 ?_
            refine R_aload_0 hC dX2_newWith_53 ?_
            refine R_iload_2 hC dX2_newWith_54 ?_
            refine R_iload_4 hC dX2_newWith_55 ?_
            refine R_callVp (as := [vI _, vI _]) hC dX2_newWith_57 mo_2_spaceWith ml_2_64 (by decide) rfl rfl (c2_spaceWith  hg hSJ hIs (by omega) (show w < iW I by omega) (by omega) (by omega)) rfl rfl hRm (by decide) (by decide) (Nat.le_of_ble_eq_true rfl) (fun v4 Mc2 hq3 => ?_)
            have hSC5 := hq3.2.1
            have hrr : Mc2 51 = M1 51 := hq3.1.row (by decide) (by decide)
            have hvv := hq3.2.2
            rw [setS_S] at hvv
            have bv := SPC_ls (hIb.setS (w := w) bK.1 (show spK d w k ≤ 1000 by omega)) hM20
            rw [← hvv] at bv
            have hSa := hSC5
            rw [setS_S] at hSa
            have hG6 : GR Mc2 := (GR.fr hg hq3.1 (by decide +kernel))
            refine R_callVp (as := [vI _]) hC dX2_newWith_60 mo_2_markNew ml_2_121 (by decide) rfl rfl (c2_markNew  hG6 (by omega) (by omega)) rfl rfl hRm (by decide) (by decide) (Nat.le_of_ble_eq_true rfl) (fun v9 Mc7 hq8 => ?_)
            have q1 := hq8.2.1
            have q2 := hq8.2.2
            have b01 := bP_01q q1
            rw [hrr, hT, hvv] at q1 q2
            have hSb := SC.fr hSa hq8.1 (by decide) (by decide)
            have hEx : ∃ s, 0 ≤ s ∧ s ≤ 1000 ∧ SC Mc7 (setS I w s) := ⟨spK d w k, bK.1, by omega, hSb⟩
            have zF : Fr [26, 31, 32, 35, 51] [] M Mc7 := Fr.tt (Fr.tt hF (hq3.1.mo (by decide) (by decide))) (hq8.1.mo (by decide) (by decide))
            have z2 : seenT (Mc7 51) = (nwS f (fun k => spcK I d w k + 1) (seenT (M 51)) (k + 1).toNat).2 := by (rw [nwS_t hk0 rfl hpf]; exact q2)
            have z3 : spK d w k = -1 ∨ seenT (Mc7 51) (SPC (setS I w (spK d w k)) + 1) := .inr (by (rw [q2]; exact .inr rfl))
            refine R_iadd hC dX2_newWith_63 ⟨by omega, by omega⟩ ?_
            refine R_istore_3 hC dX2_newWith_64 rfl ?_
            have hG10 : GR Mc7 := (GR.fr hG6 hq8.1 (by decide +kernel))
            have hr11 : Mc7 4 = d := ((hq8.1.row (by decide) (by decide)).trans ((hq3.1.row (by decide) (by decide)).trans gr4))
            exact L65 _ _ _ hG10 hr11 zF hEx (by first | exact z1 | (rw [nwS_t hk0 rfl hpf]; show _ = _ + _; rw [hfd, q1]; rfl)) z2 z3
  exact L8 _ _ _ _ (iS I w) _ (by omega) (by omega) hG hD Fr.rf ((hIb.2.2.2.1 w hw0 (by omega)).1.1) ((hIb.2.2.2.1 w hw0 (by omega)).1.2) (by (rw [setS_i]; exact hI)) rfl rfl (.inl rfl) (Nat.lt_succ_self _)
theorem dX2_unlikeWith_0 : decode cX2_unlikeWith 0 = .ok (.aload_n 0, 1) := by decide +kernel
theorem dX2_unlikeWith_1 : decode cX2_unlikeWith 1 = .ok (.getfield 9, 3) := by decide +kernel
theorem dX2_unlikeWith_4 : decode cX2_unlikeWith 4 = .ok (.aload_n 1, 1) := by decide +kernel
theorem dX2_unlikeWith_5 : decode cX2_unlikeWith 5 = .ok (.invokevirtual 36, 3) := by decide +kernel
theorem dX2_unlikeWith_8 : decode cX2_unlikeWith 8 = .ok (.iconst 0, 1) := by decide +kernel
theorem dX2_unlikeWith_9 : decode cX2_unlikeWith 9 = .ok (.aload_n 1, 1) := by decide +kernel
theorem dX2_unlikeWith_10 : decode cX2_unlikeWith 10 = .ok (.iload_n 2, 1) := by decide +kernel
theorem dX2_unlikeWith_11 : decode cX2_unlikeWith 11 = .ok (.invokevirtual 105, 3) := by decide +kernel
theorem dX2_unlikeWith_14 : decode cX2_unlikeWith 14 = .ok (.iconst 1, 1) := by decide +kernel
theorem dX2_unlikeWith_15 : decode cX2_unlikeWith 15 = .ok (.isub, 1) := by decide +kernel
theorem dX2_unlikeWith_16 : decode cX2_unlikeWith 16 = .ok (.invokestatic 81, 3) := by decide +kernel
theorem dX2_unlikeWith_19 : decode cX2_unlikeWith 19 = .ok (.istore_n 3, 1) := by decide +kernel
theorem dX2_unlikeWith_20 : decode cX2_unlikeWith 20 = .ok (.iconst 0, 1) := by decide +kernel
theorem dX2_unlikeWith_21 : decode cX2_unlikeWith 21 = .ok (.aload_n 1, 1) := by decide +kernel
theorem dX2_unlikeWith_22 : decode cX2_unlikeWith 22 = .ok (.iload_n 2, 1) := by decide +kernel
theorem dX2_unlikeWith_23 : decode cX2_unlikeWith 23 = .ok (.invokevirtual 108, 3) := by decide +kernel
theorem dX2_unlikeWith_26 : decode cX2_unlikeWith 26 = .ok (.iload_n 3, 1) := by decide +kernel
theorem dX2_unlikeWith_27 : decode cX2_unlikeWith 27 = .ok (.isub, 1) := by decide +kernel
theorem dX2_unlikeWith_28 : decode cX2_unlikeWith 28 = .ok (.invokestatic 81, 3) := by decide +kernel
theorem dX2_unlikeWith_31 : decode cX2_unlikeWith 31 = .ok (.istore 4, 2) := by decide +kernel
theorem dX2_unlikeWith_33 : decode cX2_unlikeWith 33 = .ok (.aload_n 0, 1) := by decide +kernel
theorem dX2_unlikeWith_34 : decode cX2_unlikeWith 34 = .ok (.getfield 9, 3) := by decide +kernel
theorem dX2_unlikeWith_37 : decode cX2_unlikeWith 37 = .ok (.iload_n 2, 1) := by decide +kernel
theorem dX2_unlikeWith_38 : decode cX2_unlikeWith 38 = .ok (.iload 4, 2) := by decide +kernel
theorem dX2_unlikeWith_40 : decode cX2_unlikeWith 40 = .ok (.iload 4, 2) := by decide +kernel
theorem dX2_unlikeWith_42 : decode cX2_unlikeWith 42 = .ok (.aload_n 1, 1) := by decide +kernel
theorem dX2_unlikeWith_43 : decode cX2_unlikeWith 43 = .ok (.iload_n 2, 1) := by decide +kernel
theorem dX2_unlikeWith_44 : decode cX2_unlikeWith 44 = .ok (.invokevirtual 111, 3) := by decide +kernel
theorem dX2_unlikeWith_47 : decode cX2_unlikeWith 47 = .ok (.invokestatic 81, 3) := by decide +kernel
theorem dX2_unlikeWith_50 : decode cX2_unlikeWith 50 = .ok (.invokevirtual 114, 3) := by decide +kernel
theorem dX2_unlikeWith_53 : decode cX2_unlikeWith 53 = .ok (.iconst 0, 1) := by decide +kernel
theorem dX2_unlikeWith_54 : decode cX2_unlikeWith 54 = .ok (.istore 5, 2) := by decide +kernel
theorem dX2_unlikeWith_56 : decode cX2_unlikeWith 56 = .ok (.iload 5, 2) := by decide +kernel
theorem dX2_unlikeWith_58 : decode cX2_unlikeWith 58 = .ok (.aload_n 0, 1) := by decide +kernel
theorem dX2_unlikeWith_59 : decode cX2_unlikeWith 59 = .ok (.getfield 19, 3) := by decide +kernel
theorem dX2_unlikeWith_62 : decode cX2_unlikeWith 62 = .ok (.arraylength, 1) := by decide +kernel
theorem dX2_unlikeWith_63 : decode cX2_unlikeWith 63 = .ok (.if_icmp .ge 17, 3) := by decide +kernel
theorem dX2_unlikeWith_66 : decode cX2_unlikeWith 66 = .ok (.aload_n 0, 1) := by decide +kernel
theorem dX2_unlikeWith_67 : decode cX2_unlikeWith 67 = .ok (.getfield 19, 3) := by decide +kernel
theorem dX2_unlikeWith_70 : decode cX2_unlikeWith 70 = .ok (.iload 5, 2) := by decide +kernel
theorem dX2_unlikeWith_72 : decode cX2_unlikeWith 72 = .ok (.lconst 0, 1) := by decide +kernel
theorem dX2_unlikeWith_73 : decode cX2_unlikeWith 73 = .ok (.lastore, 1) := by decide +kernel
theorem dX2_unlikeWith_74 : decode cX2_unlikeWith 74 = .ok (.iinc 5 1, 3) := by decide +kernel
theorem dX2_unlikeWith_77 : decode cX2_unlikeWith 77 = .ok (.goto (-21), 3) := by decide +kernel
theorem dX2_unlikeWith_80 : decode cX2_unlikeWith 80 = .ok (.iconst 0, 1) := by decide +kernel
theorem dX2_unlikeWith_81 : decode cX2_unlikeWith 81 = .ok (.istore 5, 2) := by decide +kernel
theorem dX2_unlikeWith_83 : decode cX2_unlikeWith 83 = .ok (.iconst 0, 1) := by decide +kernel
theorem dX2_unlikeWith_84 : decode cX2_unlikeWith 84 = .ok (.istore 6, 2) := by decide +kernel
theorem dX2_unlikeWith_86 : decode cX2_unlikeWith 86 = .ok (.iload 6, 2) := by decide +kernel
theorem dX2_unlikeWith_88 : decode cX2_unlikeWith 88 = .ok (.aload_n 1, 1) := by decide +kernel
theorem dX2_unlikeWith_89 : decode cX2_unlikeWith 89 = .ok (.invokevirtual 42, 3) := by decide +kernel
theorem dX2_unlikeWith_92 : decode cX2_unlikeWith 92 = .ok (.if_icmp .ge 36, 3) := by decide +kernel
theorem dX2_unlikeWith_95 : decode cX2_unlikeWith 95 = .ok (.iload 5, 2) := by decide +kernel
theorem dX2_unlikeWith_97 : decode cX2_unlikeWith 97 = .ok (.aload_n 0, 1) := by decide +kernel
theorem dX2_unlikeWith_98 : decode cX2_unlikeWith 98 = .ok (.aload_n 1, 1) := by decide +kernel
theorem dX2_unlikeWith_99 : decode cX2_unlikeWith 99 = .ok (.iload 6, 2) := by decide +kernel
theorem dX2_unlikeWith_101 : decode cX2_unlikeWith 101 = .ok (.invokevirtual 118, 3) := by decide +kernel
theorem dX2_unlikeWith_104 : decode cX2_unlikeWith 104 = .ok (.iadd, 1) := by decide +kernel
theorem dX2_unlikeWith_105 : decode cX2_unlikeWith 105 = .ok (.istore 5, 2) := by decide +kernel
theorem dX2_unlikeWith_107 : decode cX2_unlikeWith 107 = .ok (.aload_n 0, 1) := by decide +kernel
theorem dX2_unlikeWith_108 : decode cX2_unlikeWith 108 = .ok (.getfield 9, 3) := by decide +kernel
theorem dX2_unlikeWith_111 : decode cX2_unlikeWith 111 = .ok (.iload 6, 2) := by decide +kernel
theorem dX2_unlikeWith_113 : decode cX2_unlikeWith 113 = .ok (.aload_n 1, 1) := by decide +kernel
theorem dX2_unlikeWith_114 : decode cX2_unlikeWith 114 = .ok (.iload 6, 2) := by decide +kernel
theorem dX2_unlikeWith_116 : decode cX2_unlikeWith 116 = .ok (.invokevirtual 52, 3) := by decide +kernel
theorem dX2_unlikeWith_119 : decode cX2_unlikeWith 119 = .ok (.invokevirtual 56, 3) := by decide +kernel
theorem dX2_unlikeWith_122 : decode cX2_unlikeWith 122 = .ok (.iinc 6 1, 3) := by decide +kernel
theorem dX2_unlikeWith_125 : decode cX2_unlikeWith 125 = .ok (.goto (-39), 3) := by decide +kernel
theorem dX2_unlikeWith_128 : decode cX2_unlikeWith 128 = .ok (.iload 5, 2) := by decide +kernel
theorem dX2_unlikeWith_130 : decode cX2_unlikeWith 130 = .ok (.ireturn, 1) := by decide +kernel
set_option maxHeartbeats 2000000 in
theorem c2_unlikeWith {G : Gl} {l : Launch}  {M : Mem} {d : Int → Int} {x : Int} {f : Int → Int → Prop} (hG : GR M) (hD : M 4 = d) (hSP : SP d) (hx0 : 0 ≤ x) (hx1 : x < d 121) (hft : ∀ w k, 0 ≤ w → w < d 122 → 0 ≤ k → k < 16 → M 50 (w * 16 + k) = bP (f w k)) : Ct G LY 82 l 4 m2_unlikeWith [vR 49, vR 3, vI x] M (RP (fun v M' => Fr [25, 26, 27, 28, 29, 30, 31, 32, 33, 34, 35, 51] [(24, 11), (24, 12), (24, 13)] M M' ∧ v = (nwA f (fun w k => spcK (setNM (insOf d) x (max 0 (inAll d x - max 0 (d x - 1))) (max (max 0 (inAll d x - max 0 (d x - 1))) (d (5 + x)))) d w k + 1) (d 122).toNat).1)) := by
  refine R_start (by decide +kernel) (Nat.le_of_ble_eq_true rfl) (fun C hC hRm hlau => ?_)
  show RZ G LY C (Zn G LY 82 C (RP (fun v M' => Fr [25, 26, 27, 28, 29, 30, 31, 32, 33, 34, 35, 51] [(24, 11), (24, 12), (24, 13)] M M' ∧ v = (nwA f (fun w k => spcK (setNM (insOf d) x (max 0 (inAll d x - max 0 (d x - 1))) (max (max 0 (inAll d x - max 0 (d x - 1))) (d (5 + x)))) d w k + 1) (d 122).toNat).1))) 0 0 82 0 [some (vR 49), some (vR 3), some (vI x), none, none, none, none] [] M
  have hLd := hSP.1.1
  have hWd := hSP.1.2
  have hIb0 := SP.I hSP
  have bx := hSP.2.1 x hx0 (by omega)
  have bi := hSP.inA hx0 (show x < 5 by omega)
  have hIU : IB (setNM (insOf d) x (max 0 (inAll d x - max 0 (d x - 1))) (max (max 0 (inAll d x - max 0 (d x - 1))) (d (5 + x)))) := hIb0.setNM (by omega) (by omega) (by omega)
  have hM20 : ∀ y, 0 ≤ y → y < iL (setNM (insOf d) x (max 0 (inAll d x - max 0 (d x - 1))) (max (max 0 (inAll d x - max 0 (d x - 1))) (d (5 + x)))) → iM (setNM (insOf d) x (max 0 (inAll d x - max 0 (d x - 1))) (max (max 0 (inAll d x - max 0 (d x - 1))) (d (5 + x)))) y ≤ 20 := fun y y0 y1 => by
        have yL : y < d 121 := y1
        have b1 := hSP.2.1 y y0 (by omega)
        have b2 := hSP.ne y0 (show y < 5 by omega)
        show (if y = x then _ else max (nee d y) (d (5 + y))) ≤ 20
        split <;> omega
  refine R_aload_0 hC dX2_unlikeWith_0 ?_
  refine R_getR hC dX2_unlikeWith_1 fl_2_9 (by decide) rfl (by decide) (by decide) (fi := 0) rfl (r := 24) (gr_49_0 hG) ?_
  refine R_aload_1 hC dX2_unlikeWith_4 ?_
  refine R_callVv (as := [vR _]) hC dX2_unlikeWith_5 mo_6_load ml_2_36 (by decide) rfl rfl (c6_load  hG sh_3 hD hSP.B) rfl rfl hRm (by decide) (by decide) (Nat.le_of_ble_eq_true rfl) (fun Mc1 hq2 => ?_)
  have hSC3 := hq2.2
  refine R_iconst hC dX2_unlikeWith_8 ⟨by decide, by decide⟩ ?_
  refine R_aload_1 hC dX2_unlikeWith_9 ?_
  refine R_iload_2 hC dX2_unlikeWith_10 ?_
  have hr4 : Mc1 4 = d := ((hq2.1.row (by decide) (by decide)).trans hD)
  have hG5 : GR Mc1 := (GR.fr hG hq2.1 (by decide +kernel))
  refine R_callVq (as := [vI _]) hC dX2_unlikeWith_11 mo_8_roomOf ml_2_105 (by decide) rfl rfl (c8_roomOf_d  hr4 hG5 sh_3 (by omega) (by omega)) rfl rfl hRm (by decide) (by decide) (Nat.le_of_ble_eq_true rfl) ?_
  refine R_iconst hC dX2_unlikeWith_14 ⟨by decide, by decide⟩ ?_
  refine R_isub hC dX2_unlikeWith_15 ⟨by omega, by omega⟩ ?_
  refine R_max hC dX2_unlikeWith_16 jl_2_81 hRm (by decide) (Nat.le_of_ble_eq_true rfl) ?_
  refine R_istore_3 hC dX2_unlikeWith_19 rfl ?_
  refine R_iconst hC dX2_unlikeWith_20 ⟨by decide, by decide⟩ ?_
  refine R_aload_1 hC dX2_unlikeWith_21 ?_
  refine R_iload_2 hC dX2_unlikeWith_22 ?_
  refine R_callVq (as := [vI _]) hC dX2_unlikeWith_23 mo_8_copiesIn ml_2_108 (by decide) rfl rfl (c8_copiesIn_d  hr4 hG5 sh_3 hSP.B (by omega) (by omega)) rfl rfl hRm (by decide) (by decide) (Nat.le_of_ble_eq_true rfl) ?_
  have e23_6 := inAll_bd (x := x) hSP.B (by omega) (by omega)
  refine R_iload_3 hC dX2_unlikeWith_26 ?_
  refine R_isub hC dX2_unlikeWith_27 ⟨by omega, by omega⟩ ?_
  refine R_max hC dX2_unlikeWith_28 jl_2_81 hRm (by decide) (Nat.le_of_ble_eq_true rfl) ?_
  refine R_istore_4 hC dX2_unlikeWith_31 rfl ?_
  refine R_aload_0 hC dX2_unlikeWith_33 ?_
  refine R_getR hC dX2_unlikeWith_34 fl_2_9 (by decide) rfl (by decide) (by decide) (fi := 0) rfl (r := 24) (gr_49_0 hG5) ?_
  refine R_iload_2 hC dX2_unlikeWith_37 ?_
  refine R_iload_4 hC dX2_unlikeWith_38 ?_
  refine R_iload_4 hC dX2_unlikeWith_40 ?_
  refine R_aload_1 hC dX2_unlikeWith_42 ?_
  refine R_iload_2 hC dX2_unlikeWith_43 ?_
  refine R_callVq (as := [vI _]) hC dX2_unlikeWith_44 mo_8_wishOf ml_2_111 (by decide) rfl rfl (c8_wishOf_d  hr4 hG5 sh_3 (by omega) (by omega)) rfl rfl hRm (by decide) (by decide) (Nat.le_of_ble_eq_true rfl) ?_
  refine R_max hC dX2_unlikeWith_47 jl_2_81 hRm (by decide) (Nat.le_of_ble_eq_true rfl) ?_
  refine R_callVv (as := [vI _, vI _, vI _]) hC dX2_unlikeWith_50 mo_6_setLibrary ml_2_114 (by decide) rfl rfl (c6_setLibrary  hG5 hSC3 (SP.I hSP) (by omega) (show x < d 121 by omega) (by omega) (by omega) (by omega) (by omega)) rfl rfl hRm (by decide) (by decide) (Nat.le_of_ble_eq_true rfl) (fun Mc7 hq8 => ?_)
  have hSC9 := hq8.2
  refine R_iconst hC dX2_unlikeWith_53 ⟨by decide, by decide⟩ ?_
  refine R_istore_5 hC dX2_unlikeWith_54 rfl ?_
  have L56 : ∀ (mq : Nat) (k : Int) (M1 : Mem), (0 ≤ k) → (k ≤ 16) → (GR M1) → (M1 4 = d) → (Fr [25, 26, 27, 28, 29, 30, 31, 32, 33, 34, 35, 51] [(24, 11), (24, 12), (24, 13)] M M1) → (SC M1 (setNM (insOf d) x (max 0 (inAll d x - max 0 (d x - 1))) (max (max 0 (inAll d x - max 0 (d x - 1))) (d (5 + x))))) → (∀ i, 0 ≤ i → i < k → M1 51 i = 0) → (16 - k).toNat < mq → RZ G LY C (Zn G LY 82 C (RP (fun v M' => Fr [25, 26, 27, 28, 29, 30, 31, 32, 33, 34, 35, 51] [(24, 11), (24, 12), (24, 13)] M M' ∧ v = (nwA f (fun w k => spcK (setNM (insOf d) x (max 0 (inAll d x - max 0 (d x - 1))) (max (max 0 (inAll d x - max 0 (d x - 1))) (d (5 + x)))) d w k + 1) (d 122).toNat).1))) 0 0 82 56 [some (vR 49), some (vR 3), some (vI x), some (vI (max 0 ((d x) - 1))), some (vI (max 0 ((inAll (d) x) - (max 0 ((d x) - 1))))), some (vI k), none] [] M1 := by
    intro mq
    induction mq with
    | zero =>
      intro k M1 hk0 hk1 hg gr4 hF hSJ hz hm
      exact absurd hm (Nat.not_lt_zero _)
    | succ mq ih56 =>
      intro k M1 hk0 hk1 hg gr4 hF hSJ hz hm56
      refine R_iload_5 hC dX2_unlikeWith_56 ?_
      refine R_aload_0 hC dX2_unlikeWith_58 ?_
      refine R_getR hC dX2_unlikeWith_59 fl_2_19 (by decide) rfl (by decide) (by decide) (fi := 2) rfl (r := 51) (gr_49_2 hg) ?_
      refine R_alen hC dX2_unlikeWith_62 (by decide) rfl (by decide) (by decide) (by decide) ?_
      refine R_icmp_ge hC dX2_unlikeWith_63 (tgt := 80) (by decide) (fun hb63 => ?_) (fun hb63 => ?_)
      · skip
        refine R_iconst hC dX2_unlikeWith_80 ⟨by decide, by decide⟩ ?_
        refine R_istore_5 hC dX2_unlikeWith_81 rfl ?_
        refine R_iconst hC dX2_unlikeWith_83 ⟨by decide, by decide⟩ ?_
        refine R_istore_6 hC dX2_unlikeWith_84 rfl ?_
        have L86 : ∀ (mq : Nat) (fd : Int) (w : Int) (M2 : Mem), (0 ≤ w) → (w ≤ d 122) → (GR M2) → (M2 4 = d) → (Fr [25, 26, 27, 28, 29, 30, 31, 32, 33, 34, 35, 51] [(24, 11), (24, 12), (24, 13)] M M2) → (SC M2 (setNM (insOf d) x (max 0 (inAll d x - max 0 (d x - 1))) (max (max 0 (inAll d x - max 0 (d x - 1))) (d (5 + x))))) → (fd = (nwA f (fun w k => spcK (setNM (insOf d) x (max 0 (inAll d x - max 0 (d x - 1))) (max (max 0 (inAll d x - max 0 (d x - 1))) (d (5 + x)))) d w k + 1) (w).toNat).1) → (seenT (M2 51) = (nwA f (fun w k => spcK (setNM (insOf d) x (max 0 (inAll d x - max 0 (d x - 1))) (max (max 0 (inAll d x - max 0 (d x - 1))) (d (5 + x)))) d w k + 1) (w).toNat).2) → (d 122 - w).toNat < mq → RZ G LY C (Zn G LY 82 C (RP (fun v M' => Fr [25, 26, 27, 28, 29, 30, 31, 32, 33, 34, 35, 51] [(24, 11), (24, 12), (24, 13)] M M' ∧ v = (nwA f (fun w k => spcK (setNM (insOf d) x (max 0 (inAll d x - max 0 (d x - 1))) (max (max 0 (inAll d x - max 0 (d x - 1))) (d (5 + x)))) d w k + 1) (d 122).toNat).1))) 0 0 82 86 [some (vR 49), some (vR 3), some (vI x), some (vI (max 0 ((d x) - 1))), some (vI (max 0 ((inAll (d) x) - (max 0 ((d x) - 1))))), some (vI fd), some (vI w)] [] M2 := by
          intro mq
          induction mq with
          | zero =>
            intro fd w M2 hw0 hw1 hg2 gr42 hF2 hSJ2 hfd hT hm
            exact absurd hm (Nat.not_lt_zero _)
          | succ mq ih86 =>
            intro fd w M2 hw0 hw1 hg2 gr42 hF2 hSJ2 hfd hT hm86
            have bA := nwA_bd (f := f) (g := fun w k => spcK (setNM (insOf d) x (max 0 (inAll d x - max 0 (d x - 1))) (max (max 0 (inAll d x - max 0 (d x - 1))) (d (5 + x)))) d w k + 1) w.toNat
            refine R_iload_6 hC dX2_unlikeWith_86 ?_
            refine R_aload_1 hC dX2_unlikeWith_88 ?_
            refine R_callVq (as := []) hC dX2_unlikeWith_89 mo_8_works ml_2_42 (by decide) rfl rfl (c8_works_d  gr42 hg2 sh_3) rfl rfl hRm (by decide) (by decide) (Nat.le_of_ble_eq_true rfl) ?_
            refine R_icmp_ge hC dX2_unlikeWith_92 (tgt := 128) (by decide) (fun hb92 => ?_) (fun hb92 => ?_)
            · skip
              refine R_iload_5 hC dX2_unlikeWith_128 ?_
              exact R_ireturn hC dX2_unlikeWith_130 rfl (ret_P ⟨hF2, by rw [hfd, show w = d 122 by omega]⟩)
            · skip
              refine R_iload_5 hC dX2_unlikeWith_95 ?_
              refine R_aload_0 hC dX2_unlikeWith_97 ?_
              refine R_aload_1 hC dX2_unlikeWith_98 ?_
              refine R_iload_6 hC dX2_unlikeWith_99 ?_
              refine R_callVp (as := [vR _, vI _]) hC dX2_unlikeWith_101 mo_2_newWith ml_2_118 (by decide) rfl rfl (c2_newWith (f := (f w)) hg2 hSJ2 hIU gr42 hSP (⟨rfl, rfl⟩) (by omega) (by omega) hM20 (fun k a b => (congrFun (hF2.row (by decide) (by decide)) _).trans (hft w k hw0 (by omega) a b))) rfl rfl hRm (by decide) (by decide) (Nat.le_of_ble_eq_true rfl) (fun v12 Mc10 hq11 => ?_)
              obtain ⟨sx, sx0, sx1, hSx⟩ := hq11.2.1
              have ev := hq11.2.2.1
              have eT := hq11.2.2.2
              rw [hT] at ev eT
              have bN := nwS_bd (f := f w) (g := fun k => spcK (setNM (insOf d) x (max 0 (inAll d x - max 0 (d x - 1))) (max (max 0 (inAll d x - max 0 (d x - 1))) (d (5 + x)))) d w k + 1) (T := (nwA f (fun w k => spcK (setNM (insOf d) x (max 0 (inAll d x - max 0 (d x - 1))) (max (max 0 (inAll d x - max 0 (d x - 1))) (d (5 + x)))) d w k + 1) (w).toNat).2) 16
              rw [← ev] at bN
              have bs := hSP.sr hw0 (show w < 6 by omega)
              refine R_iadd hC dX2_unlikeWith_104 ⟨by omega, by omega⟩ ?_
              refine R_istore_5 hC dX2_unlikeWith_105 rfl ?_
              refine R_aload_0 hC dX2_unlikeWith_107 ?_
              have hG13 : GR Mc10 := (GR.fr hg2 hq11.1 (by decide +kernel))
              refine R_getR hC dX2_unlikeWith_108 fl_2_9 (by decide) rfl (by decide) (by decide) (fi := 0) rfl (r := 24) (gr_49_0 hG13) ?_
              refine R_iload_6 hC dX2_unlikeWith_111 ?_
              refine R_aload_1 hC dX2_unlikeWith_113 ?_
              refine R_iload_6 hC dX2_unlikeWith_114 ?_
              have hr14 : Mc10 4 = d := ((hq11.1.row (by decide) (by decide)).trans gr42)
              refine R_callVq (as := [vI _]) hC dX2_unlikeWith_116 mo_8_spareOf ml_2_52 (by decide) rfl rfl (c8_spareOf_d  hr14 hG13 sh_3 hSP.B (by omega) (by omega)) rfl rfl hRm (by decide) (by decide) (Nat.le_of_ble_eq_true rfl) ?_
              have e116_15 := spr_bd (w := w) hSP.B (by omega) (by omega)
              refine R_callVv (as := [vI _, vI _]) hC dX2_unlikeWith_119 mo_6_setSpare ml_2_56 (by decide) rfl rfl (c6_setSpare  hG13 (hSx.w w) (hIU.setS (w := w) sx0 sx1) (by omega) (show w < d 122 by omega) (by omega)) rfl rfl hRm (by decide) (by decide) (Nat.le_of_ble_eq_true rfl) (fun Mc16 hq17 => ?_)
              have hSC18 := hq17.2
              have hSJ3 : SC Mc16 (setNM (insOf d) x (max 0 (inAll d x - max 0 (d x - 1))) (max (max 0 (inAll d x - max 0 (d x - 1))) (d (5 + x)))) := by
                have z := hSC18
                have bs1 := bs.1
                rw [setS_S, show max 0 (spr d w) = iS (setNM (insOf d) x (max 0 (inAll d x - max 0 (d x - 1))) (max (max 0 (inAll d x - max 0 (d x - 1))) (d (5 + x)))) w from (by show max 0 (spr d w) = spr d w; omega), setS_i] at z
                exact z
              refine R_iinc_6 hC dX2_unlikeWith_122 rfl ⟨by omega, by omega⟩ ?_
              refine R_goto hC dX2_unlikeWith_125 (tgt := 86) (by decide) ?_
              have hG19 : GR Mc16 := (GR.fr hG13 hq17.1 (by decide +kernel))
              have hr20 : Mc16 4 = d := ((hq17.1.row (by decide) (by decide)).trans hr14)
              exact ih86 _ _ _ (by omega) (by omega) hG19 hr20 (Fr.tt (Fr.tt hF2 (hq11.1.mo (by decide) (by decide))) (hq17.1.mo (by decide) (by decide))) hSJ3 (by (rw [nwA_s hw0 rfl]; show _ = _ + _; rw [hfd, ev])) (by (rw [show Mc16 51 = _ from hq17.1.row (by decide) (by decide), eT, nwA_s hw0 rfl])) (by omega)
        exact L86 _ _ _ _ (by omega) (by omega) hg gr4 hF hSJ rfl (seenT_none (fun i a b => hz i a (by omega))) (Nat.lt_succ_self _)
      · skip
        refine R_aload_0 hC dX2_unlikeWith_66 ?_
        refine R_getR hC dX2_unlikeWith_67 fl_2_19 (by decide) rfl (by decide) (by decide) (fi := 2) rfl (r := 51) (gr_49_2 hg) ?_
        refine R_iload_5 hC dX2_unlikeWith_70 ?_
        refine R_lconst hC dX2_unlikeWith_72 ?_
        refine R_lastore hC dX2_unlikeWith_73 (by decide) rfl (by omega) (by omega) ?_
        refine R_iinc_5 hC dX2_unlikeWith_74 rfl ⟨by omega, by omega⟩ ?_
        refine R_goto hC dX2_unlikeWith_77 (tgt := 56) (by decide) ?_
        have hG21 : GR (uM M1 51 k 0) := (GR.uA hg (by decide +kernel) (.inl (by decide)))
        have hr22 : (uM M1 51 k 0) 4 = d := ((uM_ne (by decide)).trans gr4)
        exact ih56 _ _ (by omega) (by omega) hG21 hr22 (Fr.uA hF (by decide)) (SC.u hSJ (by decide)) (row_set hz rfl rfl) (by omega)
  have hG23 : GR Mc7 := (GR.fr hG5 hq8.1 (by decide +kernel))
  have hr24 : Mc7 4 = d := ((hq8.1.row (by decide) (by decide)).trans hr4)
  exact L56 _ _ _ (by omega) (by omega) hG23 hr24 (Fr.tt (hq2.1.mo (by decide) (by decide)) (hq8.1.mo (by decide) (by decide))) hSC9 (fun i a b => by omega) (Nat.lt_succ_self _)
theorem dX2_lookNext_0 : decode cX2_lookNext 0 = .ok (.aload_n 0, 1) := by decide +kernel
theorem dX2_lookNext_1 : decode cX2_lookNext 1 = .ok (.iconst (-1), 1) := by decide +kernel
theorem dX2_lookNext_2 : decode cX2_lookNext 2 = .ok (.putfield 92, 3) := by decide +kernel
theorem dX2_lookNext_5 : decode cX2_lookNext 5 = .ok (.aload_n 0, 1) := by decide +kernel
theorem dX2_lookNext_6 : decode cX2_lookNext 6 = .ok (.iconst 0, 1) := by decide +kernel
theorem dX2_lookNext_7 : decode cX2_lookNext 7 = .ok (.putfield 95, 3) := by decide +kernel
theorem dX2_lookNext_10 : decode cX2_lookNext 10 = .ok (.aload_n 0, 1) := by decide +kernel
theorem dX2_lookNext_11 : decode cX2_lookNext 11 = .ok (.getfield 29, 3) := by decide +kernel
theorem dX2_lookNext_14 : decode cX2_lookNext 14 = .ok (.ifCond .ne 4, 3) := by decide +kernel
theorem dX2_lookNext_17 : decode cX2_lookNext 17 = .ok (.return_, 1) := by decide +kernel
theorem dX2_lookNext_18 : decode cX2_lookNext 18 = .ok (.iconst 0, 1) := by decide +kernel
theorem dX2_lookNext_19 : decode cX2_lookNext 19 = .ok (.istore_n 2, 1) := by decide +kernel
theorem dX2_lookNext_20 : decode cX2_lookNext 20 = .ok (.iload_n 2, 1) := by decide +kernel
theorem dX2_lookNext_21 : decode cX2_lookNext 21 = .ok (.aload_n 1, 1) := by decide +kernel
theorem dX2_lookNext_22 : decode cX2_lookNext 22 = .ok (.invokevirtual 98, 3) := by decide +kernel
theorem dX2_lookNext_25 : decode cX2_lookNext 25 = .ok (.if_icmp .ge 34, 3) := by decide +kernel
theorem dX2_lookNext_28 : decode cX2_lookNext 28 = .ok (.aload_n 0, 1) := by decide +kernel
theorem dX2_lookNext_29 : decode cX2_lookNext 29 = .ok (.aload_n 1, 1) := by decide +kernel
theorem dX2_lookNext_30 : decode cX2_lookNext 30 = .ok (.iload_n 2, 1) := by decide +kernel
theorem dX2_lookNext_31 : decode cX2_lookNext 31 = .ok (.invokevirtual 101, 3) := by decide +kernel
theorem dX2_lookNext_34 : decode cX2_lookNext 34 = .ok (.istore_n 3, 1) := by decide +kernel
theorem dX2_lookNext_35 : decode cX2_lookNext 35 = .ok (.iload_n 3, 1) := by decide +kernel
theorem dX2_lookNext_36 : decode cX2_lookNext 36 = .ok (.aload_n 0, 1) := by decide +kernel
theorem dX2_lookNext_37 : decode cX2_lookNext 37 = .ok (.getfield 95, 3) := by decide +kernel
theorem dX2_lookNext_40 : decode cX2_lookNext 40 = .ok (.if_icmp .le 13, 3) := by decide +kernel
theorem dX2_lookNext_43 : decode cX2_lookNext 43 = .ok (.aload_n 0, 1) := by decide +kernel
theorem dX2_lookNext_44 : decode cX2_lookNext 44 = .ok (.iload_n 3, 1) := by decide +kernel
theorem dX2_lookNext_45 : decode cX2_lookNext 45 = .ok (.putfield 95, 3) := by decide +kernel
theorem dX2_lookNext_48 : decode cX2_lookNext 48 = .ok (.aload_n 0, 1) := by decide +kernel
theorem dX2_lookNext_49 : decode cX2_lookNext 49 = .ok (.iload_n 2, 1) := by decide +kernel
theorem dX2_lookNext_50 : decode cX2_lookNext 50 = .ok (.putfield 92, 3) := by decide +kernel
theorem dX2_lookNext_53 : decode cX2_lookNext 53 = .ok (.iinc 2 1, 3) := by decide +kernel
theorem dX2_lookNext_56 : decode cX2_lookNext 56 = .ok (.goto (-36), 3) := by decide +kernel
theorem dX2_lookNext_59 : decode cX2_lookNext 59 = .ok (.return_, 1) := by decide +kernel
set_option maxHeartbeats 2000000 in
theorem c2_lookNext {G : Gl} {l : Launch}  {M : Mem} {d : Int → Int} {f : Int → Int → Prop} (hG : GR M) (hD : M 4 = d) (hSP : SP d) (hft : ∀ w k, 0 ≤ w → w < d 122 → 0 ≤ k → k < 16 → M 50 (w * 16 + k) = bP (f w k)) : Ct G LY 82 l 5 m2_lookNext [vR 49, vR 3] M (RV (fun M' => Fr [25, 26, 27, 28, 29, 30, 31, 32, 33, 34, 35, 51] [(24, 11), (24, 12), (24, 13), (49, 5), (49, 6)] M M' ∧ M' 49 5 = (if M 49 3 = 0 then -1 else (ubF (fun x => (nwA f (fun w k => spcK (setNM (insOf d) x (max 0 (inAll d x - max 0 (d x - 1))) (max (max 0 (inAll d x - max 0 (d x - 1))) (d (5 + x)))) d w k + 1) (d 122).toNat).1) (d 121).toNat).2) ∧ M' 49 6 = (if M 49 3 = 0 then 0 else (ubF (fun x => (nwA f (fun w k => spcK (setNM (insOf d) x (max 0 (inAll d x - max 0 (d x - 1))) (max (max 0 (inAll d x - max 0 (d x - 1))) (d (5 + x)))) d w k + 1) (d 122).toNat).1) (d 121).toNat).1))) := by
  refine R_start (by decide +kernel) (Nat.le_of_ble_eq_true rfl) (fun C hC hRm hlau => ?_)
  show RZ G LY C (Zn G LY 82 C (RV (fun M' => Fr [25, 26, 27, 28, 29, 30, 31, 32, 33, 34, 35, 51] [(24, 11), (24, 12), (24, 13), (49, 5), (49, 6)] M M' ∧ M' 49 5 = (if M 49 3 = 0 then -1 else (ubF (fun x => (nwA f (fun w k => spcK (setNM (insOf d) x (max 0 (inAll d x - max 0 (d x - 1))) (max (max 0 (inAll d x - max 0 (d x - 1))) (d (5 + x)))) d w k + 1) (d 122).toNat).1) (d 121).toNat).2) ∧ M' 49 6 = (if M 49 3 = 0 then 0 else (ubF (fun x => (nwA f (fun w k => spcK (setNM (insOf d) x (max 0 (inAll d x - max 0 (d x - 1))) (max (max 0 (inAll d x - max 0 (d x - 1))) (d (5 + x)))) d w k + 1) (d 122).toNat).1) (d 121).toNat).1)))) 0 0 82 0 [some (vR 49), some (vR 3), none, none] [] M
  have hLd := hSP.1.1
  have hWd := hSP.1.2
  refine R_aload_0 hC dX2_lookNext_0 ?_
  refine R_iconst hC dX2_lookNext_1 ⟨by decide, by decide⟩ ?_
  refine R_putI hC dX2_lookNext_2 fl_2_92 (by decide) rfl (by decide) (by decide) (fi := 5) rfl ?_
  refine R_aload_0 hC dX2_lookNext_5 ?_
  refine R_iconst hC dX2_lookNext_6 ⟨by decide, by decide⟩ ?_
  refine R_putI hC dX2_lookNext_7 fl_2_95 (by decide) rfl (by decide) (by decide) (fi := 6) rfl ?_
  refine R_aload_0 hC dX2_lookNext_10 ?_
  refine R_getIE hC dX2_lookNext_11 fl_2_29 (by decide) rfl (by decide) (by decide) (fi := 3) rfl ((uM_k (by decide)).trans (uM_k (by decide))) ?_
  refine R_if_ne hC dX2_lookNext_14 (tgt := 18) (by decide) (fun hb14 => ?_) (fun hb14 => ?_)
  · skip
    refine R_iconst hC dX2_lookNext_18 ⟨by decide, by decide⟩ ?_
    refine R_istore_2 hC dX2_lookNext_19 rfl ?_
    have L20 : ∀ (mq : Nat) (x : Int) (M1 : Mem), (0 ≤ x) → (x ≤ d 121) → (GR M1) → (M1 4 = d) → (Fr [25, 26, 27, 28, 29, 30, 31, 32, 33, 34, 35, 51] [(24, 11), (24, 12), (24, 13), (49, 5), (49, 6)] M M1) → (M1 49 5 = (ubF (fun x => (nwA f (fun w k => spcK (setNM (insOf d) x (max 0 (inAll d x - max 0 (d x - 1))) (max (max 0 (inAll d x - max 0 (d x - 1))) (d (5 + x)))) d w k + 1) (d 122).toNat).1) x.toNat).2) → (M1 49 6 = (ubF (fun x => (nwA f (fun w k => spcK (setNM (insOf d) x (max 0 (inAll d x - max 0 (d x - 1))) (max (max 0 (inAll d x - max 0 (d x - 1))) (d (5 + x)))) d w k + 1) (d 122).toNat).1) x.toNat).1) → (d 121 - x).toNat < mq → RZ G LY C (Zn G LY 82 C (RV (fun M' => Fr [25, 26, 27, 28, 29, 30, 31, 32, 33, 34, 35, 51] [(24, 11), (24, 12), (24, 13), (49, 5), (49, 6)] M M' ∧ M' 49 5 = (if M 49 3 = 0 then -1 else (ubF (fun x => (nwA f (fun w k => spcK (setNM (insOf d) x (max 0 (inAll d x - max 0 (d x - 1))) (max (max 0 (inAll d x - max 0 (d x - 1))) (d (5 + x)))) d w k + 1) (d 122).toNat).1) (d 121).toNat).2) ∧ M' 49 6 = (if M 49 3 = 0 then 0 else (ubF (fun x => (nwA f (fun w k => spcK (setNM (insOf d) x (max 0 (inAll d x - max 0 (d x - 1))) (max (max 0 (inAll d x - max 0 (d x - 1))) (d (5 + x)))) d w k + 1) (d 122).toNat).1) (d 121).toNat).1)))) 0 0 82 20 [some (vR 49), some (vR 3), some (vI x), none] [] M1 := by
      intro mq
      induction mq with
      | zero =>
        intro x M1 hx0 hx1 hg gr4 hF h5 h6 hm
        exact absurd hm (Nat.not_lt_zero _)
      | succ mq ih20 =>
        intro x M1 hx0 hx1 hg gr4 hF h5 h6 hm20
        refine R_iload_2 hC dX2_lookNext_20 ?_
        refine R_aload_1 hC dX2_lookNext_21 ?_
        refine R_callVq (as := []) hC dX2_lookNext_22 mo_8_libraries ml_2_98 (by decide) rfl rfl (c8_libraries_d  gr4 hg sh_3) rfl rfl hRm (by decide) (by decide) (Nat.le_of_ble_eq_true rfl) ?_
        refine R_icmp_ge hC dX2_lookNext_25 (tgt := 59) (by decide) (fun hb25 => ?_) (fun hb25 => ?_)
        · skip
          exact R_return hC dX2_lookNext_59 rfl (ret_V ⟨hF, by rw [if_neg hb14, h5, show x = d 121 by omega], by rw [if_neg hb14, h6, show x = d 121 by omega]⟩)
        · skip
          refine R_aload_0 hC dX2_lookNext_28 ?_
          refine R_aload_1 hC dX2_lookNext_29 ?_
          refine R_iload_2 hC dX2_lookNext_30 ?_
          refine R_callVp (as := [vR _, vI _]) hC dX2_lookNext_31 mo_2_unlikeWith ml_2_101 (by decide) rfl rfl (c2_unlikeWith  hg gr4 hSP (by omega) (by omega) (fun w k a b a2 b2 => (congrFun (hF.row (by decide) (by decide)) _).trans (hft w k a b a2 b2))) rfl rfl hRm (by decide) (by decide) (Nat.le_of_ble_eq_true rfl) (fun v3 Mc1 hq2 => ?_)
          have g5 := (hq2.1 49 5 (by decide) (by decide)).trans h5
          have g6 := (hq2.1 49 6 (by decide) (by decide)).trans h6
          have hFc : Fr [25, 26, 27, 28, 29, 30, 31, 32, 33, 34, 35, 51] [(24, 11), (24, 12), (24, 13), (49, 5), (49, 6)] M Mc1 := Fr.tt hF (hq2.1.mo (by decide) (by decide))
          refine R_istore_3 hC dX2_lookNext_34 rfl ?_
          refine R_iload_3 hC dX2_lookNext_35 ?_
          refine R_aload_0 hC dX2_lookNext_36 ?_
          refine R_getI hC dX2_lookNext_37 fl_2_95 (by decide) rfl (by decide) (by decide) (fi := 6) rfl ?_
          refine R_icmp_le hC dX2_lookNext_40 (tgt := 53) (by decide) (fun hb40 => ?_) (fun hb40 => ?_)
          · skip
            have hnf : ¬ (ubF (fun x => (nwA f (fun w k => spcK (setNM (insOf d) x (max 0 (inAll d x - max 0 (d x - 1))) (max (max 0 (inAll d x - max 0 (d x - 1))) (d (5 + x)))) d w k + 1) (d 122).toNat).1) x.toNat).1 < (fun x => (nwA f (fun w k => spcK (setNM (insOf d) x (max 0 (inAll d x - max 0 (d x - 1))) (max (max 0 (inAll d x - max 0 (d x - 1))) (d (5 + x)))) d w k + 1) (d 122).toNat).1) x := by (show ¬ _ < (nwA f (fun w k => spcK (setNM (insOf d) x (max 0 (inAll d x - max 0 (d x - 1))) (max (max 0 (inAll d x - max 0 (d x - 1))) (d (5 + x)))) d w k + 1) (d 122).toNat).1; rw [← hq2.2, ← g6]; omega)
            refine R_iinc_2 hC dX2_lookNext_53 rfl ⟨by omega, by omega⟩ ?_
            refine R_goto hC dX2_lookNext_56 (tgt := 20) (by decide) ?_
            refine R_weak (subL_c (subL_c (subL_c (subL_d subL_n)))) ?_
            have hG4 : GR Mc1 := (GR.fr hg hq2.1 (by decide +kernel))
            have hr5 : Mc1 4 = d := ((hq2.1.row (by decide) (by decide)).trans gr4)
            exact ih20 _ _ (by omega) (by omega) hG4 hr5 (by first | exact hFc | exact Fr.uB (Fr.uB hFc (by decide)) (by decide)) (by first | (rw [ubF_f hx0 rfl hnf]; exact g5) | (rw [ubF_t hx0 rfl hpf]; exact uM_same)) (by first | (rw [ubF_f hx0 rfl hnf]; exact g6) | (rw [ubF_t hx0 rfl hpf]; exact (uM_k (by decide)).trans (uM_same.trans hq2.2))) (by omega)
          · skip
            have hpf : (ubF (fun x => (nwA f (fun w k => spcK (setNM (insOf d) x (max 0 (inAll d x - max 0 (d x - 1))) (max (max 0 (inAll d x - max 0 (d x - 1))) (d (5 + x)))) d w k + 1) (d 122).toNat).1) x.toNat).1 < (fun x => (nwA f (fun w k => spcK (setNM (insOf d) x (max 0 (inAll d x - max 0 (d x - 1))) (max (max 0 (inAll d x - max 0 (d x - 1))) (d (5 + x)))) d w k + 1) (d 122).toNat).1) x := by (show _ < (nwA f (fun w k => spcK (setNM (insOf d) x (max 0 (inAll d x - max 0 (d x - 1))) (max (max 0 (inAll d x - max 0 (d x - 1))) (d (5 + x)))) d w k + 1) (d 122).toNat).1; rw [← hq2.2, ← g6]; omega)
            refine R_aload_0 hC dX2_lookNext_43 ?_
            refine R_iload_3 hC dX2_lookNext_44 ?_
            refine R_putI hC dX2_lookNext_45 fl_2_95 (by decide) rfl (by decide) (by decide) (fi := 6) rfl ?_
            refine R_aload_0 hC dX2_lookNext_48 ?_
            refine R_iload_2 hC dX2_lookNext_49 ?_
            refine R_putI hC dX2_lookNext_50 fl_2_92 (by decide) rfl (by decide) (by decide) (fi := 5) rfl ?_
            refine R_iinc_2 hC dX2_lookNext_53 rfl ⟨by omega, by omega⟩ ?_
            refine R_goto hC dX2_lookNext_56 (tgt := 20) (by decide) ?_
            refine R_weak (subL_c (subL_c (subL_c (subL_d subL_n)))) ?_
            have hG6 : GR (uM (uM Mc1 49 6 v3) 49 5 x) := (GR.uF (GR.uF (GR.fr hg hq2.1 (by decide +kernel)) (by decide +kernel) (by decide)) (by decide +kernel) (by decide))
            have hr7 : (uM (uM Mc1 49 6 v3) 49 5 x) 4 = d := ((uM_ne (by decide)).trans ((uM_ne (by decide)).trans ((hq2.1.row (by decide) (by decide)).trans gr4)))
            exact ih20 _ _ (by omega) (by omega) hG6 hr7 (by first | exact hFc | exact Fr.uB (Fr.uB hFc (by decide)) (by decide)) (by first | (rw [ubF_f hx0 rfl hnf]; exact g5) | (rw [ubF_t hx0 rfl hpf]; exact uM_same)) (by first | (rw [ubF_f hx0 rfl hnf]; exact g6) | (rw [ubF_t hx0 rfl hpf]; exact (uM_k (by decide)).trans (uM_same.trans hq2.2))) (by omega)
    have hG8 : GR (uM (uM M 49 5 (-1)) 49 6 0) := (GR.uF (GR.uF hG (by decide +kernel) (by decide)) (by decide +kernel) (by decide))
    have hr9 : (uM (uM M 49 5 (-1)) 49 6 0) 4 = d := ((uM_ne (by decide)).trans ((uM_ne (by decide)).trans hD))
    exact L20 _ _ _ (by omega) (by omega) hG8 hr9 (Fr.uB (Fr.uB Fr.rf (by decide)) (by decide)) ((uM_k (by decide)).trans uM_same) uM_same (Nat.lt_succ_self _)
  · skip
    exact R_return hC dX2_lookNext_17 rfl (ret_V ⟨Fr.uB (Fr.uB Fr.rf (by decide)) (by decide), by rw [if_pos hb14]; exact (uM_k (by decide)).trans uM_same, by rw [if_pos hb14]; exact uM_same⟩)
