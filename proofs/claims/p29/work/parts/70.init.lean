def fmT : List (Nat × Int × Int) := [(0, 0, 1), (0, 2, -1), (0, 3, 2), (0, 4, 11), (0, 6, 20), (0, 7, 22), (0, 8, 24), (0, 9, 36), (0, 11, 38), (0, 12, 41), (0, 13, 45), (0, 14, 49), (0, 15, 52), (2, 0, 3), (2, 1, 5), (2, 2, 9), (2, 4, 10), (3, 0, 4), (5, 0, 6), (5, 1, 7), (5, 2, 8), (11, 0, 12), (11, 1, 14), (11, 2, 18), (11, 4, 19), (12, 0, 13), (14, 0, 15), (14, 1, 16), (14, 2, 17), (20, 0, 21), (22, 0, 23), (22, 2, -1), (22, 8, -1), (24, 0, 25), (24, 1, 26), (24, 2, 27), (24, 3, 28), (24, 4, 29), (24, 5, 30), (24, 6, 31), (24, 7, 32), (24, 8, 33), (24, 9, 34), (24, 10, 35), (24, 13, 1), (36, 0, 24), (36, 1, 37), (38, 0, 24), (38, 1, 39), (39, 0, 40), (41, 0, 24), (41, 1, 42), (41, 2, 43), (41, 4, 44), (45, 0, 24), (45, 1, 46), (45, 2, 48), (46, 0, 47), (49, 0, 24), (49, 1, 50), (49, 2, 51), (52, 0, 53), (52, 2, 55), (53, 0, 24), (53, 1, 54), (55, 0, 56)]
/-! the constructors -/
def FM (h : Nat) (j : Int) : Int := match fmT.find? (fun p => p.1 == h && p.2.1 == j) with
  | some p => p.2.2
  | none => 0
theorem fm_0 {h : Nat} (e : (fmT.all (fun p => !(p.1 == h))) = true) (j : Int) : FM h j = 0 := by
  unfold FM
  have z : fmT.find? (fun p => p.1 == h && p.2.1 == j) = none := by
    rw [List.find?_eq_none]
    intro p hp q
    have a := List.all_eq_true.mp e p hp
    rw [Bool.and_eq_true] at q
    rw [q.1] at a
    cases a
  rw [z]
def inR (h : Nat) (j : Int) : Prop := 13 ≤ (LY.1 h).1 ∨ (0 ≤ j ∧ j < (LY.1 h).2)
def BT (M0 M : Mem) (a n : Nat) : Prop := (∀ (h : Nat) (j : Int), h < a → M h j = M0 h j) ∧ ∀ (h : Nat) (j : Int), a < h → h < n → inR h j → M h j = FM h j
def BTf (M0 M : Mem) (a n : Nat) : Prop := (∀ (h : Nat) (j : Int), h < a → M h j = M0 h j) ∧ ∀ (h : Nat) (j : Int), a ≤ h → h < n → inR h j → M h j = FM h j
section BTS
variable {M0 M M2 : Mem} {a n m : Nat}
theorem BT.z : BT M0 M0 a (a + 1) := ⟨fun _ _ _ => rfl, fun h j p q => by omega⟩
theorem BT.arr (h : BT M0 M a n) (ha : a < n) (e : (fmT.all (fun p => !(p.1 == n))) = true) : BT M0 (setR M n (fun _ => 0)) a (n + 1) := ⟨fun k j p => (setR_o (by omega)).trans (h.1 k j p), fun k j p q r => by
  by_cases z : k = n
  · subst z
    rw [setR_s, fm_0 e]
  · rw [setR_o z]
    exact h.2 k j p (by omega) r⟩
theorem BT.put (h : BT M0 M a n) {f v : Int} : BT M0 (uM M a f v) a n := ⟨fun k j p => (uM_h (by omega)).trans (h.1 k j p), fun k j p q r => (uM_h (by omega)).trans (h.2 k j p q r)⟩
theorem BT.call {f : Int → Int} (h : BT M0 M a n) (ha : a < n) (hc : BTf (setR M n f) M2 n m) : BT M0 M2 a m := ⟨fun k j p => (hc.1 k j (by omega)).trans ((setR_o (by omega)).trans (h.1 k j p)), fun k j p q r => by
  by_cases z : k < n
  · exact (hc.1 k j z).trans ((setR_o (by omega)).trans (h.2 k j p z r))
  · exact hc.2 k j (by omega) q r⟩
theorem BT.call2 {f1 : Int → Int} {n1 : Nat} {M1 : Mem} (h : BT M0 M a n1) (ha : a < n1) (g : BT (setR M n1 f1) M1 n1 n) (hc : BTf M1 M2 n1 m) (hn : n1 < n) : BT M0 M2 a m := ⟨fun k j p => (hc.1 k j (by omega)).trans ((g.1 k j (by omega)).trans ((setR_o (by omega)).trans (h.1 k j p))), fun k j p q r => by
  by_cases z : k < n1
  · exact (hc.1 k j z).trans ((g.1 k j z).trans ((setR_o (by omega)).trans (h.2 k j p z r)))
  · exact hc.2 k j (by omega) q r⟩
def lsOK (n : Nat) (ls : List (Option V)) : Bool := ls.all (fun o => match o with
  | some (.inr (.inr h)) => decide (h < n)
  | _ => true)
def stOK (n : Nat) (st : List V) : Bool := st.all (fun o => match o with
  | .inr (.inr h) => decide (h < n)
  | _ => true)
theorem lsOK_h {ls : List (Option V)} (e : lsOK n ls = true) : ∀ v, some v ∈ ls → hOK n v := fun v hv => by
  have z := List.all_eq_true.mp e _ hv
  rcases v with i | i | k
  · trivial
  · trivial
  · exact .inl (of_decide_eq_true z)
theorem stOK_h {st : List V} (e : stOK n st = true) : ∀ v ∈ st, hOK n v := fun v hv => by
  have z := List.all_eq_true.mp e _ hv
  rcases v with i | i | k
  · trivial
  · trivial
  · exact .inl (of_decide_eq_true z)
end BTS

theorem ob_im : Cond.instanceMethod objectInit ∈ Ts := (Ts_in (in_t1 _ (List.mem_of_getElem? (i := 36) rfl)) rfl)
theorem ob_co : Cond.code objectInit ⟨#[0xb1]⟩ 1 none ∈ Ts := (Ts_in (in_t1 _ (List.mem_of_getElem? (i := 37) rfl)) rfl)
theorem mi_0 : MI m0_init 0 := ⟨(Ts_in (in_t1 _ (List.mem_of_getElem? (i := 64) rfl)) rfl), (Ts_in (in_t1 _ (List.mem_of_getElem? (i := 4) rfl)) rfl), ⟨by decide +kernel, by decide +kernel, by decide +kernel⟩, (Ts_in (in_t1 _ (List.mem_of_getElem? (i := 63) rfl)) rfl), rfl, rfl⟩
theorem mi_1 : MI m1_init 1 := ⟨(Ts_in (in_t2 _ (List.mem_of_getElem? (i := 110) rfl)) rfl), (Ts_in (in_t1 _ (List.mem_of_getElem? (i := 12) rfl)) rfl), ⟨by decide +kernel, by decide +kernel, by decide +kernel⟩, (Ts_in (in_t2 _ (List.mem_of_getElem? (i := 109) rfl)) rfl), rfl, rfl⟩
theorem mi_2 : MI m2_init 1 := ⟨(Ts_in (in_t2 _ (List.mem_of_getElem? (i := 85) rfl)) rfl), (Ts_in (in_t1 _ (List.mem_of_getElem? (i := 11) rfl)) rfl), ⟨by decide +kernel, by decide +kernel, by decide +kernel⟩, (Ts_in (in_t2 _ (List.mem_of_getElem? (i := 84) rfl)) rfl), rfl, rfl⟩
theorem mi_3 : MI m3_init 1 := ⟨(Ts_in (in_t2 _ (List.mem_of_getElem? (i := 59) rfl)) rfl), (Ts_in (in_t1 _ (List.mem_of_getElem? (i := 10) rfl)) rfl), ⟨by decide +kernel, by decide +kernel, by decide +kernel⟩, (Ts_in (in_t2 _ (List.mem_of_getElem? (i := 58) rfl)) rfl), rfl, rfl⟩
theorem mi_4 : MI m4_init 1 := ⟨(Ts_in (in_t1 _ (List.mem_of_getElem? (i := 239) rfl)) rfl), (Ts_in (in_t1 _ (List.mem_of_getElem? (i := 8) rfl)) rfl), ⟨by decide +kernel, by decide +kernel, by decide +kernel⟩, (Ts_in (in_t1 _ (List.mem_of_getElem? (i := 238) rfl)) rfl), rfl, rfl⟩
theorem mi_5 : MI m5_init 1 := ⟨(Ts_in (in_t1 _ (List.mem_of_getElem? (i := 217) rfl)) rfl), (Ts_in (in_t1 _ (List.mem_of_getElem? (i := 7) rfl)) rfl), ⟨by decide +kernel, by decide +kernel, by decide +kernel⟩, (Ts_in (in_t1 _ (List.mem_of_getElem? (i := 216) rfl)) rfl), rfl, rfl⟩
theorem mi_6 : MI m6_init 0 := ⟨(Ts_in (in_t1 _ (List.mem_of_getElem? (i := 145) rfl)) rfl), (Ts_in (in_t1 _ (List.mem_of_getElem? (i := 6) rfl)) rfl), ⟨by decide +kernel, by decide +kernel, by decide +kernel⟩, (Ts_in (in_t1 _ (List.mem_of_getElem? (i := 144) rfl)) rfl), rfl, rfl⟩
theorem mi_7 : MI m7_init 0 := ⟨(Ts_in (in_t1 _ (List.mem_of_getElem? (i := 42) rfl)) rfl), (Ts_in (in_t1 _ (List.mem_of_getElem? (i := 2) rfl)) rfl), ⟨by decide +kernel, by decide +kernel, by decide +kernel⟩, (Ts_in (in_t1 _ (List.mem_of_getElem? (i := 41) rfl)) rfl), rfl, rfl⟩
theorem mi_8 : MI m8_init 0 := ⟨(Ts_in (in_t1 _ (List.mem_of_getElem? (i := 48) rfl)) rfl), (Ts_in (in_t1 _ (List.mem_of_getElem? (i := 3) rfl)) rfl), ⟨by decide +kernel, by decide +kernel, by decide +kernel⟩, (Ts_in (in_t1 _ (List.mem_of_getElem? (i := 47) rfl)) rfl), rfl, rfl⟩
theorem mi_9 : MI m9_init 0 := ⟨(Ts_in (in_t1 _ (List.mem_of_getElem? (i := 110) rfl)) rfl), (Ts_in (in_t1 _ (List.mem_of_getElem? (i := 5) rfl)) rfl), ⟨by decide +kernel, by decide +kernel, by decide +kernel⟩, (Ts_in (in_t1 _ (List.mem_of_getElem? (i := 109) rfl)) rfl), rfl, rfl⟩
theorem mi_10 : MI m10_init 1 := ⟨(Ts_in (in_t2 _ (List.mem_of_getElem? (i := 22) rfl)) rfl), (Ts_in (in_t1 _ (List.mem_of_getElem? (i := 9) rfl)) rfl), ⟨by decide +kernel, by decide +kernel, by decide +kernel⟩, (Ts_in (in_t2 _ (List.mem_of_getElem? (i := 21) rfl)) rfl), rfl, rfl⟩
theorem mi_11 : MI m11_init 0 := ⟨(Ts_in (in_t1 _ (List.mem_of_getElem? (i := 34) rfl)) rfl), (Ts_in (in_t1 _ (List.mem_of_getElem? (i := 1) rfl)) rfl), ⟨by decide +kernel, by decide +kernel, by decide +kernel⟩, (Ts_in (in_t1 _ (List.mem_of_getElem? (i := 33) rfl)) rfl), rfl, rfl⟩
theorem dX11_init_185 : decode cX11_init 185 = .ok (.return_, 1) := by decide +kernel
theorem dX11_init_182 : decode cX11_init 182 = .ok (.putfield 100, 3) := by decide +kernel
theorem dX11_init_179 : decode cX11_init 179 = .ok (.invokespecial 97, 3) := by decide +kernel
theorem dX11_init_176 : decode cX11_init 176 = .ok (.invokespecial 57, 3) := by decide +kernel
theorem dX11_init_173 : decode cX11_init 173 = .ok (.getfield 51, 3) := by decide +kernel
theorem dX11_init_172 : decode cX11_init 172 = .ok (.aload_n 0, 1) := by decide +kernel
theorem dX11_init_171 : decode cX11_init 171 = .ok (.dup, 1) := by decide +kernel
theorem dX11_init_168 : decode cX11_init 168 = .ok (.new 55, 3) := by decide +kernel
theorem dX11_init_167 : decode cX11_init 167 = .ok (.dup, 1) := by decide +kernel
theorem dX11_init_164 : decode cX11_init 164 = .ok (.new 95, 3) := by decide +kernel
theorem dX11_init_163 : decode cX11_init 163 = .ok (.aload_n 0, 1) := by decide +kernel
theorem dX11_init_160 : decode cX11_init 160 = .ok (.putfield 91, 3) := by decide +kernel
theorem dX11_init_157 : decode cX11_init 157 = .ok (.invokespecial 90, 3) := by decide +kernel
theorem dX11_init_154 : decode cX11_init 154 = .ok (.getfield 51, 3) := by decide +kernel
theorem dX11_init_153 : decode cX11_init 153 = .ok (.aload_n 0, 1) := by decide +kernel
theorem dX11_init_152 : decode cX11_init 152 = .ok (.dup, 1) := by decide +kernel
theorem dX11_init_149 : decode cX11_init 149 = .ok (.new 88, 3) := by decide +kernel
theorem dX11_init_148 : decode cX11_init 148 = .ok (.aload_n 0, 1) := by decide +kernel
theorem dX11_init_145 : decode cX11_init 145 = .ok (.putfield 84, 3) := by decide +kernel
theorem dX11_init_142 : decode cX11_init 142 = .ok (.invokespecial 83, 3) := by decide +kernel
theorem dX11_init_139 : decode cX11_init 139 = .ok (.getfield 51, 3) := by decide +kernel
theorem dX11_init_138 : decode cX11_init 138 = .ok (.aload_n 0, 1) := by decide +kernel
theorem dX11_init_137 : decode cX11_init 137 = .ok (.dup, 1) := by decide +kernel
theorem dX11_init_134 : decode cX11_init 134 = .ok (.new 81, 3) := by decide +kernel
theorem dX11_init_133 : decode cX11_init 133 = .ok (.aload_n 0, 1) := by decide +kernel
theorem dX11_init_130 : decode cX11_init 130 = .ok (.putfield 77, 3) := by decide +kernel
theorem dX11_init_127 : decode cX11_init 127 = .ok (.invokespecial 76, 3) := by decide +kernel
theorem dX11_init_124 : decode cX11_init 124 = .ok (.getfield 51, 3) := by decide +kernel
theorem dX11_init_123 : decode cX11_init 123 = .ok (.aload_n 0, 1) := by decide +kernel
theorem dX11_init_122 : decode cX11_init 122 = .ok (.dup, 1) := by decide +kernel
theorem dX11_init_119 : decode cX11_init 119 = .ok (.new 74, 3) := by decide +kernel
theorem dX11_init_118 : decode cX11_init 118 = .ok (.aload_n 0, 1) := by decide +kernel
theorem dX11_init_115 : decode cX11_init 115 = .ok (.putfield 70, 3) := by decide +kernel
theorem dX11_init_112 : decode cX11_init 112 = .ok (.invokespecial 69, 3) := by decide +kernel
theorem dX11_init_109 : decode cX11_init 109 = .ok (.getfield 51, 3) := by decide +kernel
theorem dX11_init_108 : decode cX11_init 108 = .ok (.aload_n 0, 1) := by decide +kernel
theorem dX11_init_107 : decode cX11_init 107 = .ok (.dup, 1) := by decide +kernel
theorem dX11_init_104 : decode cX11_init 104 = .ok (.new 67, 3) := by decide +kernel
theorem dX11_init_103 : decode cX11_init 103 = .ok (.aload_n 0, 1) := by decide +kernel
theorem dX11_init_100 : decode cX11_init 100 = .ok (.putfield 64, 3) := by decide +kernel
theorem dX11_init_99 : decode cX11_init 99 = .ok (.iconst 0, 1) := by decide +kernel
theorem dX11_init_98 : decode cX11_init 98 = .ok (.aload_n 0, 1) := by decide +kernel
theorem dX11_init_95 : decode cX11_init 95 = .ok (.putfield 60, 3) := by decide +kernel
theorem dX11_init_92 : decode cX11_init 92 = .ok (.invokespecial 57, 3) := by decide +kernel
theorem dX11_init_89 : decode cX11_init 89 = .ok (.getfield 51, 3) := by decide +kernel
theorem dX11_init_88 : decode cX11_init 88 = .ok (.aload_n 0, 1) := by decide +kernel
theorem dX11_init_87 : decode cX11_init 87 = .ok (.dup, 1) := by decide +kernel
theorem dX11_init_84 : decode cX11_init 84 = .ok (.new 55, 3) := by decide +kernel
theorem dX11_init_83 : decode cX11_init 83 = .ok (.aload_n 0, 1) := by decide +kernel
theorem dX11_init_80 : decode cX11_init 80 = .ok (.putfield 51, 3) := by decide +kernel
theorem dX11_init_77 : decode cX11_init 77 = .ok (.invokespecial 50, 3) := by decide +kernel
theorem dX11_init_76 : decode cX11_init 76 = .ok (.dup, 1) := by decide +kernel
theorem dX11_init_73 : decode cX11_init 73 = .ok (.new 48, 3) := by decide +kernel
theorem dX11_init_72 : decode cX11_init 72 = .ok (.aload_n 0, 1) := by decide +kernel
theorem dX11_init_69 : decode cX11_init 69 = .ok (.putfield 44, 3) := by decide +kernel
theorem dX11_init_66 : decode cX11_init 66 = .ok (.invokespecial 43, 3) := by decide +kernel
theorem dX11_init_65 : decode cX11_init 65 = .ok (.dup, 1) := by decide +kernel
theorem dX11_init_62 : decode cX11_init 62 = .ok (.new 41, 3) := by decide +kernel
theorem dX11_init_61 : decode cX11_init 61 = .ok (.aload_n 0, 1) := by decide +kernel
theorem dX11_init_58 : decode cX11_init 58 = .ok (.putfield 37, 3) := by decide +kernel
theorem dX11_init_55 : decode cX11_init 55 = .ok (.invokespecial 36, 3) := by decide +kernel
theorem dX11_init_54 : decode cX11_init 54 = .ok (.dup, 1) := by decide +kernel
theorem dX11_init_51 : decode cX11_init 51 = .ok (.new 34, 3) := by decide +kernel
theorem dX11_init_50 : decode cX11_init 50 = .ok (.aload_n 0, 1) := by decide +kernel
theorem dX11_init_47 : decode cX11_init 47 = .ok (.putfield 30, 3) := by decide +kernel
theorem dX11_init_46 : decode cX11_init 46 = .ok (.iconst 0, 1) := by decide +kernel
theorem dX11_init_45 : decode cX11_init 45 = .ok (.aload_n 0, 1) := by decide +kernel
theorem dX11_init_42 : decode cX11_init 42 = .ok (.putfield 27, 3) := by decide +kernel
theorem dX11_init_39 : decode cX11_init 39 = .ok (.invokespecial 22, 3) := by decide +kernel
theorem dX11_init_38 : decode cX11_init 38 = .ok (.dup, 1) := by decide +kernel
theorem dX11_init_35 : decode cX11_init 35 = .ok (.new 20, 3) := by decide +kernel
theorem dX11_init_34 : decode cX11_init 34 = .ok (.aload_n 0, 1) := by decide +kernel
theorem dX11_init_31 : decode cX11_init 31 = .ok (.putfield 23, 3) := by decide +kernel
theorem dX11_init_28 : decode cX11_init 28 = .ok (.invokespecial 22, 3) := by decide +kernel
theorem dX11_init_27 : decode cX11_init 27 = .ok (.dup, 1) := by decide +kernel
theorem dX11_init_24 : decode cX11_init 24 = .ok (.new 20, 3) := by decide +kernel
theorem dX11_init_23 : decode cX11_init 23 = .ok (.aload_n 0, 1) := by decide +kernel
theorem dX11_init_20 : decode cX11_init 20 = .ok (.putfield 17, 3) := by decide +kernel
theorem dX11_init_19 : decode cX11_init 19 = .ok (.iconst (-1), 1) := by decide +kernel
theorem dX11_init_18 : decode cX11_init 18 = .ok (.aload_n 0, 1) := by decide +kernel
theorem dX11_init_15 : decode cX11_init 15 = .ok (.putfield 13, 3) := by decide +kernel
theorem dX11_init_14 : decode cX11_init 14 = .ok (.iconst 0, 1) := by decide +kernel
theorem dX11_init_13 : decode cX11_init 13 = .ok (.aload_n 0, 1) := by decide +kernel
theorem dX11_init_10 : decode cX11_init 10 = .ok (.putfield 9, 3) := by decide +kernel
theorem dX11_init_8 : decode cX11_init 8 = .ok (.newarray .byte, 2) := by decide +kernel
theorem dX11_init_5 : decode cX11_init 5 = .ok (.sipush 700, 3) := by decide +kernel
theorem dX11_init_4 : decode cX11_init 4 = .ok (.aload_n 0, 1) := by decide +kernel
theorem dX11_init_1 : decode cX11_init 1 = .ok (.invokespecial 3, 3) := by decide +kernel
theorem dX11_init_0 : decode cX11_init 0 = .ok (.aload_n 0, 1) := by decide +kernel
theorem dX7_init_46 : decode cX7_init 46 = .ok (.return_, 1) := by decide +kernel
theorem dX7_init_43 : decode cX7_init 43 = .ok (.putfield 33, 3) := by decide +kernel
theorem dX7_init_41 : decode cX7_init 41 = .ok (.newarray .int, 2) := by decide +kernel
theorem dX7_init_40 : decode cX7_init 40 = .ok (.iconst 3, 1) := by decide +kernel
theorem dX7_init_39 : decode cX7_init 39 = .ok (.aload_n 0, 1) := by decide +kernel
theorem dX7_init_36 : decode cX7_init 36 = .ok (.putfield 29, 3) := by decide +kernel
theorem dX7_init_35 : decode cX7_init 35 = .ok (.iconst 0, 1) := by decide +kernel
theorem dX7_init_34 : decode cX7_init 34 = .ok (.aload_n 0, 1) := by decide +kernel
theorem dX7_init_31 : decode cX7_init 31 = .ok (.putfield 25, 3) := by decide +kernel
theorem dX7_init_29 : decode cX7_init 29 = .ok (.newarray .int, 2) := by decide +kernel
theorem dX7_init_27 : decode cX7_init 27 = .ok (.bipush 6, 2) := by decide +kernel
theorem dX7_init_26 : decode cX7_init 26 = .ok (.aload_n 0, 1) := by decide +kernel
theorem dX7_init_23 : decode cX7_init 23 = .ok (.putfield 21, 3) := by decide +kernel
theorem dX7_init_20 : decode cX7_init 20 = .ok (.invokespecial 20, 3) := by decide +kernel
theorem dX7_init_19 : decode cX7_init 19 = .ok (.dup, 1) := by decide +kernel
theorem dX7_init_16 : decode cX7_init 16 = .ok (.new 18, 3) := by decide +kernel
theorem dX7_init_15 : decode cX7_init 15 = .ok (.aload_n 0, 1) := by decide +kernel
theorem dX7_init_12 : decode cX7_init 12 = .ok (.putfield 12, 3) := by decide +kernel
theorem dX7_init_9 : decode cX7_init 9 = .ok (.invokespecial 11, 3) := by decide +kernel
theorem dX7_init_8 : decode cX7_init 8 = .ok (.dup, 1) := by decide +kernel
theorem dX7_init_5 : decode cX7_init 5 = .ok (.new 9, 3) := by decide +kernel
theorem dX7_init_4 : decode cX7_init 4 = .ok (.aload_n 0, 1) := by decide +kernel
theorem dX7_init_1 : decode cX7_init 1 = .ok (.invokespecial 3, 3) := by decide +kernel
theorem dX7_init_0 : decode cX7_init 0 = .ok (.aload_n 0, 1) := by decide +kernel
theorem dX8_init_12 : decode cX8_init 12 = .ok (.return_, 1) := by decide +kernel
theorem dX8_init_9 : decode cX8_init 9 = .ok (.putfield 9, 3) := by decide +kernel
theorem dX8_init_7 : decode cX8_init 7 = .ok (.newarray .int, 2) := by decide +kernel
theorem dX8_init_5 : decode cX8_init 5 = .ok (.bipush 123, 2) := by decide +kernel
theorem dX8_init_4 : decode cX8_init 4 = .ok (.aload_n 0, 1) := by decide +kernel
theorem dX8_init_1 : decode cX8_init 1 = .ok (.invokespecial 3, 3) := by decide +kernel
theorem dX8_init_0 : decode cX8_init 0 = .ok (.aload_n 0, 1) := by decide +kernel
set_option maxHeartbeats 2000000 in
theorem c8_init_3 {g : Nat → Nat} {q : Gq} {l : Launch} {M : Mem} (rb : RB LY 4 M) (hrow : ∀ j, M 3 j = dfl LY 8 j) : CtN g q LY 4 5 l 1 1 123 m8_init [vR 3] M (fun M' => BTf M M' 3 5) := by
  refine R_startN (by decide +kernel) rfl (Nat.le_of_ble_eq_true rfl) (fun C hC hN hRm hlau => ?_)
  show RZ (g, q) LY C _ 0 0 4 0 [some (vR 3)] [] M
  have ga0 : GA g g 4 := GA.rf
  have bt0 : BT M M 3 4 := BT.z
  refine R_aload_0 hC dX8_init_0 ?_
  refine R_initO hC dX8_init_1 (Ts_in (in_t1 _ (List.mem_of_getElem? (i := 49) rfl)) rfl) ob_im ob_co ⟨by rw [hRm]; decide, by rw [hRm]; decide⟩ rfl ?_
  refine R_aload_0 hC dX8_init_4 ?_
  refine R_bipush hC dX8_init_5 (by decide +kernel) ⟨by decide, by decide⟩ ?_
  refine R_newA (kd := 20) (N := 123) hC dX8_init_7 rfl ⟨by decide, by decide⟩ (Ts_in (in_t1 _ (List.mem_of_getElem? (i := 59) rfl)) rfl) rfl (by decide +kernel) (by decide +kernel) (by decide +kernel) (by decide) rb (lsOK_h (by decide)) (stOK_h (by decide)) (by rw [hRm]; exact Nat.le_of_ble_eq_true rfl) (by rw [hRm]; exact Nat.le_of_ble_eq_true rfl) (fun g1 ga2 => ?_)
  have hC3 := CxOK.ga ga2 hC
  have rb4 := RB.set (f := fun _ => 0) rb (fun _ => by decide)
  have ga5 := GA.tr ga0 ga2 (by decide)
  have bt6 := BT.arr bt0 (by decide) (by decide +kernel)
  refine R_putFR hC3 hN dX8_init_9 fl_8_9 (fun p hp => by obtain rfl := Option.some.inj (hp.symm.trans cl_8.1); rfl) (by decide) rfl (by decide) rfl (by decide) (fi := 0) rfl ?_
  have rb7 := RB.put (a := 3) (j := 0) (v := 4) rb4 (by decide)
  have bt8 := BT.put (f := 0) (v := 4) bt6
  refine R_returnN hC3 dX8_init_12 rfl ga5 rb7 ⟨bt8.1, fun h j h0 h1 h2 => ?_⟩
  by_cases e : h = 3
  · subst e
    have j2 : 0 ≤ j ∧ j < 1 := h2.elim (fun z => absurd z (by decide)) (fun z => z)
    have j3 : j = 0 := by omega
    rcases j3 with rfl
    · exact uM_same.trans (by decide +kernel)
  · exact bt8.2 h j (by omega) h1 h2
theorem dX0_init_28 : decode cX0_init 28 = .ok (.return_, 1) := by decide +kernel
theorem dX0_init_25 : decode cX0_init 25 = .ok (.putfield 18, 3) := by decide +kernel
theorem dX0_init_23 : decode cX0_init 23 = .ok (.newarray .long, 2) := by decide +kernel
theorem dX0_init_21 : decode cX0_init 21 = .ok (.bipush 40, 2) := by decide +kernel
theorem dX0_init_20 : decode cX0_init 20 = .ok (.aload_n 0, 1) := by decide +kernel
theorem dX0_init_17 : decode cX0_init 17 = .ok (.putfield 15, 3) := by decide +kernel
theorem dX0_init_15 : decode cX0_init 15 = .ok (.newarray .int, 2) := by decide +kernel
theorem dX0_init_13 : decode cX0_init 13 = .ok (.bipush 80, 2) := by decide +kernel
theorem dX0_init_12 : decode cX0_init 12 = .ok (.aload_n 0, 1) := by decide +kernel
theorem dX0_init_9 : decode cX0_init 9 = .ok (.putfield 9, 3) := by decide +kernel
theorem dX0_init_7 : decode cX0_init 7 = .ok (.newarray .int, 2) := by decide +kernel
theorem dX0_init_5 : decode cX0_init 5 = .ok (.bipush 80, 2) := by decide +kernel
theorem dX0_init_4 : decode cX0_init 4 = .ok (.aload_n 0, 1) := by decide +kernel
theorem dX0_init_1 : decode cX0_init 1 = .ok (.invokespecial 3, 3) := by decide +kernel
theorem dX0_init_0 : decode cX0_init 0 = .ok (.aload_n 0, 1) := by decide +kernel
set_option maxHeartbeats 2000000 in
theorem c0_init_5 {g : Nat → Nat} {q : Gq} {l : Launch} {M : Mem} (rb : RB LY 6 M) (hrow : ∀ j, M 5 j = dfl LY 0 j) : CtN g q LY 6 9 l 1 3 200 m0_init [vR 5] M (fun M' => BTf M M' 5 9) := by
  refine R_startN (by decide +kernel) rfl (Nat.le_of_ble_eq_true rfl) (fun C hC hN hRm hlau => ?_)
  show RZ (g, q) LY C _ 0 0 6 0 [some (vR 5)] [] M
  have ga0 : GA g g 6 := GA.rf
  have bt0 : BT M M 5 6 := BT.z
  refine R_aload_0 hC dX0_init_0 ?_
  refine R_initO hC dX0_init_1 (Ts_in (in_t1 _ (List.mem_of_getElem? (i := 65) rfl)) rfl) ob_im ob_co ⟨by rw [hRm]; decide, by rw [hRm]; decide⟩ rfl ?_
  refine R_aload_0 hC dX0_init_4 ?_
  refine R_bipush hC dX0_init_5 (by decide +kernel) ⟨by decide, by decide⟩ ?_
  refine R_newA (kd := 20) (N := 80) hC dX0_init_7 rfl ⟨by decide, by decide⟩ (Ts_in (in_t1 _ (List.mem_of_getElem? (i := 59) rfl)) rfl) rfl (by decide +kernel) (by decide +kernel) (by decide +kernel) (by decide) rb (lsOK_h (by decide)) (stOK_h (by decide)) (by rw [hRm]; exact Nat.le_of_ble_eq_true rfl) (by rw [hRm]; exact Nat.le_of_ble_eq_true rfl) (fun g1 ga2 => ?_)
  have hC3 := CxOK.ga ga2 hC
  have rb4 := RB.set (f := fun _ => 0) rb (fun _ => by decide)
  have ga5 := GA.tr ga0 ga2 (by decide)
  have bt6 := BT.arr bt0 (by decide) (by decide +kernel)
  refine R_putFR hC3 hN dX0_init_9 fl_0_9 (fun p hp => by obtain rfl := Option.some.inj (hp.symm.trans cl_0.1); rfl) (by decide) rfl (by decide) rfl (by decide) (fi := 0) rfl ?_
  have rb7 := RB.put (a := 5) (j := 0) (v := 6) rb4 (by decide)
  have bt8 := BT.put (f := 0) (v := 6) bt6
  refine R_aload_0 hC3 dX0_init_12 ?_
  refine R_bipush hC3 dX0_init_13 (by decide +kernel) ⟨by decide, by decide⟩ ?_
  refine R_newA (kd := 20) (N := 80) hC3 dX0_init_15 rfl ⟨by decide, by decide⟩ (Ts_in (in_t1 _ (List.mem_of_getElem? (i := 59) rfl)) rfl) rfl (by decide +kernel) (by decide +kernel) (by decide +kernel) (by decide) rb7 (lsOK_h (by decide)) (stOK_h (by decide)) (by rw [hRm]; exact Nat.le_of_ble_eq_true rfl) (by rw [hRm]; exact Nat.le_of_ble_eq_true rfl) (fun g9 ga10 => ?_)
  have hC11 := CxOK.ga ga10 hC3
  have rb12 := RB.set (f := fun _ => 0) rb7 (fun _ => by decide)
  have ga13 := GA.tr ga5 ga10 (by decide)
  have bt14 := BT.arr bt8 (by decide) (by decide +kernel)
  refine R_putFR hC11 hN dX0_init_17 fl_0_15 (fun p hp => by obtain rfl := Option.some.inj (hp.symm.trans cl_0.1); rfl) (by decide) rfl (by decide) rfl (by decide) (fi := 1) rfl ?_
  have rb15 := RB.put (a := 5) (j := 1) (v := 7) rb12 (by decide)
  have bt16 := BT.put (f := 1) (v := 7) bt14
  refine R_aload_0 hC11 dX0_init_20 ?_
  refine R_bipush hC11 dX0_init_21 (by decide +kernel) ⟨by decide, by decide⟩ ?_
  refine R_newA (kd := 21) (N := 40) hC11 dX0_init_23 rfl ⟨by decide, by decide⟩ (Ts_in (in_t1 _ (List.mem_of_getElem? (i := 83) rfl)) rfl) rfl (by decide +kernel) (by decide +kernel) (by decide +kernel) (by decide) rb15 (lsOK_h (by decide)) (stOK_h (by decide)) (by rw [hRm]; exact Nat.le_of_ble_eq_true rfl) (by rw [hRm]; exact Nat.le_of_ble_eq_true rfl) (fun g17 ga18 => ?_)
  have hC19 := CxOK.ga ga18 hC11
  have rb20 := RB.set (f := fun _ => 0) rb15 (fun _ => by decide)
  have ga21 := GA.tr ga13 ga18 (by decide)
  have bt22 := BT.arr bt16 (by decide) (by decide +kernel)
  refine R_putFR hC19 hN dX0_init_25 fl_0_18 (fun p hp => by obtain rfl := Option.some.inj (hp.symm.trans cl_0.1); rfl) (by decide) rfl (by decide) rfl (by decide) (fi := 2) rfl ?_
  have rb23 := RB.put (a := 5) (j := 2) (v := 8) rb20 (by decide)
  have bt24 := BT.put (f := 2) (v := 8) bt22
  refine R_returnN hC19 dX0_init_28 rfl ga21 rb23 ⟨bt24.1, fun h j h0 h1 h2 => ?_⟩
  by_cases e : h = 5
  · subst e
    have j2 : 0 ≤ j ∧ j < 5 := h2.elim (fun z => absurd z (by decide)) (fun z => z)
    have j3 : j = 0 ∨ j = 1 ∨ j = 2 ∨ j = 3 ∨ j = 4 := by omega
    rcases j3 with rfl | rfl | rfl | rfl | rfl
    · exact ((uM_k (by decide)).trans ((setR_o (by decide)).trans ((uM_k (by decide)).trans ((setR_o (by decide)).trans uM_same)))).trans (by decide +kernel)
    · exact ((uM_k (by decide)).trans ((setR_o (by decide)).trans uM_same)).trans (by decide +kernel)
    · exact uM_same.trans (by decide +kernel)
    · exact ((uM_k (by decide)).trans ((setR_o (by decide)).trans ((uM_k (by decide)).trans ((setR_o (by decide)).trans ((uM_k (by decide)).trans ((setR_o (by decide)).trans ((hrow 3).trans (by decide : dfl LY 0 3 = 0)))))))).trans (by decide +kernel)
    · exact ((uM_k (by decide)).trans ((setR_o (by decide)).trans ((uM_k (by decide)).trans ((setR_o (by decide)).trans ((uM_k (by decide)).trans ((setR_o (by decide)).trans ((hrow 4).trans (by decide : dfl LY 0 4 = 0)))))))).trans (by decide +kernel)
  · exact bt24.2 h j (by omega) h1 h2
set_option maxHeartbeats 2000000 in
theorem c7_init_2 {g : Nat → Nat} {q : Gq} {l : Launch} {M : Mem} (rb : RB LY 3 M) (hrow : ∀ j, M 2 j = dfl LY 7 j) : CtN g q LY 3 11 l 2 8 338 m7_init [vR 2] M (fun M' => BTf M M' 2 11) := by
  refine R_startN (by decide +kernel) rfl (Nat.le_of_ble_eq_true rfl) (fun C hC hN hRm hlau => ?_)
  show RZ (g, q) LY C _ 0 0 3 0 [some (vR 2)] [] M
  have ga0 : GA g g 3 := GA.rf
  have bt0 : BT M M 2 3 := BT.z
  refine R_aload_0 hC dX7_init_0 ?_
  refine R_initO hC dX7_init_1 (Ts_in (in_t1 _ (List.mem_of_getElem? (i := 43) rfl)) rfl) ob_im ob_co ⟨by rw [hRm]; decide, by rw [hRm]; decide⟩ rfl ?_
  refine R_aload_0 hC dX7_init_4 ?_
  refine R_newO (N := 1) hC dX7_init_5 cl_8 (Ts_in (in_t1 _ (List.mem_of_getElem? (i := 44) rfl)) rfl) (Ts_in (in_t1 _ (List.mem_of_getElem? (i := 45) rfl)) rfl) (Ts_in (in_t1 _ (List.mem_of_getElem? (i := 3) rfl)) rfl) rfl (by decide +kernel) (by decide) rb (lsOK_h (by decide)) (stOK_h (by decide)) (by rw [hRm]; exact Nat.le_of_ble_eq_true rfl) (by rw [hRm]; exact Nat.le_of_ble_eq_true rfl) (fun g1 ga2 => ?_)
  have hC3 := CxOK.ga ga2 hC
  have rb4 := RB.set (f := dfl LY 8) rb (fun j => (dfl_b j).2)
  have ga5 := GA.tr ga0 ga2 (by decide)
  refine R_dup hC3 dX7_init_8 rfl ?_
  refine R_callN (as := []) hC3 dX7_init_9 mi_8 (Ts_in (in_t1 _ (List.mem_of_getElem? (i := 46) rfl)) rfl) (c8_init_3 rb4 (fun j => setR_s)) rfl rfl ⟨by rw [hRm]; exact Nat.le_of_ble_eq_true rfl, by rw [hRm]; exact Nat.le_of_ble_eq_true rfl, (by rw [hRm]; exact Nat.le_of_ble_eq_true rfl), (by rw [hRm]; exact Nat.le_of_ble_eq_true rfl)⟩ (by decide) (lsOK_h (by decide)) (stOK_h (by decide)) (fun g6 M7 ga8 hq9 rb10 => ?_)
  have hC11 := CxOK.ga ga8 hC3
  have ga12 := GA.tr ga5 ga8 (by decide)
  have bt13 := BT.call bt0 (by decide) hq9
  refine R_putFR hC11 hN dX7_init_12 fl_7_12 (fun p hp => by obtain rfl := Option.some.inj (hp.symm.trans cl_7.1); rfl) (by decide) rfl (by decide) rfl (by decide) (fi := 0) rfl ?_
  have rb14 := RB.put (a := 2) (j := 0) (v := 3) rb10 (by decide)
  have bt15 := BT.put (f := 0) (v := 3) bt13
  refine R_aload_0 hC11 dX7_init_15 ?_
  refine R_newO (N := 5) hC11 dX7_init_16 cl_0 (Ts_in (in_t1 _ (List.mem_of_getElem? (i := 60) rfl)) rfl) (Ts_in (in_t1 _ (List.mem_of_getElem? (i := 61) rfl)) rfl) (Ts_in (in_t1 _ (List.mem_of_getElem? (i := 4) rfl)) rfl) rfl (by decide +kernel) (by decide) rb14 (lsOK_h (by decide)) (stOK_h (by decide)) (by rw [hRm]; exact Nat.le_of_ble_eq_true rfl) (by rw [hRm]; exact Nat.le_of_ble_eq_true rfl) (fun g16 ga17 => ?_)
  have hC18 := CxOK.ga ga17 hC11
  have rb19 := RB.set (f := dfl LY 0) rb14 (fun j => (dfl_b j).2)
  have ga20 := GA.tr ga12 ga17 (by decide)
  refine R_dup hC18 dX7_init_19 rfl ?_
  refine R_callN (as := []) hC18 dX7_init_20 mi_0 (Ts_in (in_t1 _ (List.mem_of_getElem? (i := 62) rfl)) rfl) (c0_init_5 rb19 (fun j => setR_s)) rfl rfl ⟨by rw [hRm]; exact Nat.le_of_ble_eq_true rfl, by rw [hRm]; exact Nat.le_of_ble_eq_true rfl, (by rw [hRm]; exact Nat.le_of_ble_eq_true rfl), (by rw [hRm]; exact Nat.le_of_ble_eq_true rfl)⟩ (by decide) (lsOK_h (by decide)) (stOK_h (by decide)) (fun g21 M22 ga23 hq24 rb25 => ?_)
  have hC26 := CxOK.ga ga23 hC18
  have ga27 := GA.tr ga20 ga23 (by decide)
  have bt28 := BT.call bt15 (by decide) hq24
  refine R_putFR hC26 hN dX7_init_23 fl_7_21 (fun p hp => by obtain rfl := Option.some.inj (hp.symm.trans cl_7.1); rfl) (by decide) rfl (by decide) rfl (by decide) (fi := 1) rfl ?_
  have rb29 := RB.put (a := 2) (j := 1) (v := 5) rb25 (by decide)
  have bt30 := BT.put (f := 1) (v := 5) bt28
  refine R_aload_0 hC26 dX7_init_26 ?_
  refine R_bipush hC26 dX7_init_27 (by decide +kernel) ⟨by decide, by decide⟩ ?_
  refine R_newA (kd := 20) (N := 6) hC26 dX7_init_29 rfl ⟨by decide, by decide⟩ (Ts_in (in_t1 _ (List.mem_of_getElem? (i := 59) rfl)) rfl) rfl (by decide +kernel) (by decide +kernel) (by decide +kernel) (by decide) rb29 (lsOK_h (by decide)) (stOK_h (by decide)) (by rw [hRm]; exact Nat.le_of_ble_eq_true rfl) (by rw [hRm]; exact Nat.le_of_ble_eq_true rfl) (fun g31 ga32 => ?_)
  have hC33 := CxOK.ga ga32 hC26
  have rb34 := RB.set (f := fun _ => 0) rb29 (fun _ => by decide)
  have ga35 := GA.tr ga27 ga32 (by decide)
  have bt36 := BT.arr bt30 (by decide) (by decide +kernel)
  refine R_putFR hC33 hN dX7_init_31 fl_7_25 (fun p hp => by obtain rfl := Option.some.inj (hp.symm.trans cl_7.1); rfl) (by decide) rfl (by decide) rfl (by decide) (fi := 2) rfl ?_
  have rb37 := RB.put (a := 2) (j := 2) (v := 9) rb34 (by decide)
  have bt38 := BT.put (f := 2) (v := 9) bt36
  refine R_aload_0 hC33 dX7_init_34 ?_
  refine R_iconst hC33 dX7_init_35 ⟨by decide, by decide⟩ ?_
  refine R_putI hC33 dX7_init_36 fl_7_29 (by decide) rfl (by decide) rfl (fi := 3) rfl ?_
  have rb39 := RB.put (a := 2) (j := 3) (v := 0) rb37 (by decide)
  have bt40 := BT.put (f := 3) (v := 0) bt38
  refine R_aload_0 hC33 dX7_init_39 ?_
  refine R_iconst hC33 dX7_init_40 ⟨by decide, by decide⟩ ?_
  refine R_newA (kd := 20) (N := 3) hC33 dX7_init_41 rfl ⟨by decide, by decide⟩ (Ts_in (in_t1 _ (List.mem_of_getElem? (i := 59) rfl)) rfl) rfl (by decide +kernel) (by decide +kernel) (by decide +kernel) (by decide) rb39 (lsOK_h (by decide)) (stOK_h (by decide)) (by rw [hRm]; exact Nat.le_of_ble_eq_true rfl) (by rw [hRm]; exact Nat.le_of_ble_eq_true rfl) (fun g41 ga42 => ?_)
  have hC43 := CxOK.ga ga42 hC33
  have rb44 := RB.set (f := fun _ => 0) rb39 (fun _ => by decide)
  have ga45 := GA.tr ga35 ga42 (by decide)
  have bt46 := BT.arr bt40 (by decide) (by decide +kernel)
  refine R_putFR hC43 hN dX7_init_43 fl_7_33 (fun p hp => by obtain rfl := Option.some.inj (hp.symm.trans cl_7.1); rfl) (by decide) rfl (by decide) rfl (by decide) (fi := 4) rfl ?_
  have rb47 := RB.put (a := 2) (j := 4) (v := 10) rb44 (by decide)
  have bt48 := BT.put (f := 4) (v := 10) bt46
  refine R_returnN hC43 dX7_init_46 rfl ga45 rb47 ⟨bt48.1, fun h j h0 h1 h2 => ?_⟩
  by_cases e : h = 2
  · subst e
    have j2 : 0 ≤ j ∧ j < 5 := h2.elim (fun z => absurd z (by decide)) (fun z => z)
    have j3 : j = 0 ∨ j = 1 ∨ j = 2 ∨ j = 3 ∨ j = 4 := by omega
    rcases j3 with rfl | rfl | rfl | rfl | rfl
    · exact ((uM_k (by decide)).trans ((setR_o (by decide)).trans ((uM_k (by decide)).trans ((uM_k (by decide)).trans ((setR_o (by decide)).trans ((uM_k (by decide)).trans ((hq24.1 2 0 (by decide)).trans ((setR_o (by decide)).trans uM_same)))))))).trans (by decide +kernel)
    · exact ((uM_k (by decide)).trans ((setR_o (by decide)).trans ((uM_k (by decide)).trans ((uM_k (by decide)).trans ((setR_o (by decide)).trans uM_same))))).trans (by decide +kernel)
    · exact ((uM_k (by decide)).trans ((setR_o (by decide)).trans ((uM_k (by decide)).trans uM_same))).trans (by decide +kernel)
    · exact ((uM_k (by decide)).trans ((setR_o (by decide)).trans uM_same)).trans (by decide +kernel)
    · exact uM_same.trans (by decide +kernel)
  · exact bt48.2 h j (by omega) h1 h2
set_option maxHeartbeats 2000000 in
theorem c8_init_12 {g : Nat → Nat} {q : Gq} {l : Launch} {M : Mem} (rb : RB LY 13 M) (hrow : ∀ j, M 12 j = dfl LY 8 j) : CtN g q LY 13 14 l 1 1 123 m8_init [vR 12] M (fun M' => BTf M M' 12 14) := by
  refine R_startN (by decide +kernel) rfl (Nat.le_of_ble_eq_true rfl) (fun C hC hN hRm hlau => ?_)
  show RZ (g, q) LY C _ 0 0 13 0 [some (vR 12)] [] M
  have ga0 : GA g g 13 := GA.rf
  have bt0 : BT M M 12 13 := BT.z
  refine R_aload_0 hC dX8_init_0 ?_
  refine R_initO hC dX8_init_1 (Ts_in (in_t1 _ (List.mem_of_getElem? (i := 49) rfl)) rfl) ob_im ob_co ⟨by rw [hRm]; decide, by rw [hRm]; decide⟩ rfl ?_
  refine R_aload_0 hC dX8_init_4 ?_
  refine R_bipush hC dX8_init_5 (by decide +kernel) ⟨by decide, by decide⟩ ?_
  refine R_newA (kd := 20) (N := 123) hC dX8_init_7 rfl ⟨by decide, by decide⟩ (Ts_in (in_t1 _ (List.mem_of_getElem? (i := 59) rfl)) rfl) rfl (by decide +kernel) (by decide +kernel) (by decide +kernel) (by decide) rb (lsOK_h (by decide)) (stOK_h (by decide)) (by rw [hRm]; exact Nat.le_of_ble_eq_true rfl) (by rw [hRm]; exact Nat.le_of_ble_eq_true rfl) (fun g1 ga2 => ?_)
  have hC3 := CxOK.ga ga2 hC
  have rb4 := RB.set (f := fun _ => 0) rb (fun _ => by decide)
  have ga5 := GA.tr ga0 ga2 (by decide)
  have bt6 := BT.arr bt0 (by decide) (by decide +kernel)
  refine R_putFR hC3 hN dX8_init_9 fl_8_9 (fun p hp => by obtain rfl := Option.some.inj (hp.symm.trans cl_8.1); rfl) (by decide) rfl (by decide) rfl (by decide) (fi := 0) rfl ?_
  have rb7 := RB.put (a := 12) (j := 0) (v := 13) rb4 (by decide)
  have bt8 := BT.put (f := 0) (v := 13) bt6
  refine R_returnN hC3 dX8_init_12 rfl ga5 rb7 ⟨bt8.1, fun h j h0 h1 h2 => ?_⟩
  by_cases e : h = 12
  · subst e
    have j2 : 0 ≤ j ∧ j < 1 := h2.elim (fun z => absurd z (by decide)) (fun z => z)
    have j3 : j = 0 := by omega
    rcases j3 with rfl
    · exact uM_same.trans (by decide +kernel)
  · exact bt8.2 h j (by omega) h1 h2
set_option maxHeartbeats 2000000 in
theorem c0_init_14 {g : Nat → Nat} {q : Gq} {l : Launch} {M : Mem} (rb : RB LY 15 M) (hrow : ∀ j, M 14 j = dfl LY 0 j) : CtN g q LY 15 18 l 1 3 200 m0_init [vR 14] M (fun M' => BTf M M' 14 18) := by
  refine R_startN (by decide +kernel) rfl (Nat.le_of_ble_eq_true rfl) (fun C hC hN hRm hlau => ?_)
  show RZ (g, q) LY C _ 0 0 15 0 [some (vR 14)] [] M
  have ga0 : GA g g 15 := GA.rf
  have bt0 : BT M M 14 15 := BT.z
  refine R_aload_0 hC dX0_init_0 ?_
  refine R_initO hC dX0_init_1 (Ts_in (in_t1 _ (List.mem_of_getElem? (i := 65) rfl)) rfl) ob_im ob_co ⟨by rw [hRm]; decide, by rw [hRm]; decide⟩ rfl ?_
  refine R_aload_0 hC dX0_init_4 ?_
  refine R_bipush hC dX0_init_5 (by decide +kernel) ⟨by decide, by decide⟩ ?_
  refine R_newA (kd := 20) (N := 80) hC dX0_init_7 rfl ⟨by decide, by decide⟩ (Ts_in (in_t1 _ (List.mem_of_getElem? (i := 59) rfl)) rfl) rfl (by decide +kernel) (by decide +kernel) (by decide +kernel) (by decide) rb (lsOK_h (by decide)) (stOK_h (by decide)) (by rw [hRm]; exact Nat.le_of_ble_eq_true rfl) (by rw [hRm]; exact Nat.le_of_ble_eq_true rfl) (fun g1 ga2 => ?_)
  have hC3 := CxOK.ga ga2 hC
  have rb4 := RB.set (f := fun _ => 0) rb (fun _ => by decide)
  have ga5 := GA.tr ga0 ga2 (by decide)
  have bt6 := BT.arr bt0 (by decide) (by decide +kernel)
  refine R_putFR hC3 hN dX0_init_9 fl_0_9 (fun p hp => by obtain rfl := Option.some.inj (hp.symm.trans cl_0.1); rfl) (by decide) rfl (by decide) rfl (by decide) (fi := 0) rfl ?_
  have rb7 := RB.put (a := 14) (j := 0) (v := 15) rb4 (by decide)
  have bt8 := BT.put (f := 0) (v := 15) bt6
  refine R_aload_0 hC3 dX0_init_12 ?_
  refine R_bipush hC3 dX0_init_13 (by decide +kernel) ⟨by decide, by decide⟩ ?_
  refine R_newA (kd := 20) (N := 80) hC3 dX0_init_15 rfl ⟨by decide, by decide⟩ (Ts_in (in_t1 _ (List.mem_of_getElem? (i := 59) rfl)) rfl) rfl (by decide +kernel) (by decide +kernel) (by decide +kernel) (by decide) rb7 (lsOK_h (by decide)) (stOK_h (by decide)) (by rw [hRm]; exact Nat.le_of_ble_eq_true rfl) (by rw [hRm]; exact Nat.le_of_ble_eq_true rfl) (fun g9 ga10 => ?_)
  have hC11 := CxOK.ga ga10 hC3
  have rb12 := RB.set (f := fun _ => 0) rb7 (fun _ => by decide)
  have ga13 := GA.tr ga5 ga10 (by decide)
  have bt14 := BT.arr bt8 (by decide) (by decide +kernel)
  refine R_putFR hC11 hN dX0_init_17 fl_0_15 (fun p hp => by obtain rfl := Option.some.inj (hp.symm.trans cl_0.1); rfl) (by decide) rfl (by decide) rfl (by decide) (fi := 1) rfl ?_
  have rb15 := RB.put (a := 14) (j := 1) (v := 16) rb12 (by decide)
  have bt16 := BT.put (f := 1) (v := 16) bt14
  refine R_aload_0 hC11 dX0_init_20 ?_
  refine R_bipush hC11 dX0_init_21 (by decide +kernel) ⟨by decide, by decide⟩ ?_
  refine R_newA (kd := 21) (N := 40) hC11 dX0_init_23 rfl ⟨by decide, by decide⟩ (Ts_in (in_t1 _ (List.mem_of_getElem? (i := 83) rfl)) rfl) rfl (by decide +kernel) (by decide +kernel) (by decide +kernel) (by decide) rb15 (lsOK_h (by decide)) (stOK_h (by decide)) (by rw [hRm]; exact Nat.le_of_ble_eq_true rfl) (by rw [hRm]; exact Nat.le_of_ble_eq_true rfl) (fun g17 ga18 => ?_)
  have hC19 := CxOK.ga ga18 hC11
  have rb20 := RB.set (f := fun _ => 0) rb15 (fun _ => by decide)
  have ga21 := GA.tr ga13 ga18 (by decide)
  have bt22 := BT.arr bt16 (by decide) (by decide +kernel)
  refine R_putFR hC19 hN dX0_init_25 fl_0_18 (fun p hp => by obtain rfl := Option.some.inj (hp.symm.trans cl_0.1); rfl) (by decide) rfl (by decide) rfl (by decide) (fi := 2) rfl ?_
  have rb23 := RB.put (a := 14) (j := 2) (v := 17) rb20 (by decide)
  have bt24 := BT.put (f := 2) (v := 17) bt22
  refine R_returnN hC19 dX0_init_28 rfl ga21 rb23 ⟨bt24.1, fun h j h0 h1 h2 => ?_⟩
  by_cases e : h = 14
  · subst e
    have j2 : 0 ≤ j ∧ j < 5 := h2.elim (fun z => absurd z (by decide)) (fun z => z)
    have j3 : j = 0 ∨ j = 1 ∨ j = 2 ∨ j = 3 ∨ j = 4 := by omega
    rcases j3 with rfl | rfl | rfl | rfl | rfl
    · exact ((uM_k (by decide)).trans ((setR_o (by decide)).trans ((uM_k (by decide)).trans ((setR_o (by decide)).trans uM_same)))).trans (by decide +kernel)
    · exact ((uM_k (by decide)).trans ((setR_o (by decide)).trans uM_same)).trans (by decide +kernel)
    · exact uM_same.trans (by decide +kernel)
    · exact ((uM_k (by decide)).trans ((setR_o (by decide)).trans ((uM_k (by decide)).trans ((setR_o (by decide)).trans ((uM_k (by decide)).trans ((setR_o (by decide)).trans ((hrow 3).trans (by decide : dfl LY 0 3 = 0)))))))).trans (by decide +kernel)
    · exact ((uM_k (by decide)).trans ((setR_o (by decide)).trans ((uM_k (by decide)).trans ((setR_o (by decide)).trans ((uM_k (by decide)).trans ((setR_o (by decide)).trans ((hrow 4).trans (by decide : dfl LY 0 4 = 0)))))))).trans (by decide +kernel)
  · exact bt24.2 h j (by omega) h1 h2
set_option maxHeartbeats 2000000 in
theorem c7_init_11 {g : Nat → Nat} {q : Gq} {l : Launch} {M : Mem} (rb : RB LY 12 M) (hrow : ∀ j, M 11 j = dfl LY 7 j) : CtN g q LY 12 20 l 2 8 338 m7_init [vR 11] M (fun M' => BTf M M' 11 20) := by
  refine R_startN (by decide +kernel) rfl (Nat.le_of_ble_eq_true rfl) (fun C hC hN hRm hlau => ?_)
  show RZ (g, q) LY C _ 0 0 12 0 [some (vR 11)] [] M
  have ga0 : GA g g 12 := GA.rf
  have bt0 : BT M M 11 12 := BT.z
  refine R_aload_0 hC dX7_init_0 ?_
  refine R_initO hC dX7_init_1 (Ts_in (in_t1 _ (List.mem_of_getElem? (i := 43) rfl)) rfl) ob_im ob_co ⟨by rw [hRm]; decide, by rw [hRm]; decide⟩ rfl ?_
  refine R_aload_0 hC dX7_init_4 ?_
  refine R_newO (N := 1) hC dX7_init_5 cl_8 (Ts_in (in_t1 _ (List.mem_of_getElem? (i := 44) rfl)) rfl) (Ts_in (in_t1 _ (List.mem_of_getElem? (i := 45) rfl)) rfl) (Ts_in (in_t1 _ (List.mem_of_getElem? (i := 3) rfl)) rfl) rfl (by decide +kernel) (by decide) rb (lsOK_h (by decide)) (stOK_h (by decide)) (by rw [hRm]; exact Nat.le_of_ble_eq_true rfl) (by rw [hRm]; exact Nat.le_of_ble_eq_true rfl) (fun g1 ga2 => ?_)
  have hC3 := CxOK.ga ga2 hC
  have rb4 := RB.set (f := dfl LY 8) rb (fun j => (dfl_b j).2)
  have ga5 := GA.tr ga0 ga2 (by decide)
  refine R_dup hC3 dX7_init_8 rfl ?_
  refine R_callN (as := []) hC3 dX7_init_9 mi_8 (Ts_in (in_t1 _ (List.mem_of_getElem? (i := 46) rfl)) rfl) (c8_init_12 rb4 (fun j => setR_s)) rfl rfl ⟨by rw [hRm]; exact Nat.le_of_ble_eq_true rfl, by rw [hRm]; exact Nat.le_of_ble_eq_true rfl, (by rw [hRm]; exact Nat.le_of_ble_eq_true rfl), (by rw [hRm]; exact Nat.le_of_ble_eq_true rfl)⟩ (by decide) (lsOK_h (by decide)) (stOK_h (by decide)) (fun g6 M7 ga8 hq9 rb10 => ?_)
  have hC11 := CxOK.ga ga8 hC3
  have ga12 := GA.tr ga5 ga8 (by decide)
  have bt13 := BT.call bt0 (by decide) hq9
  refine R_putFR hC11 hN dX7_init_12 fl_7_12 (fun p hp => by obtain rfl := Option.some.inj (hp.symm.trans cl_7.1); rfl) (by decide) rfl (by decide) rfl (by decide) (fi := 0) rfl ?_
  have rb14 := RB.put (a := 11) (j := 0) (v := 12) rb10 (by decide)
  have bt15 := BT.put (f := 0) (v := 12) bt13
  refine R_aload_0 hC11 dX7_init_15 ?_
  refine R_newO (N := 5) hC11 dX7_init_16 cl_0 (Ts_in (in_t1 _ (List.mem_of_getElem? (i := 60) rfl)) rfl) (Ts_in (in_t1 _ (List.mem_of_getElem? (i := 61) rfl)) rfl) (Ts_in (in_t1 _ (List.mem_of_getElem? (i := 4) rfl)) rfl) rfl (by decide +kernel) (by decide) rb14 (lsOK_h (by decide)) (stOK_h (by decide)) (by rw [hRm]; exact Nat.le_of_ble_eq_true rfl) (by rw [hRm]; exact Nat.le_of_ble_eq_true rfl) (fun g16 ga17 => ?_)
  have hC18 := CxOK.ga ga17 hC11
  have rb19 := RB.set (f := dfl LY 0) rb14 (fun j => (dfl_b j).2)
  have ga20 := GA.tr ga12 ga17 (by decide)
  refine R_dup hC18 dX7_init_19 rfl ?_
  refine R_callN (as := []) hC18 dX7_init_20 mi_0 (Ts_in (in_t1 _ (List.mem_of_getElem? (i := 62) rfl)) rfl) (c0_init_14 rb19 (fun j => setR_s)) rfl rfl ⟨by rw [hRm]; exact Nat.le_of_ble_eq_true rfl, by rw [hRm]; exact Nat.le_of_ble_eq_true rfl, (by rw [hRm]; exact Nat.le_of_ble_eq_true rfl), (by rw [hRm]; exact Nat.le_of_ble_eq_true rfl)⟩ (by decide) (lsOK_h (by decide)) (stOK_h (by decide)) (fun g21 M22 ga23 hq24 rb25 => ?_)
  have hC26 := CxOK.ga ga23 hC18
  have ga27 := GA.tr ga20 ga23 (by decide)
  have bt28 := BT.call bt15 (by decide) hq24
  refine R_putFR hC26 hN dX7_init_23 fl_7_21 (fun p hp => by obtain rfl := Option.some.inj (hp.symm.trans cl_7.1); rfl) (by decide) rfl (by decide) rfl (by decide) (fi := 1) rfl ?_
  have rb29 := RB.put (a := 11) (j := 1) (v := 14) rb25 (by decide)
  have bt30 := BT.put (f := 1) (v := 14) bt28
  refine R_aload_0 hC26 dX7_init_26 ?_
  refine R_bipush hC26 dX7_init_27 (by decide +kernel) ⟨by decide, by decide⟩ ?_
  refine R_newA (kd := 20) (N := 6) hC26 dX7_init_29 rfl ⟨by decide, by decide⟩ (Ts_in (in_t1 _ (List.mem_of_getElem? (i := 59) rfl)) rfl) rfl (by decide +kernel) (by decide +kernel) (by decide +kernel) (by decide) rb29 (lsOK_h (by decide)) (stOK_h (by decide)) (by rw [hRm]; exact Nat.le_of_ble_eq_true rfl) (by rw [hRm]; exact Nat.le_of_ble_eq_true rfl) (fun g31 ga32 => ?_)
  have hC33 := CxOK.ga ga32 hC26
  have rb34 := RB.set (f := fun _ => 0) rb29 (fun _ => by decide)
  have ga35 := GA.tr ga27 ga32 (by decide)
  have bt36 := BT.arr bt30 (by decide) (by decide +kernel)
  refine R_putFR hC33 hN dX7_init_31 fl_7_25 (fun p hp => by obtain rfl := Option.some.inj (hp.symm.trans cl_7.1); rfl) (by decide) rfl (by decide) rfl (by decide) (fi := 2) rfl ?_
  have rb37 := RB.put (a := 11) (j := 2) (v := 18) rb34 (by decide)
  have bt38 := BT.put (f := 2) (v := 18) bt36
  refine R_aload_0 hC33 dX7_init_34 ?_
  refine R_iconst hC33 dX7_init_35 ⟨by decide, by decide⟩ ?_
  refine R_putI hC33 dX7_init_36 fl_7_29 (by decide) rfl (by decide) rfl (fi := 3) rfl ?_
  have rb39 := RB.put (a := 11) (j := 3) (v := 0) rb37 (by decide)
  have bt40 := BT.put (f := 3) (v := 0) bt38
  refine R_aload_0 hC33 dX7_init_39 ?_
  refine R_iconst hC33 dX7_init_40 ⟨by decide, by decide⟩ ?_
  refine R_newA (kd := 20) (N := 3) hC33 dX7_init_41 rfl ⟨by decide, by decide⟩ (Ts_in (in_t1 _ (List.mem_of_getElem? (i := 59) rfl)) rfl) rfl (by decide +kernel) (by decide +kernel) (by decide +kernel) (by decide) rb39 (lsOK_h (by decide)) (stOK_h (by decide)) (by rw [hRm]; exact Nat.le_of_ble_eq_true rfl) (by rw [hRm]; exact Nat.le_of_ble_eq_true rfl) (fun g41 ga42 => ?_)
  have hC43 := CxOK.ga ga42 hC33
  have rb44 := RB.set (f := fun _ => 0) rb39 (fun _ => by decide)
  have ga45 := GA.tr ga35 ga42 (by decide)
  have bt46 := BT.arr bt40 (by decide) (by decide +kernel)
  refine R_putFR hC43 hN dX7_init_43 fl_7_33 (fun p hp => by obtain rfl := Option.some.inj (hp.symm.trans cl_7.1); rfl) (by decide) rfl (by decide) rfl (by decide) (fi := 4) rfl ?_
  have rb47 := RB.put (a := 11) (j := 4) (v := 19) rb44 (by decide)
  have bt48 := BT.put (f := 4) (v := 19) bt46
  refine R_returnN hC43 dX7_init_46 rfl ga45 rb47 ⟨bt48.1, fun h j h0 h1 h2 => ?_⟩
  by_cases e : h = 11
  · subst e
    have j2 : 0 ≤ j ∧ j < 5 := h2.elim (fun z => absurd z (by decide)) (fun z => z)
    have j3 : j = 0 ∨ j = 1 ∨ j = 2 ∨ j = 3 ∨ j = 4 := by omega
    rcases j3 with rfl | rfl | rfl | rfl | rfl
    · exact ((uM_k (by decide)).trans ((setR_o (by decide)).trans ((uM_k (by decide)).trans ((uM_k (by decide)).trans ((setR_o (by decide)).trans ((uM_k (by decide)).trans ((hq24.1 11 0 (by decide)).trans ((setR_o (by decide)).trans uM_same)))))))).trans (by decide +kernel)
    · exact ((uM_k (by decide)).trans ((setR_o (by decide)).trans ((uM_k (by decide)).trans ((uM_k (by decide)).trans ((setR_o (by decide)).trans uM_same))))).trans (by decide +kernel)
    · exact ((uM_k (by decide)).trans ((setR_o (by decide)).trans ((uM_k (by decide)).trans uM_same))).trans (by decide +kernel)
    · exact ((uM_k (by decide)).trans ((setR_o (by decide)).trans uM_same)).trans (by decide +kernel)
    · exact uM_same.trans (by decide +kernel)
  · exact bt48.2 h j (by omega) h1 h2
set_option maxHeartbeats 2000000 in
theorem c8_init_20 {g : Nat → Nat} {q : Gq} {l : Launch} {M : Mem} (rb : RB LY 21 M) (hrow : ∀ j, M 20 j = dfl LY 8 j) : CtN g q LY 21 22 l 1 1 123 m8_init [vR 20] M (fun M' => BTf M M' 20 22) := by
  refine R_startN (by decide +kernel) rfl (Nat.le_of_ble_eq_true rfl) (fun C hC hN hRm hlau => ?_)
  show RZ (g, q) LY C _ 0 0 21 0 [some (vR 20)] [] M
  have ga0 : GA g g 21 := GA.rf
  have bt0 : BT M M 20 21 := BT.z
  refine R_aload_0 hC dX8_init_0 ?_
  refine R_initO hC dX8_init_1 (Ts_in (in_t1 _ (List.mem_of_getElem? (i := 49) rfl)) rfl) ob_im ob_co ⟨by rw [hRm]; decide, by rw [hRm]; decide⟩ rfl ?_
  refine R_aload_0 hC dX8_init_4 ?_
  refine R_bipush hC dX8_init_5 (by decide +kernel) ⟨by decide, by decide⟩ ?_
  refine R_newA (kd := 20) (N := 123) hC dX8_init_7 rfl ⟨by decide, by decide⟩ (Ts_in (in_t1 _ (List.mem_of_getElem? (i := 59) rfl)) rfl) rfl (by decide +kernel) (by decide +kernel) (by decide +kernel) (by decide) rb (lsOK_h (by decide)) (stOK_h (by decide)) (by rw [hRm]; exact Nat.le_of_ble_eq_true rfl) (by rw [hRm]; exact Nat.le_of_ble_eq_true rfl) (fun g1 ga2 => ?_)
  have hC3 := CxOK.ga ga2 hC
  have rb4 := RB.set (f := fun _ => 0) rb (fun _ => by decide)
  have ga5 := GA.tr ga0 ga2 (by decide)
  have bt6 := BT.arr bt0 (by decide) (by decide +kernel)
  refine R_putFR hC3 hN dX8_init_9 fl_8_9 (fun p hp => by obtain rfl := Option.some.inj (hp.symm.trans cl_8.1); rfl) (by decide) rfl (by decide) rfl (by decide) (fi := 0) rfl ?_
  have rb7 := RB.put (a := 20) (j := 0) (v := 21) rb4 (by decide)
  have bt8 := BT.put (f := 0) (v := 21) bt6
  refine R_returnN hC3 dX8_init_12 rfl ga5 rb7 ⟨bt8.1, fun h j h0 h1 h2 => ?_⟩
  by_cases e : h = 20
  · subst e
    have j2 : 0 ≤ j ∧ j < 1 := h2.elim (fun z => absurd z (by decide)) (fun z => z)
    have j3 : j = 0 := by omega
    rcases j3 with rfl
    · exact uM_same.trans (by decide +kernel)
  · exact bt8.2 h j (by omega) h1 h2
theorem dX9_init_16 : decode cX9_init 16 = .ok (.return_, 1) := by decide +kernel
theorem dX9_init_13 : decode cX9_init 13 = .ok (.putfield 15, 3) := by decide +kernel
theorem dX9_init_12 : decode cX9_init 12 = .ok (.iconst (-1), 1) := by decide +kernel
theorem dX9_init_11 : decode cX9_init 11 = .ok (.aload_n 0, 1) := by decide +kernel
theorem dX9_init_8 : decode cX9_init 8 = .ok (.putfield 9, 3) := by decide +kernel
theorem dX9_init_6 : decode cX9_init 6 = .ok (.newarray .byte, 2) := by decide +kernel
theorem dX9_init_5 : decode cX9_init 5 = .ok (.iconst 0, 1) := by decide +kernel
theorem dX9_init_4 : decode cX9_init 4 = .ok (.aload_n 0, 1) := by decide +kernel
theorem dX9_init_1 : decode cX9_init 1 = .ok (.invokespecial 3, 3) := by decide +kernel
theorem dX9_init_0 : decode cX9_init 0 = .ok (.aload_n 0, 1) := by decide +kernel
set_option maxHeartbeats 2000000 in
theorem c9_init_22 {g : Nat → Nat} {q : Gq} {l : Launch} {M : Mem} (rb : RB LY 23 M) (hrow : ∀ j, M 22 j = dfl LY 9 j) : CtN g q LY 23 24 l 1 1 0 m9_init [vR 22] M (fun M' => BTf M M' 22 24) := by
  refine R_startN (by decide +kernel) rfl (Nat.le_of_ble_eq_true rfl) (fun C hC hN hRm hlau => ?_)
  show RZ (g, q) LY C _ 0 0 23 0 [some (vR 22)] [] M
  have ga0 : GA g g 23 := GA.rf
  have bt0 : BT M M 22 23 := BT.z
  refine R_aload_0 hC dX9_init_0 ?_
  refine R_initO hC dX9_init_1 (Ts_in (in_t1 _ (List.mem_of_getElem? (i := 111) rfl)) rfl) ob_im ob_co ⟨by rw [hRm]; decide, by rw [hRm]; decide⟩ rfl ?_
  refine R_aload_0 hC dX9_init_4 ?_
  refine R_iconst hC dX9_init_5 ⟨by decide, by decide⟩ ?_
  refine R_newA (kd := 22) (N := 0) hC dX9_init_6 rfl ⟨by decide, by decide⟩ (Ts_in (in_t1 _ (List.mem_of_getElem? (i := 58) rfl)) rfl) rfl (by decide +kernel) (by decide +kernel) (by decide +kernel) (by decide) rb (lsOK_h (by decide)) (stOK_h (by decide)) (by rw [hRm]; exact Nat.le_of_ble_eq_true rfl) (by rw [hRm]; exact Nat.le_of_ble_eq_true rfl) (fun g1 ga2 => ?_)
  have hC3 := CxOK.ga ga2 hC
  have rb4 := RB.set (f := fun _ => 0) rb (fun _ => by decide)
  have ga5 := GA.tr ga0 ga2 (by decide)
  have bt6 := BT.arr bt0 (by decide) (by decide +kernel)
  refine R_putR hC3 dX9_init_8 fl_9_9 (by decide) rfl (by decide) rfl (by decide) (fi := 0) rfl ?_
  have rb7 := RB.put (a := 22) (j := 0) (v := 23) rb4 (by decide)
  have bt8 := BT.put (f := 0) (v := 23) bt6
  refine R_aload_0 hC3 dX9_init_11 ?_
  refine R_iconst hC3 dX9_init_12 ⟨by decide, by decide⟩ ?_
  refine R_putI hC3 dX9_init_13 fl_9_15 (by decide) rfl (by decide) rfl (fi := 8) rfl ?_
  have rb9 := RB.put (a := 22) (j := 8) (v := (-1)) rb7 (by decide)
  have bt10 := BT.put (f := 8) (v := (-1)) bt8
  refine R_returnN hC3 dX9_init_16 rfl ga5 rb9 ⟨bt10.1, fun h j h0 h1 h2 => ?_⟩
  by_cases e : h = 22
  · subst e
    have j2 : 0 ≤ j ∧ j < 9 := h2.elim (fun z => absurd z (by decide)) (fun z => z)
    have j3 : j = 0 ∨ j = 1 ∨ j = 2 ∨ j = 3 ∨ j = 4 ∨ j = 5 ∨ j = 6 ∨ j = 7 ∨ j = 8 := by omega
    rcases j3 with rfl | rfl | rfl | rfl | rfl | rfl | rfl | rfl | rfl
    · exact ((uM_k (by decide)).trans uM_same).trans (by decide +kernel)
    · exact ((uM_k (by decide)).trans ((uM_k (by decide)).trans ((setR_o (by decide)).trans ((hrow 1).trans (by decide : dfl LY 9 1 = 0))))).trans (by decide +kernel)
    · exact ((uM_k (by decide)).trans ((uM_k (by decide)).trans ((setR_o (by decide)).trans ((hrow 2).trans (by decide : dfl LY 9 2 = -1))))).trans (by decide +kernel)
    · exact ((uM_k (by decide)).trans ((uM_k (by decide)).trans ((setR_o (by decide)).trans ((hrow 3).trans (by decide : dfl LY 9 3 = 0))))).trans (by decide +kernel)
    · exact ((uM_k (by decide)).trans ((uM_k (by decide)).trans ((setR_o (by decide)).trans ((hrow 4).trans (by decide : dfl LY 9 4 = 0))))).trans (by decide +kernel)
    · exact ((uM_k (by decide)).trans ((uM_k (by decide)).trans ((setR_o (by decide)).trans ((hrow 5).trans (by decide : dfl LY 9 5 = 0))))).trans (by decide +kernel)
    · exact ((uM_k (by decide)).trans ((uM_k (by decide)).trans ((setR_o (by decide)).trans ((hrow 6).trans (by decide : dfl LY 9 6 = 0))))).trans (by decide +kernel)
    · exact ((uM_k (by decide)).trans ((uM_k (by decide)).trans ((setR_o (by decide)).trans ((hrow 7).trans (by decide : dfl LY 9 7 = 0))))).trans (by decide +kernel)
    · exact uM_same.trans (by decide +kernel)
  · exact bt10.2 h j (by omega) h1 h2
theorem dX6_init_97 : decode cX6_init 97 = .ok (.return_, 1) := by decide +kernel
theorem dX6_init_94 : decode cX6_init 94 = .ok (.putfield 45, 3) := by decide +kernel
theorem dX6_init_93 : decode cX6_init 93 = .ok (.iconst 1, 1) := by decide +kernel
theorem dX6_init_92 : decode cX6_init 92 = .ok (.aload_n 0, 1) := by decide +kernel
theorem dX6_init_89 : decode cX6_init 89 = .ok (.putfield 42, 3) := by decide +kernel
theorem dX6_init_87 : decode cX6_init 87 = .ok (.newarray .int, 2) := by decide +kernel
theorem dX6_init_85 : decode cX6_init 85 = .ok (.bipush 6, 2) := by decide +kernel
theorem dX6_init_84 : decode cX6_init 84 = .ok (.aload_n 0, 1) := by decide +kernel
theorem dX6_init_81 : decode cX6_init 81 = .ok (.putfield 39, 3) := by decide +kernel
theorem dX6_init_79 : decode cX6_init 79 = .ok (.newarray .int, 2) := by decide +kernel
theorem dX6_init_77 : decode cX6_init 77 = .ok (.bipush 32, 2) := by decide +kernel
theorem dX6_init_76 : decode cX6_init 76 = .ok (.aload_n 0, 1) := by decide +kernel
theorem dX6_init_73 : decode cX6_init 73 = .ok (.putfield 36, 3) := by decide +kernel
theorem dX6_init_71 : decode cX6_init 71 = .ok (.newarray .int, 2) := by decide +kernel
theorem dX6_init_69 : decode cX6_init 69 = .ok (.bipush 32, 2) := by decide +kernel
theorem dX6_init_68 : decode cX6_init 68 = .ok (.aload_n 0, 1) := by decide +kernel
theorem dX6_init_65 : decode cX6_init 65 = .ok (.putfield 33, 3) := by decide +kernel
theorem dX6_init_63 : decode cX6_init 63 = .ok (.newarray .int, 2) := by decide +kernel
theorem dX6_init_60 : decode cX6_init 60 = .ok (.sipush 192, 3) := by decide +kernel
theorem dX6_init_59 : decode cX6_init 59 = .ok (.aload_n 0, 1) := by decide +kernel
theorem dX6_init_56 : decode cX6_init 56 = .ok (.putfield 30, 3) := by decide +kernel
theorem dX6_init_54 : decode cX6_init 54 = .ok (.newarray .int, 2) := by decide +kernel
theorem dX6_init_51 : decode cX6_init 51 = .ok (.sipush 192, 3) := by decide +kernel
theorem dX6_init_50 : decode cX6_init 50 = .ok (.aload_n 0, 1) := by decide +kernel
theorem dX6_init_47 : decode cX6_init 47 = .ok (.putfield 27, 3) := by decide +kernel
theorem dX6_init_45 : decode cX6_init 45 = .ok (.newarray .int, 2) := by decide +kernel
theorem dX6_init_43 : decode cX6_init 43 = .ok (.bipush 6, 2) := by decide +kernel
theorem dX6_init_42 : decode cX6_init 42 = .ok (.aload_n 0, 1) := by decide +kernel
theorem dX6_init_39 : decode cX6_init 39 = .ok (.putfield 24, 3) := by decide +kernel
theorem dX6_init_37 : decode cX6_init 37 = .ok (.newarray .int, 2) := by decide +kernel
theorem dX6_init_35 : decode cX6_init 35 = .ok (.bipush 6, 2) := by decide +kernel
theorem dX6_init_34 : decode cX6_init 34 = .ok (.aload_n 0, 1) := by decide +kernel
theorem dX6_init_31 : decode cX6_init 31 = .ok (.putfield 21, 3) := by decide +kernel
theorem dX6_init_29 : decode cX6_init 29 = .ok (.newarray .int, 2) := by decide +kernel
theorem dX6_init_28 : decode cX6_init 28 = .ok (.iconst 5, 1) := by decide +kernel
theorem dX6_init_27 : decode cX6_init 27 = .ok (.aload_n 0, 1) := by decide +kernel
theorem dX6_init_24 : decode cX6_init 24 = .ok (.putfield 18, 3) := by decide +kernel
theorem dX6_init_22 : decode cX6_init 22 = .ok (.newarray .int, 2) := by decide +kernel
theorem dX6_init_21 : decode cX6_init 21 = .ok (.iconst 5, 1) := by decide +kernel
theorem dX6_init_20 : decode cX6_init 20 = .ok (.aload_n 0, 1) := by decide +kernel
theorem dX6_init_17 : decode cX6_init 17 = .ok (.putfield 15, 3) := by decide +kernel
theorem dX6_init_15 : decode cX6_init 15 = .ok (.newarray .int, 2) := by decide +kernel
theorem dX6_init_13 : decode cX6_init 13 = .ok (.bipush 6, 2) := by decide +kernel
theorem dX6_init_12 : decode cX6_init 12 = .ok (.aload_n 0, 1) := by decide +kernel
theorem dX6_init_9 : decode cX6_init 9 = .ok (.putfield 9, 3) := by decide +kernel
theorem dX6_init_7 : decode cX6_init 7 = .ok (.newarray .int, 2) := by decide +kernel
theorem dX6_init_5 : decode cX6_init 5 = .ok (.bipush 30, 2) := by decide +kernel
theorem dX6_init_4 : decode cX6_init 4 = .ok (.aload_n 0, 1) := by decide +kernel
theorem dX6_init_1 : decode cX6_init 1 = .ok (.invokespecial 3, 3) := by decide +kernel
theorem dX6_init_0 : decode cX6_init 0 = .ok (.aload_n 0, 1) := by decide +kernel
set_option maxHeartbeats 2000000 in
theorem c6_init_24 {g : Nat → Nat} {q : Gq} {l : Launch} {M : Mem} (rb : RB LY 25 M) (hrow : ∀ j, M 24 j = dfl LY 6 j) : CtN g q LY 25 36 l 1 11 512 m6_init [vR 24] M (fun M' => BTf M M' 24 36) := by
  refine R_startN (by decide +kernel) rfl (Nat.le_of_ble_eq_true rfl) (fun C hC hN hRm hlau => ?_)
  show RZ (g, q) LY C _ 0 0 25 0 [some (vR 24)] [] M
  have ga0 : GA g g 25 := GA.rf
  have bt0 : BT M M 24 25 := BT.z
  refine R_aload_0 hC dX6_init_0 ?_
  refine R_initO hC dX6_init_1 (Ts_in (in_t1 _ (List.mem_of_getElem? (i := 146) rfl)) rfl) ob_im ob_co ⟨by rw [hRm]; decide, by rw [hRm]; decide⟩ rfl ?_
  refine R_aload_0 hC dX6_init_4 ?_
  refine R_bipush hC dX6_init_5 (by decide +kernel) ⟨by decide, by decide⟩ ?_
  refine R_newA (kd := 20) (N := 30) hC dX6_init_7 rfl ⟨by decide, by decide⟩ (Ts_in (in_t1 _ (List.mem_of_getElem? (i := 59) rfl)) rfl) rfl (by decide +kernel) (by decide +kernel) (by decide +kernel) (by decide) rb (lsOK_h (by decide)) (stOK_h (by decide)) (by rw [hRm]; exact Nat.le_of_ble_eq_true rfl) (by rw [hRm]; exact Nat.le_of_ble_eq_true rfl) (fun g1 ga2 => ?_)
  have hC3 := CxOK.ga ga2 hC
  have rb4 := RB.set (f := fun _ => 0) rb (fun _ => by decide)
  have ga5 := GA.tr ga0 ga2 (by decide)
  have bt6 := BT.arr bt0 (by decide) (by decide +kernel)
  refine R_putFR hC3 hN dX6_init_9 fl_6_9 (fun p hp => by obtain rfl := Option.some.inj (hp.symm.trans cl_6.1); rfl) (by decide) rfl (by decide) rfl (by decide) (fi := 0) rfl ?_
  have rb7 := RB.put (a := 24) (j := 0) (v := 25) rb4 (by decide)
  have bt8 := BT.put (f := 0) (v := 25) bt6
  refine R_aload_0 hC3 dX6_init_12 ?_
  refine R_bipush hC3 dX6_init_13 (by decide +kernel) ⟨by decide, by decide⟩ ?_
  refine R_newA (kd := 20) (N := 6) hC3 dX6_init_15 rfl ⟨by decide, by decide⟩ (Ts_in (in_t1 _ (List.mem_of_getElem? (i := 59) rfl)) rfl) rfl (by decide +kernel) (by decide +kernel) (by decide +kernel) (by decide) rb7 (lsOK_h (by decide)) (stOK_h (by decide)) (by rw [hRm]; exact Nat.le_of_ble_eq_true rfl) (by rw [hRm]; exact Nat.le_of_ble_eq_true rfl) (fun g9 ga10 => ?_)
  have hC11 := CxOK.ga ga10 hC3
  have rb12 := RB.set (f := fun _ => 0) rb7 (fun _ => by decide)
  have ga13 := GA.tr ga5 ga10 (by decide)
  have bt14 := BT.arr bt8 (by decide) (by decide +kernel)
  refine R_putFR hC11 hN dX6_init_17 fl_6_15 (fun p hp => by obtain rfl := Option.some.inj (hp.symm.trans cl_6.1); rfl) (by decide) rfl (by decide) rfl (by decide) (fi := 1) rfl ?_
  have rb15 := RB.put (a := 24) (j := 1) (v := 26) rb12 (by decide)
  have bt16 := BT.put (f := 1) (v := 26) bt14
  refine R_aload_0 hC11 dX6_init_20 ?_
  refine R_iconst hC11 dX6_init_21 ⟨by decide, by decide⟩ ?_
  refine R_newA (kd := 20) (N := 5) hC11 dX6_init_22 rfl ⟨by decide, by decide⟩ (Ts_in (in_t1 _ (List.mem_of_getElem? (i := 59) rfl)) rfl) rfl (by decide +kernel) (by decide +kernel) (by decide +kernel) (by decide) rb15 (lsOK_h (by decide)) (stOK_h (by decide)) (by rw [hRm]; exact Nat.le_of_ble_eq_true rfl) (by rw [hRm]; exact Nat.le_of_ble_eq_true rfl) (fun g17 ga18 => ?_)
  have hC19 := CxOK.ga ga18 hC11
  have rb20 := RB.set (f := fun _ => 0) rb15 (fun _ => by decide)
  have ga21 := GA.tr ga13 ga18 (by decide)
  have bt22 := BT.arr bt16 (by decide) (by decide +kernel)
  refine R_putFR hC19 hN dX6_init_24 fl_6_18 (fun p hp => by obtain rfl := Option.some.inj (hp.symm.trans cl_6.1); rfl) (by decide) rfl (by decide) rfl (by decide) (fi := 2) rfl ?_
  have rb23 := RB.put (a := 24) (j := 2) (v := 27) rb20 (by decide)
  have bt24 := BT.put (f := 2) (v := 27) bt22
  refine R_aload_0 hC19 dX6_init_27 ?_
  refine R_iconst hC19 dX6_init_28 ⟨by decide, by decide⟩ ?_
  refine R_newA (kd := 20) (N := 5) hC19 dX6_init_29 rfl ⟨by decide, by decide⟩ (Ts_in (in_t1 _ (List.mem_of_getElem? (i := 59) rfl)) rfl) rfl (by decide +kernel) (by decide +kernel) (by decide +kernel) (by decide) rb23 (lsOK_h (by decide)) (stOK_h (by decide)) (by rw [hRm]; exact Nat.le_of_ble_eq_true rfl) (by rw [hRm]; exact Nat.le_of_ble_eq_true rfl) (fun g25 ga26 => ?_)
  have hC27 := CxOK.ga ga26 hC19
  have rb28 := RB.set (f := fun _ => 0) rb23 (fun _ => by decide)
  have ga29 := GA.tr ga21 ga26 (by decide)
  have bt30 := BT.arr bt24 (by decide) (by decide +kernel)
  refine R_putFR hC27 hN dX6_init_31 fl_6_21 (fun p hp => by obtain rfl := Option.some.inj (hp.symm.trans cl_6.1); rfl) (by decide) rfl (by decide) rfl (by decide) (fi := 3) rfl ?_
  have rb31 := RB.put (a := 24) (j := 3) (v := 28) rb28 (by decide)
  have bt32 := BT.put (f := 3) (v := 28) bt30
  refine R_aload_0 hC27 dX6_init_34 ?_
  refine R_bipush hC27 dX6_init_35 (by decide +kernel) ⟨by decide, by decide⟩ ?_
  refine R_newA (kd := 20) (N := 6) hC27 dX6_init_37 rfl ⟨by decide, by decide⟩ (Ts_in (in_t1 _ (List.mem_of_getElem? (i := 59) rfl)) rfl) rfl (by decide +kernel) (by decide +kernel) (by decide +kernel) (by decide) rb31 (lsOK_h (by decide)) (stOK_h (by decide)) (by rw [hRm]; exact Nat.le_of_ble_eq_true rfl) (by rw [hRm]; exact Nat.le_of_ble_eq_true rfl) (fun g33 ga34 => ?_)
  have hC35 := CxOK.ga ga34 hC27
  have rb36 := RB.set (f := fun _ => 0) rb31 (fun _ => by decide)
  have ga37 := GA.tr ga29 ga34 (by decide)
  have bt38 := BT.arr bt32 (by decide) (by decide +kernel)
  refine R_putFR hC35 hN dX6_init_39 fl_6_24 (fun p hp => by obtain rfl := Option.some.inj (hp.symm.trans cl_6.1); rfl) (by decide) rfl (by decide) rfl (by decide) (fi := 4) rfl ?_
  have rb39 := RB.put (a := 24) (j := 4) (v := 29) rb36 (by decide)
  have bt40 := BT.put (f := 4) (v := 29) bt38
  refine R_aload_0 hC35 dX6_init_42 ?_
  refine R_bipush hC35 dX6_init_43 (by decide +kernel) ⟨by decide, by decide⟩ ?_
  refine R_newA (kd := 20) (N := 6) hC35 dX6_init_45 rfl ⟨by decide, by decide⟩ (Ts_in (in_t1 _ (List.mem_of_getElem? (i := 59) rfl)) rfl) rfl (by decide +kernel) (by decide +kernel) (by decide +kernel) (by decide) rb39 (lsOK_h (by decide)) (stOK_h (by decide)) (by rw [hRm]; exact Nat.le_of_ble_eq_true rfl) (by rw [hRm]; exact Nat.le_of_ble_eq_true rfl) (fun g41 ga42 => ?_)
  have hC43 := CxOK.ga ga42 hC35
  have rb44 := RB.set (f := fun _ => 0) rb39 (fun _ => by decide)
  have ga45 := GA.tr ga37 ga42 (by decide)
  have bt46 := BT.arr bt40 (by decide) (by decide +kernel)
  refine R_putFR hC43 hN dX6_init_47 fl_6_27 (fun p hp => by obtain rfl := Option.some.inj (hp.symm.trans cl_6.1); rfl) (by decide) rfl (by decide) rfl (by decide) (fi := 5) rfl ?_
  have rb47 := RB.put (a := 24) (j := 5) (v := 30) rb44 (by decide)
  have bt48 := BT.put (f := 5) (v := 30) bt46
  refine R_aload_0 hC43 dX6_init_50 ?_
  refine R_sipush hC43 dX6_init_51 (by decide +kernel) ⟨by decide, by decide⟩ ?_
  refine R_newA (kd := 20) (N := 192) hC43 dX6_init_54 rfl ⟨by decide, by decide⟩ (Ts_in (in_t1 _ (List.mem_of_getElem? (i := 59) rfl)) rfl) rfl (by decide +kernel) (by decide +kernel) (by decide +kernel) (by decide) rb47 (lsOK_h (by decide)) (stOK_h (by decide)) (by rw [hRm]; exact Nat.le_of_ble_eq_true rfl) (by rw [hRm]; exact Nat.le_of_ble_eq_true rfl) (fun g49 ga50 => ?_)
  have hC51 := CxOK.ga ga50 hC43
  have rb52 := RB.set (f := fun _ => 0) rb47 (fun _ => by decide)
  have ga53 := GA.tr ga45 ga50 (by decide)
  have bt54 := BT.arr bt48 (by decide) (by decide +kernel)
  refine R_putFR hC51 hN dX6_init_56 fl_6_30 (fun p hp => by obtain rfl := Option.some.inj (hp.symm.trans cl_6.1); rfl) (by decide) rfl (by decide) rfl (by decide) (fi := 6) rfl ?_
  have rb55 := RB.put (a := 24) (j := 6) (v := 31) rb52 (by decide)
  have bt56 := BT.put (f := 6) (v := 31) bt54
  refine R_aload_0 hC51 dX6_init_59 ?_
  refine R_sipush hC51 dX6_init_60 (by decide +kernel) ⟨by decide, by decide⟩ ?_
  refine R_newA (kd := 20) (N := 192) hC51 dX6_init_63 rfl ⟨by decide, by decide⟩ (Ts_in (in_t1 _ (List.mem_of_getElem? (i := 59) rfl)) rfl) rfl (by decide +kernel) (by decide +kernel) (by decide +kernel) (by decide) rb55 (lsOK_h (by decide)) (stOK_h (by decide)) (by rw [hRm]; exact Nat.le_of_ble_eq_true rfl) (by rw [hRm]; exact Nat.le_of_ble_eq_true rfl) (fun g57 ga58 => ?_)
  have hC59 := CxOK.ga ga58 hC51
  have rb60 := RB.set (f := fun _ => 0) rb55 (fun _ => by decide)
  have ga61 := GA.tr ga53 ga58 (by decide)
  have bt62 := BT.arr bt56 (by decide) (by decide +kernel)
  refine R_putFR hC59 hN dX6_init_65 fl_6_33 (fun p hp => by obtain rfl := Option.some.inj (hp.symm.trans cl_6.1); rfl) (by decide) rfl (by decide) rfl (by decide) (fi := 7) rfl ?_
  have rb63 := RB.put (a := 24) (j := 7) (v := 32) rb60 (by decide)
  have bt64 := BT.put (f := 7) (v := 32) bt62
  refine R_aload_0 hC59 dX6_init_68 ?_
  refine R_bipush hC59 dX6_init_69 (by decide +kernel) ⟨by decide, by decide⟩ ?_
  refine R_newA (kd := 20) (N := 32) hC59 dX6_init_71 rfl ⟨by decide, by decide⟩ (Ts_in (in_t1 _ (List.mem_of_getElem? (i := 59) rfl)) rfl) rfl (by decide +kernel) (by decide +kernel) (by decide +kernel) (by decide) rb63 (lsOK_h (by decide)) (stOK_h (by decide)) (by rw [hRm]; exact Nat.le_of_ble_eq_true rfl) (by rw [hRm]; exact Nat.le_of_ble_eq_true rfl) (fun g65 ga66 => ?_)
  have hC67 := CxOK.ga ga66 hC59
  have rb68 := RB.set (f := fun _ => 0) rb63 (fun _ => by decide)
  have ga69 := GA.tr ga61 ga66 (by decide)
  have bt70 := BT.arr bt64 (by decide) (by decide +kernel)
  refine R_putFR hC67 hN dX6_init_73 fl_6_36 (fun p hp => by obtain rfl := Option.some.inj (hp.symm.trans cl_6.1); rfl) (by decide) rfl (by decide) rfl (by decide) (fi := 8) rfl ?_
  have rb71 := RB.put (a := 24) (j := 8) (v := 33) rb68 (by decide)
  have bt72 := BT.put (f := 8) (v := 33) bt70
  refine R_aload_0 hC67 dX6_init_76 ?_
  refine R_bipush hC67 dX6_init_77 (by decide +kernel) ⟨by decide, by decide⟩ ?_
  refine R_newA (kd := 20) (N := 32) hC67 dX6_init_79 rfl ⟨by decide, by decide⟩ (Ts_in (in_t1 _ (List.mem_of_getElem? (i := 59) rfl)) rfl) rfl (by decide +kernel) (by decide +kernel) (by decide +kernel) (by decide) rb71 (lsOK_h (by decide)) (stOK_h (by decide)) (by rw [hRm]; exact Nat.le_of_ble_eq_true rfl) (by rw [hRm]; exact Nat.le_of_ble_eq_true rfl) (fun g73 ga74 => ?_)
  have hC75 := CxOK.ga ga74 hC67
  have rb76 := RB.set (f := fun _ => 0) rb71 (fun _ => by decide)
  have ga77 := GA.tr ga69 ga74 (by decide)
  have bt78 := BT.arr bt72 (by decide) (by decide +kernel)
  refine R_putFR hC75 hN dX6_init_81 fl_6_39 (fun p hp => by obtain rfl := Option.some.inj (hp.symm.trans cl_6.1); rfl) (by decide) rfl (by decide) rfl (by decide) (fi := 9) rfl ?_
  have rb79 := RB.put (a := 24) (j := 9) (v := 34) rb76 (by decide)
  have bt80 := BT.put (f := 9) (v := 34) bt78
  refine R_aload_0 hC75 dX6_init_84 ?_
  refine R_bipush hC75 dX6_init_85 (by decide +kernel) ⟨by decide, by decide⟩ ?_
  refine R_newA (kd := 20) (N := 6) hC75 dX6_init_87 rfl ⟨by decide, by decide⟩ (Ts_in (in_t1 _ (List.mem_of_getElem? (i := 59) rfl)) rfl) rfl (by decide +kernel) (by decide +kernel) (by decide +kernel) (by decide) rb79 (lsOK_h (by decide)) (stOK_h (by decide)) (by rw [hRm]; exact Nat.le_of_ble_eq_true rfl) (by rw [hRm]; exact Nat.le_of_ble_eq_true rfl) (fun g81 ga82 => ?_)
  have hC83 := CxOK.ga ga82 hC75
  have rb84 := RB.set (f := fun _ => 0) rb79 (fun _ => by decide)
  have ga85 := GA.tr ga77 ga82 (by decide)
  have bt86 := BT.arr bt80 (by decide) (by decide +kernel)
  refine R_putFR hC83 hN dX6_init_89 fl_6_42 (fun p hp => by obtain rfl := Option.some.inj (hp.symm.trans cl_6.1); rfl) (by decide) rfl (by decide) rfl (by decide) (fi := 10) rfl ?_
  have rb87 := RB.put (a := 24) (j := 10) (v := 35) rb84 (by decide)
  have bt88 := BT.put (f := 10) (v := 35) bt86
  refine R_aload_0 hC83 dX6_init_92 ?_
  refine R_iconst hC83 dX6_init_93 ⟨by decide, by decide⟩ ?_
  refine R_putI hC83 dX6_init_94 fl_6_45 (by decide) rfl (by decide) rfl (fi := 13) rfl ?_
  have rb89 := RB.put (a := 24) (j := 13) (v := 1) rb87 (by decide)
  have bt90 := BT.put (f := 13) (v := 1) bt88
  refine R_returnN hC83 dX6_init_97 rfl ga85 rb89 ⟨bt90.1, fun h j h0 h1 h2 => ?_⟩
  by_cases e : h = 24
  · subst e
    have j2 : 0 ≤ j ∧ j < 14 := h2.elim (fun z => absurd z (by decide)) (fun z => z)
    have j3 : j = 0 ∨ j = 1 ∨ j = 2 ∨ j = 3 ∨ j = 4 ∨ j = 5 ∨ j = 6 ∨ j = 7 ∨ j = 8 ∨ j = 9 ∨ j = 10 ∨ j = 11 ∨ j = 12 ∨ j = 13 := by omega
    rcases j3 with rfl | rfl | rfl | rfl | rfl | rfl | rfl | rfl | rfl | rfl | rfl | rfl | rfl | rfl
    · exact ((uM_k (by decide)).trans ((uM_k (by decide)).trans ((setR_o (by decide)).trans ((uM_k (by decide)).trans ((setR_o (by decide)).trans ((uM_k (by decide)).trans ((setR_o (by decide)).trans ((uM_k (by decide)).trans ((setR_o (by decide)).trans ((uM_k (by decide)).trans ((setR_o (by decide)).trans ((uM_k (by decide)).trans ((setR_o (by decide)).trans ((uM_k (by decide)).trans ((setR_o (by decide)).trans ((uM_k (by decide)).trans ((setR_o (by decide)).trans ((uM_k (by decide)).trans ((setR_o (by decide)).trans ((uM_k (by decide)).trans ((setR_o (by decide)).trans uM_same))))))))))))))))))))).trans (by decide +kernel)
    · exact ((uM_k (by decide)).trans ((uM_k (by decide)).trans ((setR_o (by decide)).trans ((uM_k (by decide)).trans ((setR_o (by decide)).trans ((uM_k (by decide)).trans ((setR_o (by decide)).trans ((uM_k (by decide)).trans ((setR_o (by decide)).trans ((uM_k (by decide)).trans ((setR_o (by decide)).trans ((uM_k (by decide)).trans ((setR_o (by decide)).trans ((uM_k (by decide)).trans ((setR_o (by decide)).trans ((uM_k (by decide)).trans ((setR_o (by decide)).trans ((uM_k (by decide)).trans ((setR_o (by decide)).trans uM_same))))))))))))))))))).trans (by decide +kernel)
    · exact ((uM_k (by decide)).trans ((uM_k (by decide)).trans ((setR_o (by decide)).trans ((uM_k (by decide)).trans ((setR_o (by decide)).trans ((uM_k (by decide)).trans ((setR_o (by decide)).trans ((uM_k (by decide)).trans ((setR_o (by decide)).trans ((uM_k (by decide)).trans ((setR_o (by decide)).trans ((uM_k (by decide)).trans ((setR_o (by decide)).trans ((uM_k (by decide)).trans ((setR_o (by decide)).trans ((uM_k (by decide)).trans ((setR_o (by decide)).trans uM_same))))))))))))))))).trans (by decide +kernel)
    · exact ((uM_k (by decide)).trans ((uM_k (by decide)).trans ((setR_o (by decide)).trans ((uM_k (by decide)).trans ((setR_o (by decide)).trans ((uM_k (by decide)).trans ((setR_o (by decide)).trans ((uM_k (by decide)).trans ((setR_o (by decide)).trans ((uM_k (by decide)).trans ((setR_o (by decide)).trans ((uM_k (by decide)).trans ((setR_o (by decide)).trans ((uM_k (by decide)).trans ((setR_o (by decide)).trans uM_same))))))))))))))).trans (by decide +kernel)
    · exact ((uM_k (by decide)).trans ((uM_k (by decide)).trans ((setR_o (by decide)).trans ((uM_k (by decide)).trans ((setR_o (by decide)).trans ((uM_k (by decide)).trans ((setR_o (by decide)).trans ((uM_k (by decide)).trans ((setR_o (by decide)).trans ((uM_k (by decide)).trans ((setR_o (by decide)).trans ((uM_k (by decide)).trans ((setR_o (by decide)).trans uM_same))))))))))))).trans (by decide +kernel)
    · exact ((uM_k (by decide)).trans ((uM_k (by decide)).trans ((setR_o (by decide)).trans ((uM_k (by decide)).trans ((setR_o (by decide)).trans ((uM_k (by decide)).trans ((setR_o (by decide)).trans ((uM_k (by decide)).trans ((setR_o (by decide)).trans ((uM_k (by decide)).trans ((setR_o (by decide)).trans uM_same))))))))))).trans (by decide +kernel)
    · exact ((uM_k (by decide)).trans ((uM_k (by decide)).trans ((setR_o (by decide)).trans ((uM_k (by decide)).trans ((setR_o (by decide)).trans ((uM_k (by decide)).trans ((setR_o (by decide)).trans ((uM_k (by decide)).trans ((setR_o (by decide)).trans uM_same))))))))).trans (by decide +kernel)
    · exact ((uM_k (by decide)).trans ((uM_k (by decide)).trans ((setR_o (by decide)).trans ((uM_k (by decide)).trans ((setR_o (by decide)).trans ((uM_k (by decide)).trans ((setR_o (by decide)).trans uM_same))))))).trans (by decide +kernel)
    · exact ((uM_k (by decide)).trans ((uM_k (by decide)).trans ((setR_o (by decide)).trans ((uM_k (by decide)).trans ((setR_o (by decide)).trans uM_same))))).trans (by decide +kernel)
    · exact ((uM_k (by decide)).trans ((uM_k (by decide)).trans ((setR_o (by decide)).trans uM_same))).trans (by decide +kernel)
    · exact ((uM_k (by decide)).trans uM_same).trans (by decide +kernel)
    · exact ((uM_k (by decide)).trans ((uM_k (by decide)).trans ((setR_o (by decide)).trans ((uM_k (by decide)).trans ((setR_o (by decide)).trans ((uM_k (by decide)).trans ((setR_o (by decide)).trans ((uM_k (by decide)).trans ((setR_o (by decide)).trans ((uM_k (by decide)).trans ((setR_o (by decide)).trans ((uM_k (by decide)).trans ((setR_o (by decide)).trans ((uM_k (by decide)).trans ((setR_o (by decide)).trans ((uM_k (by decide)).trans ((setR_o (by decide)).trans ((uM_k (by decide)).trans ((setR_o (by decide)).trans ((uM_k (by decide)).trans ((setR_o (by decide)).trans ((uM_k (by decide)).trans ((setR_o (by decide)).trans ((hrow 11).trans (by decide : dfl LY 6 11 = 0))))))))))))))))))))))))).trans (by decide +kernel)
    · exact ((uM_k (by decide)).trans ((uM_k (by decide)).trans ((setR_o (by decide)).trans ((uM_k (by decide)).trans ((setR_o (by decide)).trans ((uM_k (by decide)).trans ((setR_o (by decide)).trans ((uM_k (by decide)).trans ((setR_o (by decide)).trans ((uM_k (by decide)).trans ((setR_o (by decide)).trans ((uM_k (by decide)).trans ((setR_o (by decide)).trans ((uM_k (by decide)).trans ((setR_o (by decide)).trans ((uM_k (by decide)).trans ((setR_o (by decide)).trans ((uM_k (by decide)).trans ((setR_o (by decide)).trans ((uM_k (by decide)).trans ((setR_o (by decide)).trans ((uM_k (by decide)).trans ((setR_o (by decide)).trans ((hrow 12).trans (by decide : dfl LY 6 12 = 0))))))))))))))))))))))))).trans (by decide +kernel)
    · exact uM_same.trans (by decide +kernel)
  · exact bt90.2 h j (by omega) h1 h2
theorem dX5_init_17 : decode cX5_init 17 = .ok (.return_, 1) := by decide +kernel
theorem dX5_init_14 : decode cX5_init 14 = .ok (.putfield 15, 3) := by decide +kernel
theorem dX5_init_12 : decode cX5_init 12 = .ok (.newarray .int, 2) := by decide +kernel
theorem dX5_init_10 : decode cX5_init 10 = .ok (.bipush 30, 2) := by decide +kernel
theorem dX5_init_9 : decode cX5_init 9 = .ok (.aload_n 0, 1) := by decide +kernel
theorem dX5_init_6 : decode cX5_init 6 = .ok (.putfield 9, 3) := by decide +kernel
theorem dX5_init_5 : decode cX5_init 5 = .ok (.aload_n 1, 1) := by decide +kernel
theorem dX5_init_4 : decode cX5_init 4 = .ok (.aload_n 0, 1) := by decide +kernel
theorem dX5_init_1 : decode cX5_init 1 = .ok (.invokespecial 3, 3) := by decide +kernel
theorem dX5_init_0 : decode cX5_init 0 = .ok (.aload_n 0, 1) := by decide +kernel
set_option maxHeartbeats 2000000 in
theorem c5_init_36 {g : Nat → Nat} {q : Gq} {l : Launch} {M : Mem} (rb : RB LY 37 M) (hrow : ∀ j, M 36 j = dfl LY 5 j) : CtN g q LY 37 38 l 1 1 30 m5_init [vR 36, vR 24] M (fun M' => BTf M M' 36 38) := by
  refine R_startN (by decide +kernel) rfl (Nat.le_of_ble_eq_true rfl) (fun C hC hN hRm hlau => ?_)
  show RZ (g, q) LY C _ 0 0 37 0 [some (vR 36), some (vR 24)] [] M
  have ga0 : GA g g 37 := GA.rf
  have bt0 : BT M M 36 37 := BT.z
  refine R_aload_0 hC dX5_init_0 ?_
  refine R_initO hC dX5_init_1 (Ts_in (in_t1 _ (List.mem_of_getElem? (i := 218) rfl)) rfl) ob_im ob_co ⟨by rw [hRm]; decide, by rw [hRm]; decide⟩ rfl ?_
  refine R_aload_0 hC dX5_init_4 ?_
  refine R_aload_1 hC dX5_init_5 ?_
  refine R_putFR hC hN dX5_init_6 fl_5_9 (fun p hp => by obtain rfl := Option.some.inj (hp.symm.trans cl_5.1); rfl) (by decide) rfl (by decide) rfl (by decide) (fi := 0) rfl ?_
  have rb1 := RB.put (a := 36) (j := 0) (v := 24) rb (by decide)
  have bt2 := BT.put (f := 0) (v := 24) bt0
  refine R_aload_0 hC dX5_init_9 ?_
  refine R_bipush hC dX5_init_10 (by decide +kernel) ⟨by decide, by decide⟩ ?_
  refine R_newA (kd := 20) (N := 30) hC dX5_init_12 rfl ⟨by decide, by decide⟩ (Ts_in (in_t1 _ (List.mem_of_getElem? (i := 59) rfl)) rfl) rfl (by decide +kernel) (by decide +kernel) (by decide +kernel) (by decide) rb1 (lsOK_h (by decide)) (stOK_h (by decide)) (by rw [hRm]; exact Nat.le_of_ble_eq_true rfl) (by rw [hRm]; exact Nat.le_of_ble_eq_true rfl) (fun g3 ga4 => ?_)
  have hC5 := CxOK.ga ga4 hC
  have rb6 := RB.set (f := fun _ => 0) rb1 (fun _ => by decide)
  have ga7 := GA.tr ga0 ga4 (by decide)
  have bt8 := BT.arr bt2 (by decide) (by decide +kernel)
  refine R_putFR hC5 hN dX5_init_14 fl_5_15 (fun p hp => by obtain rfl := Option.some.inj (hp.symm.trans cl_5.1); rfl) (by decide) rfl (by decide) rfl (by decide) (fi := 1) rfl ?_
  have rb9 := RB.put (a := 36) (j := 1) (v := 37) rb6 (by decide)
  have bt10 := BT.put (f := 1) (v := 37) bt8
  refine R_returnN hC5 dX5_init_17 rfl ga7 rb9 ⟨bt10.1, fun h j h0 h1 h2 => ?_⟩
  by_cases e : h = 36
  · subst e
    have j2 : 0 ≤ j ∧ j < 4 := h2.elim (fun z => absurd z (by decide)) (fun z => z)
    have j3 : j = 0 ∨ j = 1 ∨ j = 2 ∨ j = 3 := by omega
    rcases j3 with rfl | rfl | rfl | rfl
    · exact ((uM_k (by decide)).trans ((setR_o (by decide)).trans uM_same)).trans (by decide +kernel)
    · exact uM_same.trans (by decide +kernel)
    · exact ((uM_k (by decide)).trans ((setR_o (by decide)).trans ((uM_k (by decide)).trans ((hrow 2).trans (by decide : dfl LY 5 2 = 0))))).trans (by decide +kernel)
    · exact ((uM_k (by decide)).trans ((setR_o (by decide)).trans ((uM_k (by decide)).trans ((hrow 3).trans (by decide : dfl LY 5 3 = 0))))).trans (by decide +kernel)
  · exact bt10.2 h j (by omega) h1 h2
theorem dX4_init_20 : decode cX4_init 20 = .ok (.return_, 1) := by decide +kernel
theorem dX4_init_17 : decode cX4_init 17 = .ok (.putfield 18, 3) := by decide +kernel
theorem dX4_init_14 : decode cX4_init 14 = .ok (.invokespecial 17, 3) := by decide +kernel
theorem dX4_init_13 : decode cX4_init 13 = .ok (.dup, 1) := by decide +kernel
theorem dX4_init_10 : decode cX4_init 10 = .ok (.new 15, 3) := by decide +kernel
theorem dX4_init_9 : decode cX4_init 9 = .ok (.aload_n 0, 1) := by decide +kernel
theorem dX4_init_6 : decode cX4_init 6 = .ok (.putfield 9, 3) := by decide +kernel
theorem dX4_init_5 : decode cX4_init 5 = .ok (.aload_n 1, 1) := by decide +kernel
theorem dX4_init_4 : decode cX4_init 4 = .ok (.aload_n 0, 1) := by decide +kernel
theorem dX4_init_1 : decode cX4_init 1 = .ok (.invokespecial 3, 3) := by decide +kernel
theorem dX4_init_0 : decode cX4_init 0 = .ok (.aload_n 0, 1) := by decide +kernel
set_option maxHeartbeats 2000000 in
theorem c8_init_39 {g : Nat → Nat} {q : Gq} {l : Launch} {M : Mem} (rb : RB LY 40 M) (hrow : ∀ j, M 39 j = dfl LY 8 j) : CtN g q LY 40 41 l 1 1 123 m8_init [vR 39] M (fun M' => BTf M M' 39 41) := by
  refine R_startN (by decide +kernel) rfl (Nat.le_of_ble_eq_true rfl) (fun C hC hN hRm hlau => ?_)
  show RZ (g, q) LY C _ 0 0 40 0 [some (vR 39)] [] M
  have ga0 : GA g g 40 := GA.rf
  have bt0 : BT M M 39 40 := BT.z
  refine R_aload_0 hC dX8_init_0 ?_
  refine R_initO hC dX8_init_1 (Ts_in (in_t1 _ (List.mem_of_getElem? (i := 49) rfl)) rfl) ob_im ob_co ⟨by rw [hRm]; decide, by rw [hRm]; decide⟩ rfl ?_
  refine R_aload_0 hC dX8_init_4 ?_
  refine R_bipush hC dX8_init_5 (by decide +kernel) ⟨by decide, by decide⟩ ?_
  refine R_newA (kd := 20) (N := 123) hC dX8_init_7 rfl ⟨by decide, by decide⟩ (Ts_in (in_t1 _ (List.mem_of_getElem? (i := 59) rfl)) rfl) rfl (by decide +kernel) (by decide +kernel) (by decide +kernel) (by decide) rb (lsOK_h (by decide)) (stOK_h (by decide)) (by rw [hRm]; exact Nat.le_of_ble_eq_true rfl) (by rw [hRm]; exact Nat.le_of_ble_eq_true rfl) (fun g1 ga2 => ?_)
  have hC3 := CxOK.ga ga2 hC
  have rb4 := RB.set (f := fun _ => 0) rb (fun _ => by decide)
  have ga5 := GA.tr ga0 ga2 (by decide)
  have bt6 := BT.arr bt0 (by decide) (by decide +kernel)
  refine R_putFR hC3 hN dX8_init_9 fl_8_9 (fun p hp => by obtain rfl := Option.some.inj (hp.symm.trans cl_8.1); rfl) (by decide) rfl (by decide) rfl (by decide) (fi := 0) rfl ?_
  have rb7 := RB.put (a := 39) (j := 0) (v := 40) rb4 (by decide)
  have bt8 := BT.put (f := 0) (v := 40) bt6
  refine R_returnN hC3 dX8_init_12 rfl ga5 rb7 ⟨bt8.1, fun h j h0 h1 h2 => ?_⟩
  by_cases e : h = 39
  · subst e
    have j2 : 0 ≤ j ∧ j < 1 := h2.elim (fun z => absurd z (by decide)) (fun z => z)
    have j3 : j = 0 := by omega
    rcases j3 with rfl
    · exact uM_same.trans (by decide +kernel)
  · exact bt8.2 h j (by omega) h1 h2
set_option maxHeartbeats 2000000 in
theorem c4_init_38 {g : Nat → Nat} {q : Gq} {l : Launch} {M : Mem} (rb : RB LY 39 M) (hrow : ∀ j, M 38 j = dfl LY 4 j) : CtN g q LY 39 41 l 2 2 124 m4_init [vR 38, vR 24] M (fun M' => BTf M M' 38 41) := by
  refine R_startN (by decide +kernel) rfl (Nat.le_of_ble_eq_true rfl) (fun C hC hN hRm hlau => ?_)
  show RZ (g, q) LY C _ 0 0 39 0 [some (vR 38), some (vR 24)] [] M
  have ga0 : GA g g 39 := GA.rf
  have bt0 : BT M M 38 39 := BT.z
  refine R_aload_0 hC dX4_init_0 ?_
  refine R_initO hC dX4_init_1 (Ts_in (in_t2 _ (List.mem_of_getElem? (i := 0) rfl)) rfl) ob_im ob_co ⟨by rw [hRm]; decide, by rw [hRm]; decide⟩ rfl ?_
  refine R_aload_0 hC dX4_init_4 ?_
  refine R_aload_1 hC dX4_init_5 ?_
  refine R_putFR hC hN dX4_init_6 fl_4_9 (fun p hp => by obtain rfl := Option.some.inj (hp.symm.trans cl_4.1); rfl) (by decide) rfl (by decide) rfl (by decide) (fi := 0) rfl ?_
  have rb1 := RB.put (a := 38) (j := 0) (v := 24) rb (by decide)
  have bt2 := BT.put (f := 0) (v := 24) bt0
  refine R_aload_0 hC dX4_init_9 ?_
  refine R_newO (N := 1) hC dX4_init_10 cl_8 (Ts_in (in_t2 _ (List.mem_of_getElem? (i := 1) rfl)) rfl) (Ts_in (in_t1 _ (List.mem_of_getElem? (i := 45) rfl)) rfl) (Ts_in (in_t1 _ (List.mem_of_getElem? (i := 3) rfl)) rfl) rfl (by decide +kernel) (by decide) rb1 (lsOK_h (by decide)) (stOK_h (by decide)) (by rw [hRm]; exact Nat.le_of_ble_eq_true rfl) (by rw [hRm]; exact Nat.le_of_ble_eq_true rfl) (fun g3 ga4 => ?_)
  have hC5 := CxOK.ga ga4 hC
  have rb6 := RB.set (f := dfl LY 8) rb1 (fun j => (dfl_b j).2)
  have ga7 := GA.tr ga0 ga4 (by decide)
  refine R_dup hC5 dX4_init_13 rfl ?_
  refine R_callN (as := []) hC5 dX4_init_14 mi_8 (Ts_in (in_t2 _ (List.mem_of_getElem? (i := 2) rfl)) rfl) (c8_init_39 rb6 (fun j => setR_s)) rfl rfl ⟨by rw [hRm]; exact Nat.le_of_ble_eq_true rfl, by rw [hRm]; exact Nat.le_of_ble_eq_true rfl, (by rw [hRm]; exact Nat.le_of_ble_eq_true rfl), (by rw [hRm]; exact Nat.le_of_ble_eq_true rfl)⟩ (by decide) (lsOK_h (by decide)) (stOK_h (by decide)) (fun g8 M9 ga10 hq11 rb12 => ?_)
  have hC13 := CxOK.ga ga10 hC5
  have ga14 := GA.tr ga7 ga10 (by decide)
  have bt15 := BT.call bt2 (by decide) hq11
  refine R_putFR hC13 hN dX4_init_17 fl_4_18 (fun p hp => by obtain rfl := Option.some.inj (hp.symm.trans cl_4.1); rfl) (by decide) rfl (by decide) rfl (by decide) (fi := 1) rfl ?_
  have rb16 := RB.put (a := 38) (j := 1) (v := 39) rb12 (by decide)
  have bt17 := BT.put (f := 1) (v := 39) bt15
  refine R_returnN hC13 dX4_init_20 rfl ga14 rb16 ⟨bt17.1, fun h j h0 h1 h2 => ?_⟩
  by_cases e : h = 38
  · subst e
    have j2 : 0 ≤ j ∧ j < 4 := h2.elim (fun z => absurd z (by decide)) (fun z => z)
    have j3 : j = 0 ∨ j = 1 ∨ j = 2 ∨ j = 3 := by omega
    rcases j3 with rfl | rfl | rfl | rfl
    · exact ((uM_k (by decide)).trans ((hq11.1 38 0 (by decide)).trans ((setR_o (by decide)).trans uM_same))).trans (by decide +kernel)
    · exact uM_same.trans (by decide +kernel)
    · exact ((uM_k (by decide)).trans ((hq11.1 38 2 (by decide)).trans ((setR_o (by decide)).trans ((uM_k (by decide)).trans ((hrow 2).trans (by decide : dfl LY 4 2 = 0)))))).trans (by decide +kernel)
    · exact ((uM_k (by decide)).trans ((hq11.1 38 3 (by decide)).trans ((setR_o (by decide)).trans ((uM_k (by decide)).trans ((hrow 3).trans (by decide : dfl LY 4 3 = 0)))))).trans (by decide +kernel)
  · exact bt17.2 h j (by omega) h1 h2
theorem dX10_init_31 : decode cX10_init 31 = .ok (.return_, 1) := by decide +kernel
theorem dX10_init_28 : decode cX10_init 28 = .ok (.putfield 22, 3) := by decide +kernel
theorem dX10_init_26 : decode cX10_init 26 = .ok (.newarray .int, 2) := by decide +kernel
theorem dX10_init_25 : decode cX10_init 25 = .ok (.iconst 5, 1) := by decide +kernel
theorem dX10_init_24 : decode cX10_init 24 = .ok (.aload_n 0, 1) := by decide +kernel
theorem dX10_init_21 : decode cX10_init 21 = .ok (.putfield 19, 3) := by decide +kernel
theorem dX10_init_19 : decode cX10_init 19 = .ok (.newarray .int, 2) := by decide +kernel
theorem dX10_init_18 : decode cX10_init 18 = .ok (.iconst 5, 1) := by decide +kernel
theorem dX10_init_17 : decode cX10_init 17 = .ok (.aload_n 0, 1) := by decide +kernel
theorem dX10_init_14 : decode cX10_init 14 = .ok (.putfield 15, 3) := by decide +kernel
theorem dX10_init_12 : decode cX10_init 12 = .ok (.newarray .int, 2) := by decide +kernel
theorem dX10_init_10 : decode cX10_init 10 = .ok (.bipush 36, 2) := by decide +kernel
theorem dX10_init_9 : decode cX10_init 9 = .ok (.aload_n 0, 1) := by decide +kernel
theorem dX10_init_6 : decode cX10_init 6 = .ok (.putfield 9, 3) := by decide +kernel
theorem dX10_init_5 : decode cX10_init 5 = .ok (.aload_n 1, 1) := by decide +kernel
theorem dX10_init_4 : decode cX10_init 4 = .ok (.aload_n 0, 1) := by decide +kernel
theorem dX10_init_1 : decode cX10_init 1 = .ok (.invokespecial 3, 3) := by decide +kernel
theorem dX10_init_0 : decode cX10_init 0 = .ok (.aload_n 0, 1) := by decide +kernel
set_option maxHeartbeats 2000000 in
theorem c10_init_41 {g : Nat → Nat} {q : Gq} {l : Launch} {M : Mem} (rb : RB LY 42 M) (hrow : ∀ j, M 41 j = dfl LY 10 j) : CtN g q LY 42 45 l 1 3 46 m10_init [vR 41, vR 24] M (fun M' => BTf M M' 41 45) := by
  refine R_startN (by decide +kernel) rfl (Nat.le_of_ble_eq_true rfl) (fun C hC hN hRm hlau => ?_)
  show RZ (g, q) LY C _ 0 0 42 0 [some (vR 41), some (vR 24)] [] M
  have ga0 : GA g g 42 := GA.rf
  have bt0 : BT M M 41 42 := BT.z
  refine R_aload_0 hC dX10_init_0 ?_
  refine R_initO hC dX10_init_1 (Ts_in (in_t2 _ (List.mem_of_getElem? (i := 23) rfl)) rfl) ob_im ob_co ⟨by rw [hRm]; decide, by rw [hRm]; decide⟩ rfl ?_
  refine R_aload_0 hC dX10_init_4 ?_
  refine R_aload_1 hC dX10_init_5 ?_
  refine R_putFR hC hN dX10_init_6 fl_10_9 (fun p hp => by obtain rfl := Option.some.inj (hp.symm.trans cl_10.1); rfl) (by decide) rfl (by decide) rfl (by decide) (fi := 0) rfl ?_
  have rb1 := RB.put (a := 41) (j := 0) (v := 24) rb (by decide)
  have bt2 := BT.put (f := 0) (v := 24) bt0
  refine R_aload_0 hC dX10_init_9 ?_
  refine R_bipush hC dX10_init_10 (by decide +kernel) ⟨by decide, by decide⟩ ?_
  refine R_newA (kd := 20) (N := 36) hC dX10_init_12 rfl ⟨by decide, by decide⟩ (Ts_in (in_t1 _ (List.mem_of_getElem? (i := 59) rfl)) rfl) rfl (by decide +kernel) (by decide +kernel) (by decide +kernel) (by decide) rb1 (lsOK_h (by decide)) (stOK_h (by decide)) (by rw [hRm]; exact Nat.le_of_ble_eq_true rfl) (by rw [hRm]; exact Nat.le_of_ble_eq_true rfl) (fun g3 ga4 => ?_)
  have hC5 := CxOK.ga ga4 hC
  have rb6 := RB.set (f := fun _ => 0) rb1 (fun _ => by decide)
  have ga7 := GA.tr ga0 ga4 (by decide)
  have bt8 := BT.arr bt2 (by decide) (by decide +kernel)
  refine R_putFR hC5 hN dX10_init_14 fl_10_15 (fun p hp => by obtain rfl := Option.some.inj (hp.symm.trans cl_10.1); rfl) (by decide) rfl (by decide) rfl (by decide) (fi := 1) rfl ?_
  have rb9 := RB.put (a := 41) (j := 1) (v := 42) rb6 (by decide)
  have bt10 := BT.put (f := 1) (v := 42) bt8
  refine R_aload_0 hC5 dX10_init_17 ?_
  refine R_iconst hC5 dX10_init_18 ⟨by decide, by decide⟩ ?_
  refine R_newA (kd := 20) (N := 5) hC5 dX10_init_19 rfl ⟨by decide, by decide⟩ (Ts_in (in_t1 _ (List.mem_of_getElem? (i := 59) rfl)) rfl) rfl (by decide +kernel) (by decide +kernel) (by decide +kernel) (by decide) rb9 (lsOK_h (by decide)) (stOK_h (by decide)) (by rw [hRm]; exact Nat.le_of_ble_eq_true rfl) (by rw [hRm]; exact Nat.le_of_ble_eq_true rfl) (fun g11 ga12 => ?_)
  have hC13 := CxOK.ga ga12 hC5
  have rb14 := RB.set (f := fun _ => 0) rb9 (fun _ => by decide)
  have ga15 := GA.tr ga7 ga12 (by decide)
  have bt16 := BT.arr bt10 (by decide) (by decide +kernel)
  refine R_putFR hC13 hN dX10_init_21 fl_10_19 (fun p hp => by obtain rfl := Option.some.inj (hp.symm.trans cl_10.1); rfl) (by decide) rfl (by decide) rfl (by decide) (fi := 2) rfl ?_
  have rb17 := RB.put (a := 41) (j := 2) (v := 43) rb14 (by decide)
  have bt18 := BT.put (f := 2) (v := 43) bt16
  refine R_aload_0 hC13 dX10_init_24 ?_
  refine R_iconst hC13 dX10_init_25 ⟨by decide, by decide⟩ ?_
  refine R_newA (kd := 20) (N := 5) hC13 dX10_init_26 rfl ⟨by decide, by decide⟩ (Ts_in (in_t1 _ (List.mem_of_getElem? (i := 59) rfl)) rfl) rfl (by decide +kernel) (by decide +kernel) (by decide +kernel) (by decide) rb17 (lsOK_h (by decide)) (stOK_h (by decide)) (by rw [hRm]; exact Nat.le_of_ble_eq_true rfl) (by rw [hRm]; exact Nat.le_of_ble_eq_true rfl) (fun g19 ga20 => ?_)
  have hC21 := CxOK.ga ga20 hC13
  have rb22 := RB.set (f := fun _ => 0) rb17 (fun _ => by decide)
  have ga23 := GA.tr ga15 ga20 (by decide)
  have bt24 := BT.arr bt18 (by decide) (by decide +kernel)
  refine R_putFR hC21 hN dX10_init_28 fl_10_22 (fun p hp => by obtain rfl := Option.some.inj (hp.symm.trans cl_10.1); rfl) (by decide) rfl (by decide) rfl (by decide) (fi := 4) rfl ?_
  have rb25 := RB.put (a := 41) (j := 4) (v := 44) rb22 (by decide)
  have bt26 := BT.put (f := 4) (v := 44) bt24
  refine R_returnN hC21 dX10_init_31 rfl ga23 rb25 ⟨bt26.1, fun h j h0 h1 h2 => ?_⟩
  by_cases e : h = 41
  · subst e
    have j2 : 0 ≤ j ∧ j < 9 := h2.elim (fun z => absurd z (by decide)) (fun z => z)
    have j3 : j = 0 ∨ j = 1 ∨ j = 2 ∨ j = 3 ∨ j = 4 ∨ j = 5 ∨ j = 6 ∨ j = 7 ∨ j = 8 := by omega
    rcases j3 with rfl | rfl | rfl | rfl | rfl | rfl | rfl | rfl | rfl
    · exact ((uM_k (by decide)).trans ((setR_o (by decide)).trans ((uM_k (by decide)).trans ((setR_o (by decide)).trans ((uM_k (by decide)).trans ((setR_o (by decide)).trans uM_same)))))).trans (by decide +kernel)
    · exact ((uM_k (by decide)).trans ((setR_o (by decide)).trans ((uM_k (by decide)).trans ((setR_o (by decide)).trans uM_same)))).trans (by decide +kernel)
    · exact ((uM_k (by decide)).trans ((setR_o (by decide)).trans uM_same)).trans (by decide +kernel)
    · exact ((uM_k (by decide)).trans ((setR_o (by decide)).trans ((uM_k (by decide)).trans ((setR_o (by decide)).trans ((uM_k (by decide)).trans ((setR_o (by decide)).trans ((uM_k (by decide)).trans ((hrow 3).trans (by decide : dfl LY 10 3 = 0))))))))).trans (by decide +kernel)
    · exact uM_same.trans (by decide +kernel)
    · exact ((uM_k (by decide)).trans ((setR_o (by decide)).trans ((uM_k (by decide)).trans ((setR_o (by decide)).trans ((uM_k (by decide)).trans ((setR_o (by decide)).trans ((uM_k (by decide)).trans ((hrow 5).trans (by decide : dfl LY 10 5 = 0))))))))).trans (by decide +kernel)
    · exact ((uM_k (by decide)).trans ((setR_o (by decide)).trans ((uM_k (by decide)).trans ((setR_o (by decide)).trans ((uM_k (by decide)).trans ((setR_o (by decide)).trans ((uM_k (by decide)).trans ((hrow 6).trans (by decide : dfl LY 10 6 = 0))))))))).trans (by decide +kernel)
    · exact ((uM_k (by decide)).trans ((setR_o (by decide)).trans ((uM_k (by decide)).trans ((setR_o (by decide)).trans ((uM_k (by decide)).trans ((setR_o (by decide)).trans ((uM_k (by decide)).trans ((hrow 7).trans (by decide : dfl LY 10 7 = 0))))))))).trans (by decide +kernel)
    · exact ((uM_k (by decide)).trans ((setR_o (by decide)).trans ((uM_k (by decide)).trans ((setR_o (by decide)).trans ((uM_k (by decide)).trans ((setR_o (by decide)).trans ((uM_k (by decide)).trans ((hrow 8).trans (by decide : dfl LY 10 8 = 0))))))))).trans (by decide +kernel)
  · exact bt26.2 h j (by omega) h1 h2
theorem dX3_init_28 : decode cX3_init 28 = .ok (.return_, 1) := by decide +kernel
theorem dX3_init_25 : decode cX3_init 25 = .ok (.putfield 22, 3) := by decide +kernel
theorem dX3_init_23 : decode cX3_init 23 = .ok (.newarray .int, 2) := by decide +kernel
theorem dX3_init_21 : decode cX3_init 21 = .ok (.bipush 32, 2) := by decide +kernel
theorem dX3_init_20 : decode cX3_init 20 = .ok (.aload_n 0, 1) := by decide +kernel
theorem dX3_init_17 : decode cX3_init 17 = .ok (.putfield 18, 3) := by decide +kernel
theorem dX3_init_14 : decode cX3_init 14 = .ok (.invokespecial 17, 3) := by decide +kernel
theorem dX3_init_13 : decode cX3_init 13 = .ok (.dup, 1) := by decide +kernel
theorem dX3_init_10 : decode cX3_init 10 = .ok (.new 15, 3) := by decide +kernel
theorem dX3_init_9 : decode cX3_init 9 = .ok (.aload_n 0, 1) := by decide +kernel
theorem dX3_init_6 : decode cX3_init 6 = .ok (.putfield 9, 3) := by decide +kernel
theorem dX3_init_5 : decode cX3_init 5 = .ok (.aload_n 1, 1) := by decide +kernel
theorem dX3_init_4 : decode cX3_init 4 = .ok (.aload_n 0, 1) := by decide +kernel
theorem dX3_init_1 : decode cX3_init 1 = .ok (.invokespecial 3, 3) := by decide +kernel
theorem dX3_init_0 : decode cX3_init 0 = .ok (.aload_n 0, 1) := by decide +kernel
set_option maxHeartbeats 2000000 in
theorem c8_init_46 {g : Nat → Nat} {q : Gq} {l : Launch} {M : Mem} (rb : RB LY 47 M) (hrow : ∀ j, M 46 j = dfl LY 8 j) : CtN g q LY 47 48 l 1 1 123 m8_init [vR 46] M (fun M' => BTf M M' 46 48) := by
  refine R_startN (by decide +kernel) rfl (Nat.le_of_ble_eq_true rfl) (fun C hC hN hRm hlau => ?_)
  show RZ (g, q) LY C _ 0 0 47 0 [some (vR 46)] [] M
  have ga0 : GA g g 47 := GA.rf
  have bt0 : BT M M 46 47 := BT.z
  refine R_aload_0 hC dX8_init_0 ?_
  refine R_initO hC dX8_init_1 (Ts_in (in_t1 _ (List.mem_of_getElem? (i := 49) rfl)) rfl) ob_im ob_co ⟨by rw [hRm]; decide, by rw [hRm]; decide⟩ rfl ?_
  refine R_aload_0 hC dX8_init_4 ?_
  refine R_bipush hC dX8_init_5 (by decide +kernel) ⟨by decide, by decide⟩ ?_
  refine R_newA (kd := 20) (N := 123) hC dX8_init_7 rfl ⟨by decide, by decide⟩ (Ts_in (in_t1 _ (List.mem_of_getElem? (i := 59) rfl)) rfl) rfl (by decide +kernel) (by decide +kernel) (by decide +kernel) (by decide) rb (lsOK_h (by decide)) (stOK_h (by decide)) (by rw [hRm]; exact Nat.le_of_ble_eq_true rfl) (by rw [hRm]; exact Nat.le_of_ble_eq_true rfl) (fun g1 ga2 => ?_)
  have hC3 := CxOK.ga ga2 hC
  have rb4 := RB.set (f := fun _ => 0) rb (fun _ => by decide)
  have ga5 := GA.tr ga0 ga2 (by decide)
  have bt6 := BT.arr bt0 (by decide) (by decide +kernel)
  refine R_putFR hC3 hN dX8_init_9 fl_8_9 (fun p hp => by obtain rfl := Option.some.inj (hp.symm.trans cl_8.1); rfl) (by decide) rfl (by decide) rfl (by decide) (fi := 0) rfl ?_
  have rb7 := RB.put (a := 46) (j := 0) (v := 47) rb4 (by decide)
  have bt8 := BT.put (f := 0) (v := 47) bt6
  refine R_returnN hC3 dX8_init_12 rfl ga5 rb7 ⟨bt8.1, fun h j h0 h1 h2 => ?_⟩
  by_cases e : h = 46
  · subst e
    have j2 : 0 ≤ j ∧ j < 1 := h2.elim (fun z => absurd z (by decide)) (fun z => z)
    have j3 : j = 0 := by omega
    rcases j3 with rfl
    · exact uM_same.trans (by decide +kernel)
  · exact bt8.2 h j (by omega) h1 h2
set_option maxHeartbeats 2000000 in
theorem c3_init_45 {g : Nat → Nat} {q : Gq} {l : Launch} {M : Mem} (rb : RB LY 46 M) (hrow : ∀ j, M 45 j = dfl LY 3 j) : CtN g q LY 46 49 l 2 3 156 m3_init [vR 45, vR 24] M (fun M' => BTf M M' 45 49) := by
  refine R_startN (by decide +kernel) rfl (Nat.le_of_ble_eq_true rfl) (fun C hC hN hRm hlau => ?_)
  show RZ (g, q) LY C _ 0 0 46 0 [some (vR 45), some (vR 24)] [] M
  have ga0 : GA g g 46 := GA.rf
  have bt0 : BT M M 45 46 := BT.z
  refine R_aload_0 hC dX3_init_0 ?_
  refine R_initO hC dX3_init_1 (Ts_in (in_t2 _ (List.mem_of_getElem? (i := 60) rfl)) rfl) ob_im ob_co ⟨by rw [hRm]; decide, by rw [hRm]; decide⟩ rfl ?_
  refine R_aload_0 hC dX3_init_4 ?_
  refine R_aload_1 hC dX3_init_5 ?_
  refine R_putFR hC hN dX3_init_6 fl_3_9 (fun p hp => by obtain rfl := Option.some.inj (hp.symm.trans cl_3.1); rfl) (by decide) rfl (by decide) rfl (by decide) (fi := 0) rfl ?_
  have rb1 := RB.put (a := 45) (j := 0) (v := 24) rb (by decide)
  have bt2 := BT.put (f := 0) (v := 24) bt0
  refine R_aload_0 hC dX3_init_9 ?_
  refine R_newO (N := 1) hC dX3_init_10 cl_8 (Ts_in (in_t2 _ (List.mem_of_getElem? (i := 61) rfl)) rfl) (Ts_in (in_t1 _ (List.mem_of_getElem? (i := 45) rfl)) rfl) (Ts_in (in_t1 _ (List.mem_of_getElem? (i := 3) rfl)) rfl) rfl (by decide +kernel) (by decide) rb1 (lsOK_h (by decide)) (stOK_h (by decide)) (by rw [hRm]; exact Nat.le_of_ble_eq_true rfl) (by rw [hRm]; exact Nat.le_of_ble_eq_true rfl) (fun g3 ga4 => ?_)
  have hC5 := CxOK.ga ga4 hC
  have rb6 := RB.set (f := dfl LY 8) rb1 (fun j => (dfl_b j).2)
  have ga7 := GA.tr ga0 ga4 (by decide)
  refine R_dup hC5 dX3_init_13 rfl ?_
  refine R_callN (as := []) hC5 dX3_init_14 mi_8 (Ts_in (in_t2 _ (List.mem_of_getElem? (i := 62) rfl)) rfl) (c8_init_46 rb6 (fun j => setR_s)) rfl rfl ⟨by rw [hRm]; exact Nat.le_of_ble_eq_true rfl, by rw [hRm]; exact Nat.le_of_ble_eq_true rfl, (by rw [hRm]; exact Nat.le_of_ble_eq_true rfl), (by rw [hRm]; exact Nat.le_of_ble_eq_true rfl)⟩ (by decide) (lsOK_h (by decide)) (stOK_h (by decide)) (fun g8 M9 ga10 hq11 rb12 => ?_)
  have hC13 := CxOK.ga ga10 hC5
  have ga14 := GA.tr ga7 ga10 (by decide)
  have bt15 := BT.call bt2 (by decide) hq11
  refine R_putFR hC13 hN dX3_init_17 fl_3_18 (fun p hp => by obtain rfl := Option.some.inj (hp.symm.trans cl_3.1); rfl) (by decide) rfl (by decide) rfl (by decide) (fi := 1) rfl ?_
  have rb16 := RB.put (a := 45) (j := 1) (v := 46) rb12 (by decide)
  have bt17 := BT.put (f := 1) (v := 46) bt15
  refine R_aload_0 hC13 dX3_init_20 ?_
  refine R_bipush hC13 dX3_init_21 (by decide +kernel) ⟨by decide, by decide⟩ ?_
  refine R_newA (kd := 20) (N := 32) hC13 dX3_init_23 rfl ⟨by decide, by decide⟩ (Ts_in (in_t1 _ (List.mem_of_getElem? (i := 59) rfl)) rfl) rfl (by decide +kernel) (by decide +kernel) (by decide +kernel) (by decide) rb16 (lsOK_h (by decide)) (stOK_h (by decide)) (by rw [hRm]; exact Nat.le_of_ble_eq_true rfl) (by rw [hRm]; exact Nat.le_of_ble_eq_true rfl) (fun g18 ga19 => ?_)
  have hC20 := CxOK.ga ga19 hC13
  have rb21 := RB.set (f := fun _ => 0) rb16 (fun _ => by decide)
  have ga22 := GA.tr ga14 ga19 (by decide)
  have bt23 := BT.arr bt17 (by decide) (by decide +kernel)
  refine R_putFR hC20 hN dX3_init_25 fl_3_22 (fun p hp => by obtain rfl := Option.some.inj (hp.symm.trans cl_3.1); rfl) (by decide) rfl (by decide) rfl (by decide) (fi := 2) rfl ?_
  have rb24 := RB.put (a := 45) (j := 2) (v := 48) rb21 (by decide)
  have bt25 := BT.put (f := 2) (v := 48) bt23
  refine R_returnN hC20 dX3_init_28 rfl ga22 rb24 ⟨bt25.1, fun h j h0 h1 h2 => ?_⟩
  by_cases e : h = 45
  · subst e
    have j2 : 0 ≤ j ∧ j < 5 := h2.elim (fun z => absurd z (by decide)) (fun z => z)
    have j3 : j = 0 ∨ j = 1 ∨ j = 2 ∨ j = 3 ∨ j = 4 := by omega
    rcases j3 with rfl | rfl | rfl | rfl | rfl
    · exact ((uM_k (by decide)).trans ((setR_o (by decide)).trans ((uM_k (by decide)).trans ((hq11.1 45 0 (by decide)).trans ((setR_o (by decide)).trans uM_same))))).trans (by decide +kernel)
    · exact ((uM_k (by decide)).trans ((setR_o (by decide)).trans uM_same)).trans (by decide +kernel)
    · exact uM_same.trans (by decide +kernel)
    · exact ((uM_k (by decide)).trans ((setR_o (by decide)).trans ((uM_k (by decide)).trans ((hq11.1 45 3 (by decide)).trans ((setR_o (by decide)).trans ((uM_k (by decide)).trans ((hrow 3).trans (by decide : dfl LY 3 3 = 0)))))))).trans (by decide +kernel)
    · exact ((uM_k (by decide)).trans ((setR_o (by decide)).trans ((uM_k (by decide)).trans ((hq11.1 45 4 (by decide)).trans ((setR_o (by decide)).trans ((uM_k (by decide)).trans ((hrow 4).trans (by decide : dfl LY 3 4 = 0)))))))).trans (by decide +kernel)
  · exact bt25.2 h j (by omega) h1 h2
theorem dX2_init_25 : decode cX2_init 25 = .ok (.return_, 1) := by decide +kernel
theorem dX2_init_22 : decode cX2_init 22 = .ok (.putfield 19, 3) := by decide +kernel
theorem dX2_init_20 : decode cX2_init 20 = .ok (.newarray .long, 2) := by decide +kernel
theorem dX2_init_18 : decode cX2_init 18 = .ok (.bipush 16, 2) := by decide +kernel
theorem dX2_init_17 : decode cX2_init 17 = .ok (.aload_n 0, 1) := by decide +kernel
theorem dX2_init_14 : decode cX2_init 14 = .ok (.putfield 15, 3) := by decide +kernel
theorem dX2_init_12 : decode cX2_init 12 = .ok (.newarray .boolean, 2) := by decide +kernel
theorem dX2_init_10 : decode cX2_init 10 = .ok (.bipush 96, 2) := by decide +kernel
theorem dX2_init_9 : decode cX2_init 9 = .ok (.aload_n 0, 1) := by decide +kernel
theorem dX2_init_6 : decode cX2_init 6 = .ok (.putfield 9, 3) := by decide +kernel
theorem dX2_init_5 : decode cX2_init 5 = .ok (.aload_n 1, 1) := by decide +kernel
theorem dX2_init_4 : decode cX2_init 4 = .ok (.aload_n 0, 1) := by decide +kernel
theorem dX2_init_1 : decode cX2_init 1 = .ok (.invokespecial 3, 3) := by decide +kernel
theorem dX2_init_0 : decode cX2_init 0 = .ok (.aload_n 0, 1) := by decide +kernel
set_option maxHeartbeats 2000000 in
theorem c2_init_49 {g : Nat → Nat} {q : Gq} {l : Launch} {M : Mem} (rb : RB LY 50 M) (hrow : ∀ j, M 49 j = dfl LY 2 j) : CtN g q LY 50 52 l 1 2 112 m2_init [vR 49, vR 24] M (fun M' => BTf M M' 49 52) := by
  refine R_startN (by decide +kernel) rfl (Nat.le_of_ble_eq_true rfl) (fun C hC hN hRm hlau => ?_)
  show RZ (g, q) LY C _ 0 0 50 0 [some (vR 49), some (vR 24)] [] M
  have ga0 : GA g g 50 := GA.rf
  have bt0 : BT M M 49 50 := BT.z
  refine R_aload_0 hC dX2_init_0 ?_
  refine R_initO hC dX2_init_1 (Ts_in (in_t2 _ (List.mem_of_getElem? (i := 86) rfl)) rfl) ob_im ob_co ⟨by rw [hRm]; decide, by rw [hRm]; decide⟩ rfl ?_
  refine R_aload_0 hC dX2_init_4 ?_
  refine R_aload_1 hC dX2_init_5 ?_
  refine R_putFR hC hN dX2_init_6 fl_2_9 (fun p hp => by obtain rfl := Option.some.inj (hp.symm.trans cl_2.1); rfl) (by decide) rfl (by decide) rfl (by decide) (fi := 0) rfl ?_
  have rb1 := RB.put (a := 49) (j := 0) (v := 24) rb (by decide)
  have bt2 := BT.put (f := 0) (v := 24) bt0
  refine R_aload_0 hC dX2_init_9 ?_
  refine R_bipush hC dX2_init_10 (by decide +kernel) ⟨by decide, by decide⟩ ?_
  refine R_newA (kd := 23) (N := 96) hC dX2_init_12 rfl ⟨by decide, by decide⟩ (Ts_in (in_t2 _ (List.mem_of_getElem? (i := 105) rfl)) rfl) rfl (by decide +kernel) (by decide +kernel) (by decide +kernel) (by decide) rb1 (lsOK_h (by decide)) (stOK_h (by decide)) (by rw [hRm]; exact Nat.le_of_ble_eq_true rfl) (by rw [hRm]; exact Nat.le_of_ble_eq_true rfl) (fun g3 ga4 => ?_)
  have hC5 := CxOK.ga ga4 hC
  have rb6 := RB.set (f := fun _ => 0) rb1 (fun _ => by decide)
  have ga7 := GA.tr ga0 ga4 (by decide)
  have bt8 := BT.arr bt2 (by decide) (by decide +kernel)
  refine R_putFR hC5 hN dX2_init_14 fl_2_15 (fun p hp => by obtain rfl := Option.some.inj (hp.symm.trans cl_2.1); rfl) (by decide) rfl (by decide) rfl (by decide) (fi := 1) rfl ?_
  have rb9 := RB.put (a := 49) (j := 1) (v := 50) rb6 (by decide)
  have bt10 := BT.put (f := 1) (v := 50) bt8
  refine R_aload_0 hC5 dX2_init_17 ?_
  refine R_bipush hC5 dX2_init_18 (by decide +kernel) ⟨by decide, by decide⟩ ?_
  refine R_newA (kd := 21) (N := 16) hC5 dX2_init_20 rfl ⟨by decide, by decide⟩ (Ts_in (in_t1 _ (List.mem_of_getElem? (i := 83) rfl)) rfl) rfl (by decide +kernel) (by decide +kernel) (by decide +kernel) (by decide) rb9 (lsOK_h (by decide)) (stOK_h (by decide)) (by rw [hRm]; exact Nat.le_of_ble_eq_true rfl) (by rw [hRm]; exact Nat.le_of_ble_eq_true rfl) (fun g11 ga12 => ?_)
  have hC13 := CxOK.ga ga12 hC5
  have rb14 := RB.set (f := fun _ => 0) rb9 (fun _ => by decide)
  have ga15 := GA.tr ga7 ga12 (by decide)
  have bt16 := BT.arr bt10 (by decide) (by decide +kernel)
  refine R_putFR hC13 hN dX2_init_22 fl_2_19 (fun p hp => by obtain rfl := Option.some.inj (hp.symm.trans cl_2.1); rfl) (by decide) rfl (by decide) rfl (by decide) (fi := 2) rfl ?_
  have rb17 := RB.put (a := 49) (j := 2) (v := 51) rb14 (by decide)
  have bt18 := BT.put (f := 2) (v := 51) bt16
  refine R_returnN hC13 dX2_init_25 rfl ga15 rb17 ⟨bt18.1, fun h j h0 h1 h2 => ?_⟩
  by_cases e : h = 49
  · subst e
    have j2 : 0 ≤ j ∧ j < 7 := h2.elim (fun z => absurd z (by decide)) (fun z => z)
    have j3 : j = 0 ∨ j = 1 ∨ j = 2 ∨ j = 3 ∨ j = 4 ∨ j = 5 ∨ j = 6 := by omega
    rcases j3 with rfl | rfl | rfl | rfl | rfl | rfl | rfl
    · exact ((uM_k (by decide)).trans ((setR_o (by decide)).trans ((uM_k (by decide)).trans ((setR_o (by decide)).trans uM_same)))).trans (by decide +kernel)
    · exact ((uM_k (by decide)).trans ((setR_o (by decide)).trans uM_same)).trans (by decide +kernel)
    · exact uM_same.trans (by decide +kernel)
    · exact ((uM_k (by decide)).trans ((setR_o (by decide)).trans ((uM_k (by decide)).trans ((setR_o (by decide)).trans ((uM_k (by decide)).trans ((hrow 3).trans (by decide : dfl LY 2 3 = 0))))))).trans (by decide +kernel)
    · exact ((uM_k (by decide)).trans ((setR_o (by decide)).trans ((uM_k (by decide)).trans ((setR_o (by decide)).trans ((uM_k (by decide)).trans ((hrow 4).trans (by decide : dfl LY 2 4 = 0))))))).trans (by decide +kernel)
    · exact ((uM_k (by decide)).trans ((setR_o (by decide)).trans ((uM_k (by decide)).trans ((setR_o (by decide)).trans ((uM_k (by decide)).trans ((hrow 5).trans (by decide : dfl LY 2 5 = 0))))))).trans (by decide +kernel)
    · exact ((uM_k (by decide)).trans ((setR_o (by decide)).trans ((uM_k (by decide)).trans ((setR_o (by decide)).trans ((uM_k (by decide)).trans ((hrow 6).trans (by decide : dfl LY 2 6 = 0))))))).trans (by decide +kernel)
  · exact bt18.2 h j (by omega) h1 h2
set_option maxHeartbeats 2000000 in
theorem c5_init_53 {g : Nat → Nat} {q : Gq} {l : Launch} {M : Mem} (rb : RB LY 54 M) (hrow : ∀ j, M 53 j = dfl LY 5 j) : CtN g q LY 54 55 l 1 1 30 m5_init [vR 53, vR 24] M (fun M' => BTf M M' 53 55) := by
  refine R_startN (by decide +kernel) rfl (Nat.le_of_ble_eq_true rfl) (fun C hC hN hRm hlau => ?_)
  show RZ (g, q) LY C _ 0 0 54 0 [some (vR 53), some (vR 24)] [] M
  have ga0 : GA g g 54 := GA.rf
  have bt0 : BT M M 53 54 := BT.z
  refine R_aload_0 hC dX5_init_0 ?_
  refine R_initO hC dX5_init_1 (Ts_in (in_t1 _ (List.mem_of_getElem? (i := 218) rfl)) rfl) ob_im ob_co ⟨by rw [hRm]; decide, by rw [hRm]; decide⟩ rfl ?_
  refine R_aload_0 hC dX5_init_4 ?_
  refine R_aload_1 hC dX5_init_5 ?_
  refine R_putFR hC hN dX5_init_6 fl_5_9 (fun p hp => by obtain rfl := Option.some.inj (hp.symm.trans cl_5.1); rfl) (by decide) rfl (by decide) rfl (by decide) (fi := 0) rfl ?_
  have rb1 := RB.put (a := 53) (j := 0) (v := 24) rb (by decide)
  have bt2 := BT.put (f := 0) (v := 24) bt0
  refine R_aload_0 hC dX5_init_9 ?_
  refine R_bipush hC dX5_init_10 (by decide +kernel) ⟨by decide, by decide⟩ ?_
  refine R_newA (kd := 20) (N := 30) hC dX5_init_12 rfl ⟨by decide, by decide⟩ (Ts_in (in_t1 _ (List.mem_of_getElem? (i := 59) rfl)) rfl) rfl (by decide +kernel) (by decide +kernel) (by decide +kernel) (by decide) rb1 (lsOK_h (by decide)) (stOK_h (by decide)) (by rw [hRm]; exact Nat.le_of_ble_eq_true rfl) (by rw [hRm]; exact Nat.le_of_ble_eq_true rfl) (fun g3 ga4 => ?_)
  have hC5 := CxOK.ga ga4 hC
  have rb6 := RB.set (f := fun _ => 0) rb1 (fun _ => by decide)
  have ga7 := GA.tr ga0 ga4 (by decide)
  have bt8 := BT.arr bt2 (by decide) (by decide +kernel)
  refine R_putFR hC5 hN dX5_init_14 fl_5_15 (fun p hp => by obtain rfl := Option.some.inj (hp.symm.trans cl_5.1); rfl) (by decide) rfl (by decide) rfl (by decide) (fi := 1) rfl ?_
  have rb9 := RB.put (a := 53) (j := 1) (v := 54) rb6 (by decide)
  have bt10 := BT.put (f := 1) (v := 54) bt8
  refine R_returnN hC5 dX5_init_17 rfl ga7 rb9 ⟨bt10.1, fun h j h0 h1 h2 => ?_⟩
  by_cases e : h = 53
  · subst e
    have j2 : 0 ≤ j ∧ j < 4 := h2.elim (fun z => absurd z (by decide)) (fun z => z)
    have j3 : j = 0 ∨ j = 1 ∨ j = 2 ∨ j = 3 := by omega
    rcases j3 with rfl | rfl | rfl | rfl
    · exact ((uM_k (by decide)).trans ((setR_o (by decide)).trans uM_same)).trans (by decide +kernel)
    · exact uM_same.trans (by decide +kernel)
    · exact ((uM_k (by decide)).trans ((setR_o (by decide)).trans ((uM_k (by decide)).trans ((hrow 2).trans (by decide : dfl LY 5 2 = 0))))).trans (by decide +kernel)
    · exact ((uM_k (by decide)).trans ((setR_o (by decide)).trans ((uM_k (by decide)).trans ((hrow 3).trans (by decide : dfl LY 5 3 = 0))))).trans (by decide +kernel)
  · exact bt10.2 h j (by omega) h1 h2
theorem dX1_init_20 : decode cX1_init 20 = .ok (.return_, 1) := by decide +kernel
theorem dX1_init_17 : decode cX1_init 17 = .ok (.putfield 18, 3) := by decide +kernel
theorem dX1_init_14 : decode cX1_init 14 = .ok (.invokespecial 17, 3) := by decide +kernel
theorem dX1_init_13 : decode cX1_init 13 = .ok (.dup, 1) := by decide +kernel
theorem dX1_init_10 : decode cX1_init 10 = .ok (.new 15, 3) := by decide +kernel
theorem dX1_init_9 : decode cX1_init 9 = .ok (.aload_n 0, 1) := by decide +kernel
theorem dX1_init_6 : decode cX1_init 6 = .ok (.putfield 9, 3) := by decide +kernel
theorem dX1_init_5 : decode cX1_init 5 = .ok (.aload_n 1, 1) := by decide +kernel
theorem dX1_init_4 : decode cX1_init 4 = .ok (.aload_n 0, 1) := by decide +kernel
theorem dX1_init_1 : decode cX1_init 1 = .ok (.invokespecial 3, 3) := by decide +kernel
theorem dX1_init_0 : decode cX1_init 0 = .ok (.aload_n 0, 1) := by decide +kernel
set_option maxHeartbeats 2000000 in
theorem c8_init_55 {g : Nat → Nat} {q : Gq} {l : Launch} {M : Mem} (rb : RB LY 56 M) (hrow : ∀ j, M 55 j = dfl LY 8 j) : CtN g q LY 56 57 l 1 1 123 m8_init [vR 55] M (fun M' => BTf M M' 55 57) := by
  refine R_startN (by decide +kernel) rfl (Nat.le_of_ble_eq_true rfl) (fun C hC hN hRm hlau => ?_)
  show RZ (g, q) LY C _ 0 0 56 0 [some (vR 55)] [] M
  have ga0 : GA g g 56 := GA.rf
  have bt0 : BT M M 55 56 := BT.z
  refine R_aload_0 hC dX8_init_0 ?_
  refine R_initO hC dX8_init_1 (Ts_in (in_t1 _ (List.mem_of_getElem? (i := 49) rfl)) rfl) ob_im ob_co ⟨by rw [hRm]; decide, by rw [hRm]; decide⟩ rfl ?_
  refine R_aload_0 hC dX8_init_4 ?_
  refine R_bipush hC dX8_init_5 (by decide +kernel) ⟨by decide, by decide⟩ ?_
  refine R_newA (kd := 20) (N := 123) hC dX8_init_7 rfl ⟨by decide, by decide⟩ (Ts_in (in_t1 _ (List.mem_of_getElem? (i := 59) rfl)) rfl) rfl (by decide +kernel) (by decide +kernel) (by decide +kernel) (by decide) rb (lsOK_h (by decide)) (stOK_h (by decide)) (by rw [hRm]; exact Nat.le_of_ble_eq_true rfl) (by rw [hRm]; exact Nat.le_of_ble_eq_true rfl) (fun g1 ga2 => ?_)
  have hC3 := CxOK.ga ga2 hC
  have rb4 := RB.set (f := fun _ => 0) rb (fun _ => by decide)
  have ga5 := GA.tr ga0 ga2 (by decide)
  have bt6 := BT.arr bt0 (by decide) (by decide +kernel)
  refine R_putFR hC3 hN dX8_init_9 fl_8_9 (fun p hp => by obtain rfl := Option.some.inj (hp.symm.trans cl_8.1); rfl) (by decide) rfl (by decide) rfl (by decide) (fi := 0) rfl ?_
  have rb7 := RB.put (a := 55) (j := 0) (v := 56) rb4 (by decide)
  have bt8 := BT.put (f := 0) (v := 56) bt6
  refine R_returnN hC3 dX8_init_12 rfl ga5 rb7 ⟨bt8.1, fun h j h0 h1 h2 => ?_⟩
  by_cases e : h = 55
  · subst e
    have j2 : 0 ≤ j ∧ j < 1 := h2.elim (fun z => absurd z (by decide)) (fun z => z)
    have j3 : j = 0 := by omega
    rcases j3 with rfl
    · exact uM_same.trans (by decide +kernel)
  · exact bt8.2 h j (by omega) h1 h2
set_option maxHeartbeats 2000000 in
theorem c1_init_52 {g : Nat → Nat} {q : Gq} {l : Launch} {M : Mem} (rb : RB LY 55 M) (hrow : ∀ j, M 52 j = dfl LY 1 j) (bt : BT M M 52 55) : CtN g q LY 55 57 l 2 2 124 m1_init [vR 52, vR 53] M (fun M' => BTf M M' 52 57) := by
  refine R_startN (by decide +kernel) rfl (Nat.le_of_ble_eq_true rfl) (fun C hC hN hRm hlau => ?_)
  show RZ (g, q) LY C _ 0 0 55 0 [some (vR 52), some (vR 53)] [] M
  have ga0 : GA g g 55 := GA.rf
  have bt0 : BT M M 52 55 := bt
  refine R_aload_0 hC dX1_init_0 ?_
  refine R_initO hC dX1_init_1 (Ts_in (in_t2 _ (List.mem_of_getElem? (i := 111) rfl)) rfl) ob_im ob_co ⟨by rw [hRm]; decide, by rw [hRm]; decide⟩ rfl ?_
  refine R_aload_0 hC dX1_init_4 ?_
  refine R_aload_1 hC dX1_init_5 ?_
  refine R_putFR hC hN dX1_init_6 fl_1_9 (fun p hp => by obtain rfl := Option.some.inj (hp.symm.trans cl_1.1); rfl) (by decide) rfl (by decide) rfl (by decide) (fi := 0) rfl ?_
  have rb1 := RB.put (a := 52) (j := 0) (v := 53) rb (by decide)
  have bt2 := BT.put (f := 0) (v := 53) bt0
  refine R_aload_0 hC dX1_init_9 ?_
  refine R_newO (N := 1) hC dX1_init_10 cl_8 (Ts_in (in_t2 _ (List.mem_of_getElem? (i := 112) rfl)) rfl) (Ts_in (in_t1 _ (List.mem_of_getElem? (i := 45) rfl)) rfl) (Ts_in (in_t1 _ (List.mem_of_getElem? (i := 3) rfl)) rfl) rfl (by decide +kernel) (by decide) rb1 (lsOK_h (by decide)) (stOK_h (by decide)) (by rw [hRm]; exact Nat.le_of_ble_eq_true rfl) (by rw [hRm]; exact Nat.le_of_ble_eq_true rfl) (fun g3 ga4 => ?_)
  have hC5 := CxOK.ga ga4 hC
  have rb6 := RB.set (f := dfl LY 8) rb1 (fun j => (dfl_b j).2)
  have ga7 := GA.tr ga0 ga4 (by decide)
  refine R_dup hC5 dX1_init_13 rfl ?_
  refine R_callN (as := []) hC5 dX1_init_14 mi_8 (Ts_in (in_t2 _ (List.mem_of_getElem? (i := 113) rfl)) rfl) (c8_init_55 rb6 (fun j => setR_s)) rfl rfl ⟨by rw [hRm]; exact Nat.le_of_ble_eq_true rfl, by rw [hRm]; exact Nat.le_of_ble_eq_true rfl, (by rw [hRm]; exact Nat.le_of_ble_eq_true rfl), (by rw [hRm]; exact Nat.le_of_ble_eq_true rfl)⟩ (by decide) (lsOK_h (by decide)) (stOK_h (by decide)) (fun g8 M9 ga10 hq11 rb12 => ?_)
  have hC13 := CxOK.ga ga10 hC5
  have ga14 := GA.tr ga7 ga10 (by decide)
  have bt15 := BT.call bt2 (by decide) hq11
  refine R_putFR hC13 hN dX1_init_17 fl_1_18 (fun p hp => by obtain rfl := Option.some.inj (hp.symm.trans cl_1.1); rfl) (by decide) rfl (by decide) rfl (by decide) (fi := 2) rfl ?_
  have rb16 := RB.put (a := 52) (j := 2) (v := 55) rb12 (by decide)
  have bt17 := BT.put (f := 2) (v := 55) bt15
  refine R_returnN hC13 dX1_init_20 rfl ga14 rb16 ⟨bt17.1, fun h j h0 h1 h2 => ?_⟩
  by_cases e : h = 52
  · subst e
    have j2 : 0 ≤ j ∧ j < 4 := h2.elim (fun z => absurd z (by decide)) (fun z => z)
    have j3 : j = 0 ∨ j = 1 ∨ j = 2 ∨ j = 3 := by omega
    rcases j3 with rfl | rfl | rfl | rfl
    · exact ((uM_k (by decide)).trans ((hq11.1 52 0 (by decide)).trans ((setR_o (by decide)).trans uM_same))).trans (by decide +kernel)
    · exact ((uM_k (by decide)).trans ((hq11.1 52 1 (by decide)).trans ((setR_o (by decide)).trans ((uM_k (by decide)).trans ((hrow 1).trans (by decide : dfl LY 1 1 = 0)))))).trans (by decide +kernel)
    · exact uM_same.trans (by decide +kernel)
    · exact ((uM_k (by decide)).trans ((hq11.1 52 3 (by decide)).trans ((setR_o (by decide)).trans ((uM_k (by decide)).trans ((hrow 3).trans (by decide : dfl LY 1 3 = 0)))))).trans (by decide +kernel)
  · exact bt17.2 h j (by omega) h1 h2
set_option maxHeartbeats 2000000 in
theorem c11_init_0 {g : Nat → Nat} {q : Gq} {l : Launch} {M : Mem} (rb : RB LY 1 M) (hrow : ∀ j, M 0 j = dfl LY 11 j) : CtN g q LY 1 57 l 3 56 2704 m11_init [vR 0] M (fun M' => BTf M M' 0 57) := by
  refine R_startN (by decide +kernel) rfl (Nat.le_of_ble_eq_true rfl) (fun C hC hN hRm hlau => ?_)
  show RZ (g, q) LY C _ 0 0 1 0 [some (vR 0)] [] M
  have ga0 : GA g g 1 := GA.rf
  have bt0 : BT M M 0 1 := BT.z
  refine R_aload_0 hC dX11_init_0 ?_
  refine R_initO hC dX11_init_1 (Ts_in (in_t1 _ (List.mem_of_getElem? (i := 35) rfl)) rfl) ob_im ob_co ⟨by rw [hRm]; decide, by rw [hRm]; decide⟩ rfl ?_
  refine R_aload_0 hC dX11_init_4 ?_
  refine R_sipush hC dX11_init_5 (by decide +kernel) ⟨by decide, by decide⟩ ?_
  refine R_newA (kd := 22) (N := 700) hC dX11_init_8 rfl ⟨by decide, by decide⟩ (Ts_in (in_t1 _ (List.mem_of_getElem? (i := 58) rfl)) rfl) rfl (by decide +kernel) (by decide +kernel) (by decide +kernel) (by decide) rb (lsOK_h (by decide)) (stOK_h (by decide)) (by rw [hRm]; exact Nat.le_of_ble_eq_true rfl) (by rw [hRm]; exact Nat.le_of_ble_eq_true rfl) (fun g1 ga2 => ?_)
  have hC3 := CxOK.ga ga2 hC
  have rb4 := RB.set (f := fun _ => 0) rb (fun _ => by decide)
  have ga5 := GA.tr ga0 ga2 (by decide)
  have bt6 := BT.arr bt0 (by decide) (by decide +kernel)
  refine R_putFR hC3 hN dX11_init_10 fl_11_9 (fun p hp => by obtain rfl := Option.some.inj (hp.symm.trans cl_11.1); rfl) (by decide) rfl (by decide) rfl (by decide) (fi := 0) rfl ?_
  have rb7 := RB.put (a := 0) (j := 0) (v := 1) rb4 (by decide)
  have bt8 := BT.put (f := 0) (v := 1) bt6
  refine R_aload_0 hC3 dX11_init_13 ?_
  refine R_iconst hC3 dX11_init_14 ⟨by decide, by decide⟩ ?_
  refine R_putI hC3 dX11_init_15 fl_11_13 (by decide) rfl (by decide) rfl (fi := 1) rfl ?_
  have rb9 := RB.put (a := 0) (j := 1) (v := 0) rb7 (by decide)
  have bt10 := BT.put (f := 1) (v := 0) bt8
  refine R_aload_0 hC3 dX11_init_18 ?_
  refine R_iconst hC3 dX11_init_19 ⟨by decide, by decide⟩ ?_
  refine R_putI hC3 dX11_init_20 fl_11_17 (by decide) rfl (by decide) rfl (fi := 2) rfl ?_
  have rb11 := RB.put (a := 0) (j := 2) (v := (-1)) rb9 (by decide)
  have bt12 := BT.put (f := 2) (v := (-1)) bt10
  refine R_aload_0 hC3 dX11_init_23 ?_
  refine R_newO (N := 5) hC3 dX11_init_24 cl_7 (Ts_in (in_t1 _ (List.mem_of_getElem? (i := 38) rfl)) rfl) (Ts_in (in_t1 _ (List.mem_of_getElem? (i := 39) rfl)) rfl) (Ts_in (in_t1 _ (List.mem_of_getElem? (i := 2) rfl)) rfl) rfl (by decide +kernel) (by decide) rb11 (lsOK_h (by decide)) (stOK_h (by decide)) (by rw [hRm]; exact Nat.le_of_ble_eq_true rfl) (by rw [hRm]; exact Nat.le_of_ble_eq_true rfl) (fun g13 ga14 => ?_)
  have hC15 := CxOK.ga ga14 hC3
  have rb16 := RB.set (f := dfl LY 7) rb11 (fun j => (dfl_b j).2)
  have ga17 := GA.tr ga5 ga14 (by decide)
  refine R_dup hC15 dX11_init_27 rfl ?_
  refine R_callN (as := []) hC15 dX11_init_28 mi_7 (Ts_in (in_t1 _ (List.mem_of_getElem? (i := 40) rfl)) rfl) (c7_init_2 rb16 (fun j => setR_s)) rfl rfl ⟨by rw [hRm]; exact Nat.le_of_ble_eq_true rfl, by rw [hRm]; exact Nat.le_of_ble_eq_true rfl, (by rw [hRm]; exact Nat.le_of_ble_eq_true rfl), (by rw [hRm]; exact Nat.le_of_ble_eq_true rfl)⟩ (by decide) (lsOK_h (by decide)) (stOK_h (by decide)) (fun g18 M19 ga20 hq21 rb22 => ?_)
  have hC23 := CxOK.ga ga20 hC15
  have ga24 := GA.tr ga17 ga20 (by decide)
  have bt25 := BT.call bt12 (by decide) hq21
  refine R_putFR hC23 hN dX11_init_31 fl_11_23 (fun p hp => by obtain rfl := Option.some.inj (hp.symm.trans cl_11.1); rfl) (by decide) rfl (by decide) rfl (by decide) (fi := 3) rfl ?_
  have rb26 := RB.put (a := 0) (j := 3) (v := 2) rb22 (by decide)
  have bt27 := BT.put (f := 3) (v := 2) bt25
  refine R_aload_0 hC23 dX11_init_34 ?_
  refine R_newO (N := 5) hC23 dX11_init_35 cl_7 (Ts_in (in_t1 _ (List.mem_of_getElem? (i := 38) rfl)) rfl) (Ts_in (in_t1 _ (List.mem_of_getElem? (i := 39) rfl)) rfl) (Ts_in (in_t1 _ (List.mem_of_getElem? (i := 2) rfl)) rfl) rfl (by decide +kernel) (by decide) rb26 (lsOK_h (by decide)) (stOK_h (by decide)) (by rw [hRm]; exact Nat.le_of_ble_eq_true rfl) (by rw [hRm]; exact Nat.le_of_ble_eq_true rfl) (fun g28 ga29 => ?_)
  have hC30 := CxOK.ga ga29 hC23
  have rb31 := RB.set (f := dfl LY 7) rb26 (fun j => (dfl_b j).2)
  have ga32 := GA.tr ga24 ga29 (by decide)
  refine R_dup hC30 dX11_init_38 rfl ?_
  refine R_callN (as := []) hC30 dX11_init_39 mi_7 (Ts_in (in_t1 _ (List.mem_of_getElem? (i := 40) rfl)) rfl) (c7_init_11 rb31 (fun j => setR_s)) rfl rfl ⟨by rw [hRm]; exact Nat.le_of_ble_eq_true rfl, by rw [hRm]; exact Nat.le_of_ble_eq_true rfl, (by rw [hRm]; exact Nat.le_of_ble_eq_true rfl), (by rw [hRm]; exact Nat.le_of_ble_eq_true rfl)⟩ (by decide) (lsOK_h (by decide)) (stOK_h (by decide)) (fun g33 M34 ga35 hq36 rb37 => ?_)
  have hC38 := CxOK.ga ga35 hC30
  have ga39 := GA.tr ga32 ga35 (by decide)
  have bt40 := BT.call bt27 (by decide) hq36
  refine R_putFR hC38 hN dX11_init_42 fl_11_27 (fun p hp => by obtain rfl := Option.some.inj (hp.symm.trans cl_11.1); rfl) (by decide) rfl (by decide) rfl (by decide) (fi := 4) rfl ?_
  have rb41 := RB.put (a := 0) (j := 4) (v := 11) rb37 (by decide)
  have bt42 := BT.put (f := 4) (v := 11) bt40
  refine R_aload_0 hC38 dX11_init_45 ?_
  refine R_iconst hC38 dX11_init_46 ⟨by decide, by decide⟩ ?_
  refine R_putZ hC38 dX11_init_47 fl_11_30 (by decide) rfl (by decide) rfl (.inl rfl) (fi := 5) rfl ?_
  have rb43 := RB.put (a := 0) (j := 5) (v := 0) rb41 (by decide)
  have bt44 := BT.put (f := 5) (v := 0) bt42
  refine R_aload_0 hC38 dX11_init_50 ?_
  refine R_newO (N := 1) hC38 dX11_init_51 cl_8 (Ts_in (in_t1 _ (List.mem_of_getElem? (i := 104) rfl)) rfl) (Ts_in (in_t1 _ (List.mem_of_getElem? (i := 45) rfl)) rfl) (Ts_in (in_t1 _ (List.mem_of_getElem? (i := 3) rfl)) rfl) rfl (by decide +kernel) (by decide) rb43 (lsOK_h (by decide)) (stOK_h (by decide)) (by rw [hRm]; exact Nat.le_of_ble_eq_true rfl) (by rw [hRm]; exact Nat.le_of_ble_eq_true rfl) (fun g45 ga46 => ?_)
  have hC47 := CxOK.ga ga46 hC38
  have rb48 := RB.set (f := dfl LY 8) rb43 (fun j => (dfl_b j).2)
  have ga49 := GA.tr ga39 ga46 (by decide)
  refine R_dup hC47 dX11_init_54 rfl ?_
  refine R_callN (as := []) hC47 dX11_init_55 mi_8 (Ts_in (in_t1 _ (List.mem_of_getElem? (i := 105) rfl)) rfl) (c8_init_20 rb48 (fun j => setR_s)) rfl rfl ⟨by rw [hRm]; exact Nat.le_of_ble_eq_true rfl, by rw [hRm]; exact Nat.le_of_ble_eq_true rfl, (by rw [hRm]; exact Nat.le_of_ble_eq_true rfl), (by rw [hRm]; exact Nat.le_of_ble_eq_true rfl)⟩ (by decide) (lsOK_h (by decide)) (stOK_h (by decide)) (fun g50 M51 ga52 hq53 rb54 => ?_)
  have hC55 := CxOK.ga ga52 hC47
  have ga56 := GA.tr ga49 ga52 (by decide)
  have bt57 := BT.call bt44 (by decide) hq53
  refine R_putFR hC55 hN dX11_init_58 fl_11_37 (fun p hp => by obtain rfl := Option.some.inj (hp.symm.trans cl_11.1); rfl) (by decide) rfl (by decide) rfl (by decide) (fi := 6) rfl ?_
  have rb58 := RB.put (a := 0) (j := 6) (v := 20) rb54 (by decide)
  have bt59 := BT.put (f := 6) (v := 20) bt57
  refine R_aload_0 hC55 dX11_init_61 ?_
  refine R_newO (N := 9) hC55 dX11_init_62 cl_9 (Ts_in (in_t1 _ (List.mem_of_getElem? (i := 106) rfl)) rfl) (Ts_in (in_t1 _ (List.mem_of_getElem? (i := 107) rfl)) rfl) (Ts_in (in_t1 _ (List.mem_of_getElem? (i := 5) rfl)) rfl) rfl (by decide +kernel) (by decide) rb58 (lsOK_h (by decide)) (stOK_h (by decide)) (by rw [hRm]; exact Nat.le_of_ble_eq_true rfl) (by rw [hRm]; exact Nat.le_of_ble_eq_true rfl) (fun g60 ga61 => ?_)
  have hC62 := CxOK.ga ga61 hC55
  have rb63 := RB.set (f := dfl LY 9) rb58 (fun j => (dfl_b j).2)
  have ga64 := GA.tr ga56 ga61 (by decide)
  refine R_dup hC62 dX11_init_65 rfl ?_
  refine R_callN (as := []) hC62 dX11_init_66 mi_9 (Ts_in (in_t1 _ (List.mem_of_getElem? (i := 108) rfl)) rfl) (c9_init_22 rb63 (fun j => setR_s)) rfl rfl ⟨by rw [hRm]; exact Nat.le_of_ble_eq_true rfl, by rw [hRm]; exact Nat.le_of_ble_eq_true rfl, (by rw [hRm]; exact Nat.le_of_ble_eq_true rfl), (by rw [hRm]; exact Nat.le_of_ble_eq_true rfl)⟩ (by decide) (lsOK_h (by decide)) (stOK_h (by decide)) (fun g65 M66 ga67 hq68 rb69 => ?_)
  have hC70 := CxOK.ga ga67 hC62
  have ga71 := GA.tr ga64 ga67 (by decide)
  have bt72 := BT.call bt59 (by decide) hq68
  refine R_putFR hC70 hN dX11_init_69 fl_11_44 (fun p hp => by obtain rfl := Option.some.inj (hp.symm.trans cl_11.1); rfl) (by decide) rfl (by decide) rfl (by decide) (fi := 7) rfl ?_
  have rb73 := RB.put (a := 0) (j := 7) (v := 22) rb69 (by decide)
  have bt74 := BT.put (f := 7) (v := 22) bt72
  refine R_aload_0 hC70 dX11_init_72 ?_
  refine R_newO (N := 14) hC70 dX11_init_73 cl_6 (Ts_in (in_t1 _ (List.mem_of_getElem? (i := 141) rfl)) rfl) (Ts_in (in_t1 _ (List.mem_of_getElem? (i := 142) rfl)) rfl) (Ts_in (in_t1 _ (List.mem_of_getElem? (i := 6) rfl)) rfl) rfl (by decide +kernel) (by decide) rb73 (lsOK_h (by decide)) (stOK_h (by decide)) (by rw [hRm]; exact Nat.le_of_ble_eq_true rfl) (by rw [hRm]; exact Nat.le_of_ble_eq_true rfl) (fun g75 ga76 => ?_)
  have hC77 := CxOK.ga ga76 hC70
  have rb78 := RB.set (f := dfl LY 6) rb73 (fun j => (dfl_b j).2)
  have ga79 := GA.tr ga71 ga76 (by decide)
  refine R_dup hC77 dX11_init_76 rfl ?_
  refine R_callN (as := []) hC77 dX11_init_77 mi_6 (Ts_in (in_t1 _ (List.mem_of_getElem? (i := 143) rfl)) rfl) (c6_init_24 rb78 (fun j => setR_s)) rfl rfl ⟨by rw [hRm]; exact Nat.le_of_ble_eq_true rfl, by rw [hRm]; exact Nat.le_of_ble_eq_true rfl, (by rw [hRm]; exact Nat.le_of_ble_eq_true rfl), (by rw [hRm]; exact Nat.le_of_ble_eq_true rfl)⟩ (by decide) (lsOK_h (by decide)) (stOK_h (by decide)) (fun g80 M81 ga82 hq83 rb84 => ?_)
  have hC85 := CxOK.ga ga82 hC77
  have ga86 := GA.tr ga79 ga82 (by decide)
  have bt87 := BT.call bt74 (by decide) hq83
  refine R_putFR hC85 hN dX11_init_80 fl_11_51 (fun p hp => by obtain rfl := Option.some.inj (hp.symm.trans cl_11.1); rfl) (by decide) rfl (by decide) rfl (by decide) (fi := 8) rfl ?_
  have rb88 := RB.put (a := 0) (j := 8) (v := 24) rb84 (by decide)
  have bt89 := BT.put (f := 8) (v := 24) bt87
  refine R_aload_0 hC85 dX11_init_83 ?_
  refine R_newO (N := 4) hC85 dX11_init_84 cl_5 (Ts_in (in_t1 _ (List.mem_of_getElem? (i := 213) rfl)) rfl) (Ts_in (in_t1 _ (List.mem_of_getElem? (i := 214) rfl)) rfl) (Ts_in (in_t1 _ (List.mem_of_getElem? (i := 7) rfl)) rfl) rfl (by decide +kernel) (by decide) rb88 (lsOK_h (by decide)) (stOK_h (by decide)) (by rw [hRm]; exact Nat.le_of_ble_eq_true rfl) (by rw [hRm]; exact Nat.le_of_ble_eq_true rfl) (fun g90 ga91 => ?_)
  have hC92 := CxOK.ga ga91 hC85
  have rb93 := RB.set (f := dfl LY 5) rb88 (fun j => (dfl_b j).2)
  have ga94 := GA.tr ga86 ga91 (by decide)
  refine R_dup hC92 dX11_init_87 rfl ?_
  refine R_aload_0 hC92 dX11_init_88 ?_
  refine R_getR hC92 dX11_init_89 fl_11_51 (by decide) rfl (by decide) (by decide) (fi := 8) rfl (r := 24) (((setR_o (by decide)).trans uM_same)) ?_
  refine R_callN (as := [vR _]) hC92 dX11_init_92 mi_5 (Ts_in (in_t1 _ (List.mem_of_getElem? (i := 215) rfl)) rfl) (c5_init_36 rb93 (fun j => setR_s)) rfl rfl ⟨by rw [hRm]; exact Nat.le_of_ble_eq_true rfl, by rw [hRm]; exact Nat.le_of_ble_eq_true rfl, (by rw [hRm]; exact Nat.le_of_ble_eq_true rfl), (by rw [hRm]; exact Nat.le_of_ble_eq_true rfl)⟩ (by decide) (lsOK_h (by decide)) (stOK_h (by decide)) (fun g95 M96 ga97 hq98 rb99 => ?_)
  have hC100 := CxOK.ga ga97 hC92
  have ga101 := GA.tr ga94 ga97 (by decide)
  have bt102 := BT.call bt89 (by decide) hq98
  refine R_putFR hC100 hN dX11_init_95 fl_11_60 (fun p hp => by obtain rfl := Option.some.inj (hp.symm.trans cl_11.1); rfl) (by decide) rfl (by decide) rfl (by decide) (fi := 9) rfl ?_
  have rb103 := RB.put (a := 0) (j := 9) (v := 36) rb99 (by decide)
  have bt104 := BT.put (f := 9) (v := 36) bt102
  refine R_aload_0 hC100 dX11_init_98 ?_
  refine R_iconst hC100 dX11_init_99 ⟨by decide, by decide⟩ ?_
  refine R_putZ hC100 dX11_init_100 fl_11_64 (by decide) rfl (by decide) rfl (.inl rfl) (fi := 10) rfl ?_
  have rb105 := RB.put (a := 0) (j := 10) (v := 0) rb103 (by decide)
  have bt106 := BT.put (f := 10) (v := 0) bt104
  refine R_aload_0 hC100 dX11_init_103 ?_
  refine R_newO (N := 4) hC100 dX11_init_104 cl_4 (Ts_in (in_t1 _ (List.mem_of_getElem? (i := 235) rfl)) rfl) (Ts_in (in_t1 _ (List.mem_of_getElem? (i := 236) rfl)) rfl) (Ts_in (in_t1 _ (List.mem_of_getElem? (i := 8) rfl)) rfl) rfl (by decide +kernel) (by decide) rb105 (lsOK_h (by decide)) (stOK_h (by decide)) (by rw [hRm]; exact Nat.le_of_ble_eq_true rfl) (by rw [hRm]; exact Nat.le_of_ble_eq_true rfl) (fun g107 ga108 => ?_)
  have hC109 := CxOK.ga ga108 hC100
  have rb110 := RB.set (f := dfl LY 4) rb105 (fun j => (dfl_b j).2)
  have ga111 := GA.tr ga101 ga108 (by decide)
  refine R_dup hC109 dX11_init_107 rfl ?_
  refine R_aload_0 hC109 dX11_init_108 ?_
  refine R_getR hC109 dX11_init_109 fl_11_51 (by decide) rfl (by decide) (by decide) (fi := 8) rfl (r := 24) (((setR_o (by decide)).trans ((uM_k (by decide)).trans ((uM_k (by decide)).trans ((hq98.1 0 8 (by decide)).trans ((setR_o (by decide)).trans uM_same)))))) ?_
  refine R_callN (as := [vR _]) hC109 dX11_init_112 mi_4 (Ts_in (in_t1 _ (List.mem_of_getElem? (i := 237) rfl)) rfl) (c4_init_38 rb110 (fun j => setR_s)) rfl rfl ⟨by rw [hRm]; exact Nat.le_of_ble_eq_true rfl, by rw [hRm]; exact Nat.le_of_ble_eq_true rfl, (by rw [hRm]; exact Nat.le_of_ble_eq_true rfl), (by rw [hRm]; exact Nat.le_of_ble_eq_true rfl)⟩ (by decide) (lsOK_h (by decide)) (stOK_h (by decide)) (fun g112 M113 ga114 hq115 rb116 => ?_)
  have hC117 := CxOK.ga ga114 hC109
  have ga118 := GA.tr ga111 ga114 (by decide)
  have bt119 := BT.call bt106 (by decide) hq115
  refine R_putFR hC117 hN dX11_init_115 fl_11_70 (fun p hp => by obtain rfl := Option.some.inj (hp.symm.trans cl_11.1); rfl) (by decide) rfl (by decide) rfl (by decide) (fi := 11) rfl ?_
  have rb120 := RB.put (a := 0) (j := 11) (v := 38) rb116 (by decide)
  have bt121 := BT.put (f := 11) (v := 38) bt119
  refine R_aload_0 hC117 dX11_init_118 ?_
  refine R_newO (N := 9) hC117 dX11_init_119 cl_10 (Ts_in (in_t2 _ (List.mem_of_getElem? (i := 18) rfl)) rfl) (Ts_in (in_t2 _ (List.mem_of_getElem? (i := 19) rfl)) rfl) (Ts_in (in_t1 _ (List.mem_of_getElem? (i := 9) rfl)) rfl) rfl (by decide +kernel) (by decide) rb120 (lsOK_h (by decide)) (stOK_h (by decide)) (by rw [hRm]; exact Nat.le_of_ble_eq_true rfl) (by rw [hRm]; exact Nat.le_of_ble_eq_true rfl) (fun g122 ga123 => ?_)
  have hC124 := CxOK.ga ga123 hC117
  have rb125 := RB.set (f := dfl LY 10) rb120 (fun j => (dfl_b j).2)
  have ga126 := GA.tr ga118 ga123 (by decide)
  refine R_dup hC124 dX11_init_122 rfl ?_
  refine R_aload_0 hC124 dX11_init_123 ?_
  refine R_getR hC124 dX11_init_124 fl_11_51 (by decide) rfl (by decide) (by decide) (fi := 8) rfl (r := 24) (((setR_o (by decide)).trans ((uM_k (by decide)).trans ((hq115.1 0 8 (by decide)).trans ((setR_o (by decide)).trans ((uM_k (by decide)).trans ((uM_k (by decide)).trans ((hq98.1 0 8 (by decide)).trans ((setR_o (by decide)).trans uM_same))))))))) ?_
  refine R_callN (as := [vR _]) hC124 dX11_init_127 mi_10 (Ts_in (in_t2 _ (List.mem_of_getElem? (i := 20) rfl)) rfl) (c10_init_41 rb125 (fun j => setR_s)) rfl rfl ⟨by rw [hRm]; exact Nat.le_of_ble_eq_true rfl, by rw [hRm]; exact Nat.le_of_ble_eq_true rfl, (by rw [hRm]; exact Nat.le_of_ble_eq_true rfl), (by rw [hRm]; exact Nat.le_of_ble_eq_true rfl)⟩ (by decide) (lsOK_h (by decide)) (stOK_h (by decide)) (fun g127 M128 ga129 hq130 rb131 => ?_)
  have hC132 := CxOK.ga ga129 hC124
  have ga133 := GA.tr ga126 ga129 (by decide)
  have bt134 := BT.call bt121 (by decide) hq130
  refine R_putFR hC132 hN dX11_init_130 fl_11_77 (fun p hp => by obtain rfl := Option.some.inj (hp.symm.trans cl_11.1); rfl) (by decide) rfl (by decide) rfl (by decide) (fi := 12) rfl ?_
  have rb135 := RB.put (a := 0) (j := 12) (v := 41) rb131 (by decide)
  have bt136 := BT.put (f := 12) (v := 41) bt134
  refine R_aload_0 hC132 dX11_init_133 ?_
  refine R_newO (N := 5) hC132 dX11_init_134 cl_3 (Ts_in (in_t2 _ (List.mem_of_getElem? (i := 55) rfl)) rfl) (Ts_in (in_t2 _ (List.mem_of_getElem? (i := 56) rfl)) rfl) (Ts_in (in_t1 _ (List.mem_of_getElem? (i := 10) rfl)) rfl) rfl (by decide +kernel) (by decide) rb135 (lsOK_h (by decide)) (stOK_h (by decide)) (by rw [hRm]; exact Nat.le_of_ble_eq_true rfl) (by rw [hRm]; exact Nat.le_of_ble_eq_true rfl) (fun g137 ga138 => ?_)
  have hC139 := CxOK.ga ga138 hC132
  have rb140 := RB.set (f := dfl LY 3) rb135 (fun j => (dfl_b j).2)
  have ga141 := GA.tr ga133 ga138 (by decide)
  refine R_dup hC139 dX11_init_137 rfl ?_
  refine R_aload_0 hC139 dX11_init_138 ?_
  refine R_getR hC139 dX11_init_139 fl_11_51 (by decide) rfl (by decide) (by decide) (fi := 8) rfl (r := 24) (((setR_o (by decide)).trans ((uM_k (by decide)).trans ((hq130.1 0 8 (by decide)).trans ((setR_o (by decide)).trans ((uM_k (by decide)).trans ((hq115.1 0 8 (by decide)).trans ((setR_o (by decide)).trans ((uM_k (by decide)).trans ((uM_k (by decide)).trans ((hq98.1 0 8 (by decide)).trans ((setR_o (by decide)).trans uM_same)))))))))))) ?_
  refine R_callN (as := [vR _]) hC139 dX11_init_142 mi_3 (Ts_in (in_t2 _ (List.mem_of_getElem? (i := 57) rfl)) rfl) (c3_init_45 rb140 (fun j => setR_s)) rfl rfl ⟨by rw [hRm]; exact Nat.le_of_ble_eq_true rfl, by rw [hRm]; exact Nat.le_of_ble_eq_true rfl, (by rw [hRm]; exact Nat.le_of_ble_eq_true rfl), (by rw [hRm]; exact Nat.le_of_ble_eq_true rfl)⟩ (by decide) (lsOK_h (by decide)) (stOK_h (by decide)) (fun g142 M143 ga144 hq145 rb146 => ?_)
  have hC147 := CxOK.ga ga144 hC139
  have ga148 := GA.tr ga141 ga144 (by decide)
  have bt149 := BT.call bt136 (by decide) hq145
  refine R_putFR hC147 hN dX11_init_145 fl_11_84 (fun p hp => by obtain rfl := Option.some.inj (hp.symm.trans cl_11.1); rfl) (by decide) rfl (by decide) rfl (by decide) (fi := 13) rfl ?_
  have rb150 := RB.put (a := 0) (j := 13) (v := 45) rb146 (by decide)
  have bt151 := BT.put (f := 13) (v := 45) bt149
  refine R_aload_0 hC147 dX11_init_148 ?_
  refine R_newO (N := 7) hC147 dX11_init_149 cl_2 (Ts_in (in_t2 _ (List.mem_of_getElem? (i := 81) rfl)) rfl) (Ts_in (in_t2 _ (List.mem_of_getElem? (i := 82) rfl)) rfl) (Ts_in (in_t1 _ (List.mem_of_getElem? (i := 11) rfl)) rfl) rfl (by decide +kernel) (by decide) rb150 (lsOK_h (by decide)) (stOK_h (by decide)) (by rw [hRm]; exact Nat.le_of_ble_eq_true rfl) (by rw [hRm]; exact Nat.le_of_ble_eq_true rfl) (fun g152 ga153 => ?_)
  have hC154 := CxOK.ga ga153 hC147
  have rb155 := RB.set (f := dfl LY 2) rb150 (fun j => (dfl_b j).2)
  have ga156 := GA.tr ga148 ga153 (by decide)
  refine R_dup hC154 dX11_init_152 rfl ?_
  refine R_aload_0 hC154 dX11_init_153 ?_
  refine R_getR hC154 dX11_init_154 fl_11_51 (by decide) rfl (by decide) (by decide) (fi := 8) rfl (r := 24) (((setR_o (by decide)).trans ((uM_k (by decide)).trans ((hq145.1 0 8 (by decide)).trans ((setR_o (by decide)).trans ((uM_k (by decide)).trans ((hq130.1 0 8 (by decide)).trans ((setR_o (by decide)).trans ((uM_k (by decide)).trans ((hq115.1 0 8 (by decide)).trans ((setR_o (by decide)).trans ((uM_k (by decide)).trans ((uM_k (by decide)).trans ((hq98.1 0 8 (by decide)).trans ((setR_o (by decide)).trans uM_same))))))))))))))) ?_
  refine R_callN (as := [vR _]) hC154 dX11_init_157 mi_2 (Ts_in (in_t2 _ (List.mem_of_getElem? (i := 83) rfl)) rfl) (c2_init_49 rb155 (fun j => setR_s)) rfl rfl ⟨by rw [hRm]; exact Nat.le_of_ble_eq_true rfl, by rw [hRm]; exact Nat.le_of_ble_eq_true rfl, (by rw [hRm]; exact Nat.le_of_ble_eq_true rfl), (by rw [hRm]; exact Nat.le_of_ble_eq_true rfl)⟩ (by decide) (lsOK_h (by decide)) (stOK_h (by decide)) (fun g157 M158 ga159 hq160 rb161 => ?_)
  have hC162 := CxOK.ga ga159 hC154
  have ga163 := GA.tr ga156 ga159 (by decide)
  have bt164 := BT.call bt151 (by decide) hq160
  refine R_putFR hC162 hN dX11_init_160 fl_11_91 (fun p hp => by obtain rfl := Option.some.inj (hp.symm.trans cl_11.1); rfl) (by decide) rfl (by decide) rfl (by decide) (fi := 14) rfl ?_
  have rb165 := RB.put (a := 0) (j := 14) (v := 49) rb161 (by decide)
  have bt166 := BT.put (f := 14) (v := 49) bt164
  refine R_aload_0 hC162 dX11_init_163 ?_
  refine R_newO (N := 4) hC162 dX11_init_164 cl_1 (Ts_in (in_t2 _ (List.mem_of_getElem? (i := 106) rfl)) rfl) (Ts_in (in_t2 _ (List.mem_of_getElem? (i := 107) rfl)) rfl) (Ts_in (in_t1 _ (List.mem_of_getElem? (i := 12) rfl)) rfl) rfl (by decide +kernel) (by decide) rb165 (lsOK_h (by decide)) (stOK_h (by decide)) (by rw [hRm]; exact Nat.le_of_ble_eq_true rfl) (by rw [hRm]; exact Nat.le_of_ble_eq_true rfl) (fun g167 ga168 => ?_)
  have hC169 := CxOK.ga ga168 hC162
  have rb170 := RB.set (f := dfl LY 1) rb165 (fun j => (dfl_b j).2)
  have ga171 := GA.tr ga163 ga168 (by decide)
  refine R_dup hC169 dX11_init_167 rfl ?_
  refine R_newO (N := 4) hC169 dX11_init_168 cl_5 (Ts_in (in_t1 _ (List.mem_of_getElem? (i := 213) rfl)) rfl) (Ts_in (in_t1 _ (List.mem_of_getElem? (i := 214) rfl)) rfl) (Ts_in (in_t1 _ (List.mem_of_getElem? (i := 7) rfl)) rfl) rfl (by decide +kernel) (by decide) rb170 (lsOK_h (by decide)) (stOK_h (by decide)) (by rw [hRm]; exact Nat.le_of_ble_eq_true rfl) (by rw [hRm]; exact Nat.le_of_ble_eq_true rfl) (fun g172 ga173 => ?_)
  have hC174 := CxOK.ga ga173 hC169
  have rb175 := RB.set (f := dfl LY 5) rb170 (fun j => (dfl_b j).2)
  have ga176 := GA.tr ga171 ga173 (by decide)
  refine R_dup hC174 dX11_init_171 rfl ?_
  refine R_aload_0 hC174 dX11_init_172 ?_
  refine R_getR hC174 dX11_init_173 fl_11_51 (by decide) rfl (by decide) (by decide) (fi := 8) rfl (r := 24) (((setR_o (by decide)).trans ((setR_o (by decide)).trans ((uM_k (by decide)).trans ((hq160.1 0 8 (by decide)).trans ((setR_o (by decide)).trans ((uM_k (by decide)).trans ((hq145.1 0 8 (by decide)).trans ((setR_o (by decide)).trans ((uM_k (by decide)).trans ((hq130.1 0 8 (by decide)).trans ((setR_o (by decide)).trans ((uM_k (by decide)).trans ((hq115.1 0 8 (by decide)).trans ((setR_o (by decide)).trans ((uM_k (by decide)).trans ((uM_k (by decide)).trans ((hq98.1 0 8 (by decide)).trans ((setR_o (by decide)).trans uM_same))))))))))))))))))) ?_
  refine R_callN (as := [vR _]) hC174 dX11_init_176 mi_5 (Ts_in (in_t1 _ (List.mem_of_getElem? (i := 215) rfl)) rfl) (c5_init_53 rb175 (fun j => setR_s)) rfl rfl ⟨by rw [hRm]; exact Nat.le_of_ble_eq_true rfl, by rw [hRm]; exact Nat.le_of_ble_eq_true rfl, (by rw [hRm]; exact Nat.le_of_ble_eq_true rfl), (by rw [hRm]; exact Nat.le_of_ble_eq_true rfl)⟩ (by decide) (lsOK_h (by decide)) (stOK_h (by decide)) (fun g177 M178 ga179 hq180 rb181 => ?_)
  have hC182 := CxOK.ga ga179 hC174
  have ga183 := GA.tr ga176 ga179 (by decide)
  have bt184 := BT.call (BT.z (M0 := (setR (uM M158 0 14 49) 52 (dfl LY 1))) (a := 52)) (by decide) hq180
  refine R_callN (as := [vR _]) hC182 dX11_init_179 mi_1 (Ts_in (in_t2 _ (List.mem_of_getElem? (i := 108) rfl)) rfl) (c1_init_52 rb181 (fun j => ((hq180.1 52 j (by decide)).trans ((setR_o (by decide)).trans setR_s))) ⟨fun _ _ _ => rfl, bt184.2⟩) rfl rfl ⟨by rw [hRm]; exact Nat.le_of_ble_eq_true rfl, by rw [hRm]; exact Nat.le_of_ble_eq_true rfl, (by rw [hRm]; exact Nat.le_of_ble_eq_true rfl), (by rw [hRm]; exact Nat.le_of_ble_eq_true rfl)⟩ (by decide) (lsOK_h (by decide)) (stOK_h (by decide)) (fun g185 M186 ga187 hq188 rb189 => ?_)
  have hC190 := CxOK.ga ga187 hC182
  have ga191 := GA.tr ga183 ga187 (by decide)
  have bt192 := BT.call2 bt166 (by decide) bt184 hq188 (by decide)
  refine R_putFR hC190 hN dX11_init_182 fl_11_100 (fun p hp => by obtain rfl := Option.some.inj (hp.symm.trans cl_11.1); rfl) (by decide) rfl (by decide) rfl (by decide) (fi := 15) rfl ?_
  have rb193 := RB.put (a := 0) (j := 15) (v := 52) rb189 (by decide)
  have bt194 := BT.put (f := 15) (v := 52) bt192
  refine R_returnN hC190 dX11_init_185 rfl ga191 rb193 ⟨bt194.1, fun h j h0 h1 h2 => ?_⟩
  by_cases e : h = 0
  · subst e
    have j2 : 0 ≤ j ∧ j < 16 := h2.elim (fun z => absurd z (by decide)) (fun z => z)
    have j3 : j = 0 ∨ j = 1 ∨ j = 2 ∨ j = 3 ∨ j = 4 ∨ j = 5 ∨ j = 6 ∨ j = 7 ∨ j = 8 ∨ j = 9 ∨ j = 10 ∨ j = 11 ∨ j = 12 ∨ j = 13 ∨ j = 14 ∨ j = 15 := by omega
    rcases j3 with rfl | rfl | rfl | rfl | rfl | rfl | rfl | rfl | rfl | rfl | rfl | rfl | rfl | rfl | rfl | rfl
    · exact ((uM_k (by decide)).trans ((hq188.1 0 0 (by decide)).trans ((hq180.1 0 0 (by decide)).trans ((setR_o (by decide)).trans ((setR_o (by decide)).trans ((uM_k (by decide)).trans ((hq160.1 0 0 (by decide)).trans ((setR_o (by decide)).trans ((uM_k (by decide)).trans ((hq145.1 0 0 (by decide)).trans ((setR_o (by decide)).trans ((uM_k (by decide)).trans ((hq130.1 0 0 (by decide)).trans ((setR_o (by decide)).trans ((uM_k (by decide)).trans ((hq115.1 0 0 (by decide)).trans ((setR_o (by decide)).trans ((uM_k (by decide)).trans ((uM_k (by decide)).trans ((hq98.1 0 0 (by decide)).trans ((setR_o (by decide)).trans ((uM_k (by decide)).trans ((hq83.1 0 0 (by decide)).trans ((setR_o (by decide)).trans ((uM_k (by decide)).trans ((hq68.1 0 0 (by decide)).trans ((setR_o (by decide)).trans ((uM_k (by decide)).trans ((hq53.1 0 0 (by decide)).trans ((setR_o (by decide)).trans ((uM_k (by decide)).trans ((uM_k (by decide)).trans ((hq36.1 0 0 (by decide)).trans ((setR_o (by decide)).trans ((uM_k (by decide)).trans ((hq21.1 0 0 (by decide)).trans ((setR_o (by decide)).trans ((uM_k (by decide)).trans ((uM_k (by decide)).trans uM_same))))))))))))))))))))))))))))))))))))))).trans (by decide +kernel)
    · exact ((uM_k (by decide)).trans ((hq188.1 0 1 (by decide)).trans ((hq180.1 0 1 (by decide)).trans ((setR_o (by decide)).trans ((setR_o (by decide)).trans ((uM_k (by decide)).trans ((hq160.1 0 1 (by decide)).trans ((setR_o (by decide)).trans ((uM_k (by decide)).trans ((hq145.1 0 1 (by decide)).trans ((setR_o (by decide)).trans ((uM_k (by decide)).trans ((hq130.1 0 1 (by decide)).trans ((setR_o (by decide)).trans ((uM_k (by decide)).trans ((hq115.1 0 1 (by decide)).trans ((setR_o (by decide)).trans ((uM_k (by decide)).trans ((uM_k (by decide)).trans ((hq98.1 0 1 (by decide)).trans ((setR_o (by decide)).trans ((uM_k (by decide)).trans ((hq83.1 0 1 (by decide)).trans ((setR_o (by decide)).trans ((uM_k (by decide)).trans ((hq68.1 0 1 (by decide)).trans ((setR_o (by decide)).trans ((uM_k (by decide)).trans ((hq53.1 0 1 (by decide)).trans ((setR_o (by decide)).trans ((uM_k (by decide)).trans ((uM_k (by decide)).trans ((hq36.1 0 1 (by decide)).trans ((setR_o (by decide)).trans ((uM_k (by decide)).trans ((hq21.1 0 1 (by decide)).trans ((setR_o (by decide)).trans ((uM_k (by decide)).trans uM_same)))))))))))))))))))))))))))))))))))))).trans (by decide +kernel)
    · exact ((uM_k (by decide)).trans ((hq188.1 0 2 (by decide)).trans ((hq180.1 0 2 (by decide)).trans ((setR_o (by decide)).trans ((setR_o (by decide)).trans ((uM_k (by decide)).trans ((hq160.1 0 2 (by decide)).trans ((setR_o (by decide)).trans ((uM_k (by decide)).trans ((hq145.1 0 2 (by decide)).trans ((setR_o (by decide)).trans ((uM_k (by decide)).trans ((hq130.1 0 2 (by decide)).trans ((setR_o (by decide)).trans ((uM_k (by decide)).trans ((hq115.1 0 2 (by decide)).trans ((setR_o (by decide)).trans ((uM_k (by decide)).trans ((uM_k (by decide)).trans ((hq98.1 0 2 (by decide)).trans ((setR_o (by decide)).trans ((uM_k (by decide)).trans ((hq83.1 0 2 (by decide)).trans ((setR_o (by decide)).trans ((uM_k (by decide)).trans ((hq68.1 0 2 (by decide)).trans ((setR_o (by decide)).trans ((uM_k (by decide)).trans ((hq53.1 0 2 (by decide)).trans ((setR_o (by decide)).trans ((uM_k (by decide)).trans ((uM_k (by decide)).trans ((hq36.1 0 2 (by decide)).trans ((setR_o (by decide)).trans ((uM_k (by decide)).trans ((hq21.1 0 2 (by decide)).trans ((setR_o (by decide)).trans uM_same))))))))))))))))))))))))))))))))))))).trans (by decide +kernel)
    · exact ((uM_k (by decide)).trans ((hq188.1 0 3 (by decide)).trans ((hq180.1 0 3 (by decide)).trans ((setR_o (by decide)).trans ((setR_o (by decide)).trans ((uM_k (by decide)).trans ((hq160.1 0 3 (by decide)).trans ((setR_o (by decide)).trans ((uM_k (by decide)).trans ((hq145.1 0 3 (by decide)).trans ((setR_o (by decide)).trans ((uM_k (by decide)).trans ((hq130.1 0 3 (by decide)).trans ((setR_o (by decide)).trans ((uM_k (by decide)).trans ((hq115.1 0 3 (by decide)).trans ((setR_o (by decide)).trans ((uM_k (by decide)).trans ((uM_k (by decide)).trans ((hq98.1 0 3 (by decide)).trans ((setR_o (by decide)).trans ((uM_k (by decide)).trans ((hq83.1 0 3 (by decide)).trans ((setR_o (by decide)).trans ((uM_k (by decide)).trans ((hq68.1 0 3 (by decide)).trans ((setR_o (by decide)).trans ((uM_k (by decide)).trans ((hq53.1 0 3 (by decide)).trans ((setR_o (by decide)).trans ((uM_k (by decide)).trans ((uM_k (by decide)).trans ((hq36.1 0 3 (by decide)).trans ((setR_o (by decide)).trans uM_same)))))))))))))))))))))))))))))))))).trans (by decide +kernel)
    · exact ((uM_k (by decide)).trans ((hq188.1 0 4 (by decide)).trans ((hq180.1 0 4 (by decide)).trans ((setR_o (by decide)).trans ((setR_o (by decide)).trans ((uM_k (by decide)).trans ((hq160.1 0 4 (by decide)).trans ((setR_o (by decide)).trans ((uM_k (by decide)).trans ((hq145.1 0 4 (by decide)).trans ((setR_o (by decide)).trans ((uM_k (by decide)).trans ((hq130.1 0 4 (by decide)).trans ((setR_o (by decide)).trans ((uM_k (by decide)).trans ((hq115.1 0 4 (by decide)).trans ((setR_o (by decide)).trans ((uM_k (by decide)).trans ((uM_k (by decide)).trans ((hq98.1 0 4 (by decide)).trans ((setR_o (by decide)).trans ((uM_k (by decide)).trans ((hq83.1 0 4 (by decide)).trans ((setR_o (by decide)).trans ((uM_k (by decide)).trans ((hq68.1 0 4 (by decide)).trans ((setR_o (by decide)).trans ((uM_k (by decide)).trans ((hq53.1 0 4 (by decide)).trans ((setR_o (by decide)).trans ((uM_k (by decide)).trans uM_same))))))))))))))))))))))))))))))).trans (by decide +kernel)
    · exact ((uM_k (by decide)).trans ((hq188.1 0 5 (by decide)).trans ((hq180.1 0 5 (by decide)).trans ((setR_o (by decide)).trans ((setR_o (by decide)).trans ((uM_k (by decide)).trans ((hq160.1 0 5 (by decide)).trans ((setR_o (by decide)).trans ((uM_k (by decide)).trans ((hq145.1 0 5 (by decide)).trans ((setR_o (by decide)).trans ((uM_k (by decide)).trans ((hq130.1 0 5 (by decide)).trans ((setR_o (by decide)).trans ((uM_k (by decide)).trans ((hq115.1 0 5 (by decide)).trans ((setR_o (by decide)).trans ((uM_k (by decide)).trans ((uM_k (by decide)).trans ((hq98.1 0 5 (by decide)).trans ((setR_o (by decide)).trans ((uM_k (by decide)).trans ((hq83.1 0 5 (by decide)).trans ((setR_o (by decide)).trans ((uM_k (by decide)).trans ((hq68.1 0 5 (by decide)).trans ((setR_o (by decide)).trans ((uM_k (by decide)).trans ((hq53.1 0 5 (by decide)).trans ((setR_o (by decide)).trans uM_same)))))))))))))))))))))))))))))).trans (by decide +kernel)
    · exact ((uM_k (by decide)).trans ((hq188.1 0 6 (by decide)).trans ((hq180.1 0 6 (by decide)).trans ((setR_o (by decide)).trans ((setR_o (by decide)).trans ((uM_k (by decide)).trans ((hq160.1 0 6 (by decide)).trans ((setR_o (by decide)).trans ((uM_k (by decide)).trans ((hq145.1 0 6 (by decide)).trans ((setR_o (by decide)).trans ((uM_k (by decide)).trans ((hq130.1 0 6 (by decide)).trans ((setR_o (by decide)).trans ((uM_k (by decide)).trans ((hq115.1 0 6 (by decide)).trans ((setR_o (by decide)).trans ((uM_k (by decide)).trans ((uM_k (by decide)).trans ((hq98.1 0 6 (by decide)).trans ((setR_o (by decide)).trans ((uM_k (by decide)).trans ((hq83.1 0 6 (by decide)).trans ((setR_o (by decide)).trans ((uM_k (by decide)).trans ((hq68.1 0 6 (by decide)).trans ((setR_o (by decide)).trans uM_same))))))))))))))))))))))))))).trans (by decide +kernel)
    · exact ((uM_k (by decide)).trans ((hq188.1 0 7 (by decide)).trans ((hq180.1 0 7 (by decide)).trans ((setR_o (by decide)).trans ((setR_o (by decide)).trans ((uM_k (by decide)).trans ((hq160.1 0 7 (by decide)).trans ((setR_o (by decide)).trans ((uM_k (by decide)).trans ((hq145.1 0 7 (by decide)).trans ((setR_o (by decide)).trans ((uM_k (by decide)).trans ((hq130.1 0 7 (by decide)).trans ((setR_o (by decide)).trans ((uM_k (by decide)).trans ((hq115.1 0 7 (by decide)).trans ((setR_o (by decide)).trans ((uM_k (by decide)).trans ((uM_k (by decide)).trans ((hq98.1 0 7 (by decide)).trans ((setR_o (by decide)).trans ((uM_k (by decide)).trans ((hq83.1 0 7 (by decide)).trans ((setR_o (by decide)).trans uM_same)))))))))))))))))))))))).trans (by decide +kernel)
    · exact ((uM_k (by decide)).trans ((hq188.1 0 8 (by decide)).trans ((hq180.1 0 8 (by decide)).trans ((setR_o (by decide)).trans ((setR_o (by decide)).trans ((uM_k (by decide)).trans ((hq160.1 0 8 (by decide)).trans ((setR_o (by decide)).trans ((uM_k (by decide)).trans ((hq145.1 0 8 (by decide)).trans ((setR_o (by decide)).trans ((uM_k (by decide)).trans ((hq130.1 0 8 (by decide)).trans ((setR_o (by decide)).trans ((uM_k (by decide)).trans ((hq115.1 0 8 (by decide)).trans ((setR_o (by decide)).trans ((uM_k (by decide)).trans ((uM_k (by decide)).trans ((hq98.1 0 8 (by decide)).trans ((setR_o (by decide)).trans uM_same))))))))))))))))))))).trans (by decide +kernel)
    · exact ((uM_k (by decide)).trans ((hq188.1 0 9 (by decide)).trans ((hq180.1 0 9 (by decide)).trans ((setR_o (by decide)).trans ((setR_o (by decide)).trans ((uM_k (by decide)).trans ((hq160.1 0 9 (by decide)).trans ((setR_o (by decide)).trans ((uM_k (by decide)).trans ((hq145.1 0 9 (by decide)).trans ((setR_o (by decide)).trans ((uM_k (by decide)).trans ((hq130.1 0 9 (by decide)).trans ((setR_o (by decide)).trans ((uM_k (by decide)).trans ((hq115.1 0 9 (by decide)).trans ((setR_o (by decide)).trans ((uM_k (by decide)).trans uM_same)))))))))))))))))).trans (by decide +kernel)
    · exact ((uM_k (by decide)).trans ((hq188.1 0 10 (by decide)).trans ((hq180.1 0 10 (by decide)).trans ((setR_o (by decide)).trans ((setR_o (by decide)).trans ((uM_k (by decide)).trans ((hq160.1 0 10 (by decide)).trans ((setR_o (by decide)).trans ((uM_k (by decide)).trans ((hq145.1 0 10 (by decide)).trans ((setR_o (by decide)).trans ((uM_k (by decide)).trans ((hq130.1 0 10 (by decide)).trans ((setR_o (by decide)).trans ((uM_k (by decide)).trans ((hq115.1 0 10 (by decide)).trans ((setR_o (by decide)).trans uM_same))))))))))))))))).trans (by decide +kernel)
    · exact ((uM_k (by decide)).trans ((hq188.1 0 11 (by decide)).trans ((hq180.1 0 11 (by decide)).trans ((setR_o (by decide)).trans ((setR_o (by decide)).trans ((uM_k (by decide)).trans ((hq160.1 0 11 (by decide)).trans ((setR_o (by decide)).trans ((uM_k (by decide)).trans ((hq145.1 0 11 (by decide)).trans ((setR_o (by decide)).trans ((uM_k (by decide)).trans ((hq130.1 0 11 (by decide)).trans ((setR_o (by decide)).trans uM_same)))))))))))))).trans (by decide +kernel)
    · exact ((uM_k (by decide)).trans ((hq188.1 0 12 (by decide)).trans ((hq180.1 0 12 (by decide)).trans ((setR_o (by decide)).trans ((setR_o (by decide)).trans ((uM_k (by decide)).trans ((hq160.1 0 12 (by decide)).trans ((setR_o (by decide)).trans ((uM_k (by decide)).trans ((hq145.1 0 12 (by decide)).trans ((setR_o (by decide)).trans uM_same))))))))))).trans (by decide +kernel)
    · exact ((uM_k (by decide)).trans ((hq188.1 0 13 (by decide)).trans ((hq180.1 0 13 (by decide)).trans ((setR_o (by decide)).trans ((setR_o (by decide)).trans ((uM_k (by decide)).trans ((hq160.1 0 13 (by decide)).trans ((setR_o (by decide)).trans uM_same)))))))).trans (by decide +kernel)
    · exact ((uM_k (by decide)).trans ((hq188.1 0 14 (by decide)).trans ((hq180.1 0 14 (by decide)).trans ((setR_o (by decide)).trans ((setR_o (by decide)).trans uM_same))))).trans (by decide +kernel)
    · exact uM_same.trans (by decide +kernel)
  · exact bt194.2 h j (by omega) h1 h2
