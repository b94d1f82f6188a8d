/-! round about, and orders -/
theorem sN_congr {I : Ins} {b : Int → Int} (hb : RK (iW I) (iZ I) b) {x : Int} {s s' : Int → Int} (h : ∀ w, 0 ≤ w → w < iW I → s w = s' w) : (∀ i : Nat, (i : Int) ≤ iW I → wl I b x s i = wl I b x s' i) ∧ ∀ w, 0 ≤ w → w < iW I → sN I b x s w = sN I b x s' w := by
  have h1 : ∀ i : Nat, (i : Int) ≤ iW I → wl I b x s i = wl I b x s' i := by
    intro i
    induction i with
    | zero => intro _; rfl
    | succ i ih =>
      intro hi
      have hbi := hb.1 i (by omega) (by omega)
      rw [wl, wl, ih (by omega), h _ hbi.1 hbi.2]
  refine ⟨h1, fun w w0 w1 => ?_⟩
  unfold sN
  rw [h w w0 w1]
  congr 1
  refine sm_congr _ (fun i i0 i1 => ?_)
  have hbi := hb.1 i i0 (by omega)
  unfold mny
  rw [h1 i.toNat (by omega), h _ hbi.1 hbi.2]
def lib (L f k : Int) : Int := if f + k < L then f + k else f + k - L
def gS (I : Ins) (b : Int → Int) (f : Int) : Nat → Int → Int
  | 0 => iS I
  | k + 1 => sN I b (lib (iL I) f k) (gS I b f k)
theorem gS_s {I : Ins} {b : Int → Int} {f k j : Int} (h : 0 ≤ k) (hj : j = k + 1) : gS I b f j.toNat = sN I b (lib (iL I) f k) (gS I b f k.toNat) := by
  subst hj
  rw [show (k + 1).toNat = k.toNat + 1 by omega, gS, Int.toNat_of_nonneg h]
theorem gS_bd {I : Ins} (hI : IB I) {b : Int → Int} (hb : RK (iW I) (iZ I) b) {f : Int} (f0 : 0 ≤ f) (f1 : f < iL I) : ∀ k : Nat, (k : Int) ≤ iL I → ∀ w, 0 ≤ w → w < iW I → 0 ≤ gS I b f k w ∧ gS I b f k w ≤ 1000
  | 0, _ => fun w w0 w1 => (hI.2.2.2.1 w w0 w1).1
  | k + 1, h => fun w w0 w1 => sN_bd hI hb (x := lib (iL I) f k) (by unfold lib; split <;> omega) (by unfold lib; split <;> omega) (gS_bd hI hb f0 f1 k (by omega)) w w0 w1
/-- who lacks by turns from f on, among the first k -/
def lackT (I : Ins) (b : Int → Int) (f k x : Int) : Prop := ∃ j, 0 ≤ j ∧ j < k ∧ lib (iL I) f j = x ∧ wdw I b x (gS I b f j.toNat) < iN I x
theorem bits_congr {p q : Int → Prop} {n : Nat} (h : ∀ k : Int, 0 ≤ k → k < n → (p k ↔ q k)) : bits n p = bits n q := by
  unfold bits
  exact sm_congr n (fun k k0 k1 => by show bP (p k) * _ = bP (q k) * _; rw [bP_iff (h k k0 k1)])
theorem bits_set {p : Int → Prop} {x : Int} (x0 : 0 ≤ x) (hp : ¬ p x) : ∀ n : Nat, x < n → (((bits n p).toNat ||| ((2 : Int) ^ x.toNat).toNat : Nat) : Int) = bits n (fun k => p k ∨ k = x)
  | 0, h => by omega
  | n + 1, h => by
    have e : ∀ q : Int → Prop, bits (n + 1) q = bits n q + bP (q n) * 2 ^ n := fun q => by show sm n _ + _ = _; simp [bits]
    by_cases hx : x = n
    · have e1 : bits (n + 1) p = bits n p := by rw [e, ← hx, bP_neg hp]; omega
      have e2 : bits (n + 1) (fun k => p k ∨ k = x) = bits n p + 2 ^ n := by
        rw [e, bP_pos (.inr hx.symm), Int.one_mul]
        congr 1
        exact bits_congr (fun k k0 k1 => ⟨fun z => z.elim id (fun z => by omega), .inl⟩)
      have h2 := bits_bd p n
      rw [e1, e2, hx, Int.toNat_natCast]
      exact or_pow h2.1 h2.2
    · have ih := bits_set x0 hp n (by omega)
      have h2 := bits_bd p n
      have h3 := bits_bd (fun k => p k ∨ k = x) n
      rw [e, e, bP_iff (show p n ↔ (p n ∨ (n : Int) = x) from ⟨.inl, fun z => z.elim id (fun z => by omega)⟩)]
      rcases bP_01 (p n ∨ (n : Int) = x) with q | q
      · rw [q]
        simp only [Int.zero_mul, Int.add_zero]
        exact ih
      · rw [q, Int.one_mul]
        have a1 := or_pow h2.1 h2.2
        have a2 := or_pow h3.1 h3.2
        rw [← a1, ← a2, ← ih]
        simp only [Int.toNat_natCast]
        rw [Nat.or_assoc, Nat.or_assoc, Nat.or_comm (2 ^ n : Int).toNat]
theorem lib_inj {L f j k : Int} (f0 : 0 ≤ f) (f1 : f < L) (j0 : 0 ≤ j) (jk : j < k) (k1 : k < L) : lib L f j ≠ lib L f k := by
  unfold lib
  split <;> split <;> omega
theorem lackT_t {I : Ins} {b : Int → Int} {f k : Int} (f0 : 0 ≤ f) (f1 : f < iL I) (k0 : 0 ≤ k) (k1 : k < iL I) (h : wdw I b (lib (iL I) f k) (gS I b f k.toNat) < iN I (lib (iL I) f k)) : (((bits (iL I).toNat (lackT I b f k)).toNat ||| ((2 : Int) ^ (lib (iL I) f k).toNat).toNat : Nat) : Int) = bits (iL I).toNat (lackT I b f (k + 1)) := by
  have hl : 0 ≤ lib (iL I) f k ∧ lib (iL I) f k < iL I := by unfold lib; split <;> omega
  rw [bits_set hl.1 (fun ⟨j, j0, j1, j2, _⟩ => lib_inj f0 f1 j0 j1 k1 j2) _ (by omega)]
  refine bits_congr (fun x _ _ => ⟨fun z => ?_, fun ⟨j, j0, j1, j2, j3⟩ => ?_⟩)
  · rcases z with ⟨j, j0, j1, j2, j3⟩ | z
    · exact ⟨j, j0, by omega, j2, j3⟩
    · exact ⟨k, k0, by omega, z.symm, by rw [z]; exact h⟩
  · by_cases q : j = k
    · subst q
      exact .inr j2.symm
    · exact .inl ⟨j, j0, by omega, j2, j3⟩
theorem lackT_f {I : Ins} {b : Int → Int} {f k : Int} (h : ¬ wdw I b (lib (iL I) f k) (gS I b f k.toNat) < iN I (lib (iL I) f k)) : bits (iL I).toNat (lackT I b f k) = bits (iL I).toNat (lackT I b f (k + 1)) := by
  refine bits_congr (fun x _ _ => ⟨fun ⟨j, j0, j1, j2, j3⟩ => ⟨j, j0, by omega, j2, j3⟩, fun ⟨j, j0, j1, j2, j3⟩ => ?_⟩)
  by_cases q : j = k
  · subst q
    exact absurd (by rw [j2]; exact j3) h
  · exact ⟨j, j0, by omega, j2, j3⟩
theorem wnn_bd {I : Ins} (hI : IB I) {b : Int → Int} (hb : RK (iW I) (iZ I) b) {x : Int} (x0 : 0 ≤ x) (x1 : x < iL I) {s : Int → Int} (hs : ∀ w, 0 ≤ w → w < iW I → 0 ≤ s w ∧ s w ≤ 1000) : 0 ≤ wnn I b x s ∧ wnn I b x s ≤ 162 := by
  have h := wl_bd hI hb x0 x1 hs (iW I).toNat (by have := hI.2.1; omega)
  have := hI.2.1
  unfold wnn
  omega
/-- orders told, the best SPACE, the best order -/
abbrev AC : Type := Int × Int × (Int → Int)
def fl (g : Int → AC → AC) : Nat → AC → AC
  | 0, a => a
  | x + 1, a => g x (fl g x a)
noncomputable def luF (I : Ins) (b : Int → Int) : Nat → Int → Int → Int → (Int → Int) → (Int → Int) → AC → AC
  | 0, _, _, sp, _, ord, a => (a.1 + 1, if a.2.1 < sp then sp else a.2.1, if a.2.1 < sp then ord else a.2.2)
  | n + 1, t, dn, sp, s, ord, a => fl (fun x a => if dn / 2 ^ x.toNat % 2 = 0 ∧ iN I x ≤ wdw I b x s then luF I b n (t + 1) (dn + 2 ^ x.toNat) (sp + wnn I b x s) (sN I b x s) (up ord t x) a else a) (iL I).toNat a
theorem fl_s {g : Int → AC → AC} {x j : Int} {a : AC} (h : 0 ≤ x) (hj : j = x + 1) : fl g j.toNat a = g x (fl g x.toNat a) := by
  subst hj
  rw [show (x + 1).toNat = x.toNat + 1 by omega, fl, Int.toNat_of_nonneg h]
theorem luF_cnt {I : Ins} (hL : iL I ≤ 5) {b : Int → Int} : ∀ (n : Nat) (t dn sp : Int) (s ord : Int → Int) (a : AC), a.1 ≤ (luF I b n t dn sp s ord a).1 ∧ (luF I b n t dn sp s ord a).1 ≤ a.1 + 5 ^ n
  | 0, t, dn, sp, s, ord, a => by
    show a.1 ≤ a.1 + 1 ∧ a.1 + 1 ≤ a.1 + 5 ^ 0
    omega
  | n + 1, t, dn, sp, s, ord, a => by
    have key : ∀ x : Nat, (a.1 ≤ (fl (fun x a => if dn / 2 ^ x.toNat % 2 = 0 ∧ iN I x ≤ wdw I b x s then luF I b n (t + 1) (dn + 2 ^ x.toNat) (sp + wnn I b x s) (sN I b x s) (up ord t x) a else a) x a).1 ∧ (fl (fun x a => if dn / 2 ^ x.toNat % 2 = 0 ∧ iN I x ≤ wdw I b x s then luF I b n (t + 1) (dn + 2 ^ x.toNat) (sp + wnn I b x s) (sN I b x s) (up ord t x) a else a) x a).1 ≤ a.1 + x * 5 ^ n) := by
      intro x
      induction x with
      | zero => simp [fl]
      | succ x ih =>
        rw [fl]
        have e : ((x + 1 : Nat) : Int) * 5 ^ n = x * 5 ^ n + 5 ^ n := by rw [Int.natCast_add, Int.add_mul]; simp
        have hp : (0 : Int) < 5 ^ n := Int.pow_pos (by decide)
        split
        · have := luF_cnt hL (b := b) n (t + 1) (dn + 2 ^ (x : Int).toNat) (sp + wnn I b x s) (sN I b x s) (up ord t x) (fl (fun x a => if dn / 2 ^ x.toNat % 2 = 0 ∧ iN I x ≤ wdw I b x s then luF I b n (t + 1) (dn + 2 ^ x.toNat) (sp + wnn I b x s) (sN I b x s) (up ord t x) a else a) x a)
          omega
        · omega
    have h := key (iL I).toNat
    have hp : (0 : Int) < 5 ^ n := Int.pow_pos (by decide)
    have h2 : ((iL I).toNat : Int) * 5 ^ n ≤ 5 * 5 ^ n := Int.mul_le_mul_of_nonneg_right (by omega) (by omega)
    rw [luF, Int.pow_succ]
    omega
theorem done_or {dn x : Int} (d0 : 0 ≤ dn) (d1 : dn < 32) (x0 : 0 ≤ x) (x1 : x < 5) (h : dn / 2 ^ x.toNat % 2 = 0) : ((dn.toNat ||| ((2 : Int) ^ x.toNat).toNat : Nat) : Int) = dn + 2 ^ x.toNat ∧ dn + 2 ^ x.toNat < 32 := by
  have key : ∀ a : Nat, a < 32 → ∀ k : Nat, k < 5 → (a : Int) / 2 ^ k % 2 = 0 → ((a ||| ((2 : Int) ^ k).toNat : Nat) : Int) = a + 2 ^ k ∧ (a : Int) + 2 ^ k < 32 := by decide +kernel
  have := key dn.toNat (by omega) x.toNat (by omega)
  rw [Int.toNat_of_nonneg d0] at this
  exact this h
theorem bits_none {p : Int → Prop} {n : Nat} (h : ∀ k : Int, 0 ≤ k → k < n → ¬ p k) : bits n p = 0 :=
  sm_zero n (fun k k0 k1 => by rw [bP_neg (h k k0 k1), Int.zero_mul])

theorem dX10_goRound_0 : decode cX10_goRound 0 = .ok (.aload_n 0, 1) := by decide +kernel
theorem dX10_goRound_1 : decode cX10_goRound 1 = .ok (.aload_n 1, 1) := by decide +kernel
theorem dX10_goRound_2 : decode cX10_goRound 2 = .ok (.invokevirtual 36, 3) := by decide +kernel
theorem dX10_goRound_5 : decode cX10_goRound 5 = .ok (.aload_n 0, 1) := by decide +kernel
theorem dX10_goRound_6 : decode cX10_goRound 6 = .ok (.iconst 0, 1) := by decide +kernel
theorem dX10_goRound_7 : decode cX10_goRound 7 = .ok (.putfield 39, 3) := by decide +kernel
theorem dX10_goRound_10 : decode cX10_goRound 10 = .ok (.aload_n 0, 1) := by decide +kernel
theorem dX10_goRound_11 : decode cX10_goRound 11 = .ok (.iconst 0, 1) := by decide +kernel
theorem dX10_goRound_12 : decode cX10_goRound 12 = .ok (.putfield 42, 3) := by decide +kernel
theorem dX10_goRound_15 : decode cX10_goRound 15 = .ok (.iconst 0, 1) := by decide +kernel
theorem dX10_goRound_16 : decode cX10_goRound 16 = .ok (.istore_n 3, 1) := by decide +kernel
theorem dX10_goRound_17 : decode cX10_goRound 17 = .ok (.iload_n 3, 1) := by decide +kernel
theorem dX10_goRound_18 : decode cX10_goRound 18 = .ok (.aload_n 0, 1) := by decide +kernel
theorem dX10_goRound_19 : decode cX10_goRound 19 = .ok (.getfield 9, 3) := by decide +kernel
theorem dX10_goRound_22 : decode cX10_goRound 22 = .ok (.getfield 45, 3) := by decide +kernel
theorem dX10_goRound_25 : decode cX10_goRound 25 = .ok (.if_icmp .ge 87, 3) := by decide +kernel
theorem dX10_goRound_28 : decode cX10_goRound 28 = .ok (.iload_n 2, 1) := by decide +kernel
theorem dX10_goRound_29 : decode cX10_goRound 29 = .ok (.iload_n 3, 1) := by decide +kernel
theorem dX10_goRound_30 : decode cX10_goRound 30 = .ok (.iadd, 1) := by decide +kernel
theorem dX10_goRound_31 : decode cX10_goRound 31 = .ok (.aload_n 0, 1) := by decide +kernel
theorem dX10_goRound_32 : decode cX10_goRound 32 = .ok (.getfield 9, 3) := by decide +kernel
theorem dX10_goRound_35 : decode cX10_goRound 35 = .ok (.getfield 45, 3) := by decide +kernel
theorem dX10_goRound_38 : decode cX10_goRound 38 = .ok (.if_icmp .ge 9, 3) := by decide +kernel
theorem dX10_goRound_41 : decode cX10_goRound 41 = .ok (.iload_n 2, 1) := by decide +kernel
theorem dX10_goRound_42 : decode cX10_goRound 42 = .ok (.iload_n 3, 1) := by decide +kernel
theorem dX10_goRound_43 : decode cX10_goRound 43 = .ok (.iadd, 1) := by decide +kernel
theorem dX10_goRound_44 : decode cX10_goRound 44 = .ok (.goto 14, 3) := by decide +kernel
theorem dX10_goRound_47 : decode cX10_goRound 47 = .ok (.iload_n 2, 1) := by decide +kernel
theorem dX10_goRound_48 : decode cX10_goRound 48 = .ok (.iload_n 3, 1) := by decide +kernel
theorem dX10_goRound_49 : decode cX10_goRound 49 = .ok (.iadd, 1) := by decide +kernel
theorem dX10_goRound_50 : decode cX10_goRound 50 = .ok (.aload_n 0, 1) := by decide +kernel
theorem dX10_goRound_51 : decode cX10_goRound 51 = .ok (.getfield 9, 3) := by decide +kernel
theorem dX10_goRound_54 : decode cX10_goRound 54 = .ok (.getfield 45, 3) := by decide +kernel
theorem dX10_goRound_57 : decode cX10_goRound 57 = .ok (.isub, 1) := by decide +kernel
theorem dX10_goRound_58 : decode cX10_goRound 58 = .ok (.istore 4, 2) := by decide +kernel
theorem dX10_goRound_60 : decode cX10_goRound 60 = .ok (.aload_n 0, 1) := by decide +kernel
theorem dX10_goRound_61 : decode cX10_goRound 61 = .ok (.dup, 1) := by decide +kernel
theorem dX10_goRound_62 : decode cX10_goRound 62 = .ok (.getfield 39, 3) := by decide +kernel
theorem dX10_goRound_65 : decode cX10_goRound 65 = .ok (.aload_n 0, 1) := by decide +kernel
theorem dX10_goRound_66 : decode cX10_goRound 66 = .ok (.iload 4, 2) := by decide +kernel
theorem dX10_goRound_68 : decode cX10_goRound 68 = .ok (.iload_n 3, 1) := by decide +kernel
theorem dX10_goRound_69 : decode cX10_goRound 69 = .ok (.invokevirtual 48, 3) := by decide +kernel
theorem dX10_goRound_72 : decode cX10_goRound 72 = .ok (.iadd, 1) := by decide +kernel
theorem dX10_goRound_73 : decode cX10_goRound 73 = .ok (.putfield 39, 3) := by decide +kernel
theorem dX10_goRound_76 : decode cX10_goRound 76 = .ok (.aload_n 0, 1) := by decide +kernel
theorem dX10_goRound_77 : decode cX10_goRound 77 = .ok (.getfield 52, 3) := by decide +kernel
theorem dX10_goRound_80 : decode cX10_goRound 80 = .ok (.aload_n 0, 1) := by decide +kernel
theorem dX10_goRound_81 : decode cX10_goRound 81 = .ok (.getfield 9, 3) := by decide +kernel
theorem dX10_goRound_84 : decode cX10_goRound 84 = .ok (.getfield 55, 3) := by decide +kernel
theorem dX10_goRound_87 : decode cX10_goRound 87 = .ok (.iload 4, 2) := by decide +kernel
theorem dX10_goRound_89 : decode cX10_goRound 89 = .ok (.iaload, 1) := by decide +kernel
theorem dX10_goRound_90 : decode cX10_goRound 90 = .ok (.if_icmp .ge 16, 3) := by decide +kernel
theorem dX10_goRound_93 : decode cX10_goRound 93 = .ok (.aload_n 0, 1) := by decide +kernel
theorem dX10_goRound_94 : decode cX10_goRound 94 = .ok (.dup, 1) := by decide +kernel
theorem dX10_goRound_95 : decode cX10_goRound 95 = .ok (.getfield 42, 3) := by decide +kernel
theorem dX10_goRound_98 : decode cX10_goRound 98 = .ok (.iconst 1, 1) := by decide +kernel
theorem dX10_goRound_99 : decode cX10_goRound 99 = .ok (.iload 4, 2) := by decide +kernel
theorem dX10_goRound_101 : decode cX10_goRound 101 = .ok (.ishl, 1) := by decide +kernel
theorem dX10_goRound_102 : decode cX10_goRound 102 = .ok (.ior, 1) := by decide +kernel
theorem dX10_goRound_103 : decode cX10_goRound 103 = .ok (.putfield 42, 3) := by decide +kernel
theorem dX10_goRound_106 : decode cX10_goRound 106 = .ok (.iinc 3 1, 3) := by decide +kernel
theorem dX10_goRound_109 : decode cX10_goRound 109 = .ok (.goto (-92), 3) := by decide +kernel
theorem dX10_goRound_112 : decode cX10_goRound 112 = .ok (.return_, 1) := by decide +kernel
set_option maxHeartbeats 2000000 in
theorem c10_goRound {G : Gl} {l : Launch}  {M : Mem} {d : Int → Int} {x : Int} (hG : GR M) (hD : M 4 = d) (hSP : SP d) (hx0 : 0 ≤ x) (hx1 : x < d 121) : Ct G LY 57 l 4 m10_goRound [vR 41, vR 3, vI x] M (RV (fun M' => Fr [25, 26, 27, 28, 29, 30, 31, 32, 33, 34, 42] [(24, 11), (24, 12), (24, 13), (41, 3), (41, 5), (41, 6)] M M' ∧ ∃ b, RK (d 122) (fun w => d (10 + w)) b ∧ M' 41 5 = sm (d 121).toNat (fun k => wnn (insOf d) b (lib (d 121) x k) (gS (insOf d) b x k.toNat)) ∧ M' 41 6 = bits (d 121).toNat (lackT (insOf d) b x (d 121)))) := by
  refine R_start (by decide +kernel) (Nat.le_of_ble_eq_true rfl) (fun C hC hRm hlau => ?_)
  show RZ G LY C (Zn G LY 57 C (RV (fun M' => Fr [25, 26, 27, 28, 29, 30, 31, 32, 33, 34, 42] [(24, 11), (24, 12), (24, 13), (41, 3), (41, 5), (41, 6)] M M' ∧ ∃ b, RK (d 122) (fun w => d (10 + w)) b ∧ M' 41 5 = sm (d 121).toNat (fun k => wnn (insOf d) b (lib (d 121) x k) (gS (insOf d) b x k.toNat)) ∧ M' 41 6 = bits (d 121).toNat (lackT (insOf d) b x (d 121))))) 0 0 57 0 [some (vR 41), some (vR 3), some (vI x), none, none] [] M
  have hLd := hSP.1.1
  have hWd := hSP.1.2
  have hIb : IB (insOf d) := SP.I hSP
  refine R_aload_0 hC dX10_goRound_0 ?_
  refine R_aload_1 hC dX10_goRound_1 ?_
  refine R_callVv (as := [vR _]) hC dX10_goRound_2 mo_10_begin ml_10_36 (by decide) rfl rfl (c10_begin  hG hD hSP) rfl rfl hRm (by decide) (by decide) (Nat.le_of_ble_eq_true rfl) (fun Mc1 hq2 => ?_)
  have hSC3 := hq2.2.1
  refine R_aload_0 hC dX10_goRound_5 ?_
  refine R_iconst hC dX10_goRound_6 ⟨by decide, by decide⟩ ?_
  refine R_putI hC dX10_goRound_7 fl_10_39 (by decide) rfl (by decide) (by decide) (fi := 5) rfl ?_
  refine R_aload_0 hC dX10_goRound_10 ?_
  refine R_iconst hC dX10_goRound_11 ⟨by decide, by decide⟩ ?_
  refine R_putI hC dX10_goRound_12 fl_10_42 (by decide) rfl (by decide) (by decide) (fi := 6) rfl ?_
  refine R_iconst hC dX10_goRound_15 ⟨by decide, by decide⟩ ?_
  refine R_istore_3 hC dX10_goRound_16 rfl ?_
  have L17 : ∀ (mq : Nat) (k : Int) (b : Int → Int) (M1 : Mem), (0 ≤ k) → (k ≤ d 121) → (GR M1) → (Fr [25, 26, 27, 28, 29, 30, 31, 32, 33, 34, 42] [(24, 11), (24, 12), (24, 13), (41, 3), (41, 5), (41, 6)] M M1) → (SC M1 (insOf d)) → (M1 30 = b) → (∀ w, 0 ≤ w → w < d 122 → M1 42 (k * 6 + w) = gS (insOf d) b x k.toNat w) → (M1 41 5 = sm k.toNat (fun k => wnn (insOf d) b (lib (d 121) x k) (gS (insOf d) b x k.toNat))) → (M1 41 6 = bits (d 121).toNat (lackT (insOf d) b x k)) → (d 121 - k).toNat < mq → RZ G LY C (Zn G LY 57 C (RV (fun M' => Fr [25, 26, 27, 28, 29, 30, 31, 32, 33, 34, 42] [(24, 11), (24, 12), (24, 13), (41, 3), (41, 5), (41, 6)] M M' ∧ ∃ b, RK (d 122) (fun w => d (10 + w)) b ∧ M' 41 5 = sm (d 121).toNat (fun k => wnn (insOf d) b (lib (d 121) x k) (gS (insOf d) b x k.toNat)) ∧ M' 41 6 = bits (d 121).toNat (lackT (insOf d) b x (d 121))))) 0 0 57 17 [some (vR 41), some (vR 3), some (vI x), some (vI k), none] [] M1 := by
    intro mq
    induction mq with
    | zero =>
      intro k b M1 hk0 hk1 hg hF hSJ h30 hs h5 h6 hm
      exact absurd hm (Nat.not_lt_zero _)
    | succ mq ih17 =>
      intro k b M1 hk0 hk1 hg hF hSJ h30 hs h5 h6 hm17
      have q11 : M1 24 11 = d 121 := hSJ.1.1
      have hb : RK (iW (insOf d)) (iZ (insOf d)) b := h30 ▸ hSJ.2.2.2.2.2.2
      have hgb := gS_bd hIb hb hx0 (show x < d 121 by omega)
      have bs5 := sm_bd2 (f := fun k => wnn (insOf d) b (lib (d 121) x k) (gS (insOf d) b x k.toNat)) (q := 5) 162 hk0 (fun j a c => wnn_bd hIb hb (x := lib (d 121) x j) (by unfold lib; split <;> omega) (show lib (d 121) x j < d 121 by unfold lib; split <;> omega) (hgb j.toNat (show (j.toNat : Int) ≤ d 121 by omega))) (by decide) (by omega)
      rw [← h5] at bs5
      have b6 := bits_b10 (lackT (insOf d) b x k) hLd.1 (show d 121 < 10 by omega)
      rw [← h6] at b6
      refine R_iload_3 hC dX10_goRound_17 ?_
      refine R_aload_0 hC dX10_goRound_18 ?_
      refine R_getR hC dX10_goRound_19 fl_10_9 (by decide) rfl (by decide) (by decide) (fi := 0) rfl (r := 24) (gr_41_0 hg) ?_
      refine R_getI hC dX10_goRound_22 fl_10_45 (by decide) rfl (by decide) (by decide) (fi := 11) rfl ?_
      refine R_icmp_ge hC dX10_goRound_25 (tgt := 112) (by decide) (fun hb25 => ?_) (fun hb25 => ?_)
      · skip
        have ek : k = d 121 := by omega
        subst ek
        exact R_return hC dX10_goRound_112 rfl (ret_V ⟨hF, b, hb, h5, h6⟩)
      · skip
        refine R_iload_2 hC dX10_goRound_28 ?_
        refine R_iload_3 hC dX10_goRound_29 ?_
        refine R_iadd hC dX10_goRound_30 ⟨by omega, by omega⟩ ?_
        refine R_aload_0 hC dX10_goRound_31 ?_
        refine R_getR hC dX10_goRound_32 fl_10_9 (by decide) rfl (by decide) (by decide) (fi := 0) rfl (r := 24) (gr_41_0 hg) ?_
        refine R_getI hC dX10_goRound_35 fl_10_45 (by decide) rfl (by decide) (by decide) (fi := 11) rfl ?_
        have L58 : ∀ (y : Int), (y = lib (d 121) x k) → RZ G LY C (Zn G LY 57 C (RV (fun M' => Fr [25, 26, 27, 28, 29, 30, 31, 32, 33, 34, 42] [(24, 11), (24, 12), (24, 13), (41, 3), (41, 5), (41, 6)] M M' ∧ ∃ b, RK (d 122) (fun w => d (10 + w)) b ∧ M' 41 5 = sm (d 121).toNat (fun k => wnn (insOf d) b (lib (d 121) x k) (gS (insOf d) b x k.toNat)) ∧ M' 41 6 = bits (d 121).toNat (lackT (insOf d) b x (d 121))))) 0 0 57 58 [some (vR 41), some (vR 3), some (vI x), some (vI k), none] [vI y] M1 := by
          intro y hy
          refine R_istore_4 hC dX10_goRound_58 rfl ?_
          have hy0 : 0 ≤ y := by rw [hy]; unfold lib; split <;> omega
          have hy1 : y < d 121 := by rw [hy]; unfold lib; split <;> omega
          have bw := wnn_bd hIb hb hy0 (show y < iL (insOf d) from hy1) (hgb k.toNat (show (k.toNat : Int) ≤ d 121 by omega))
          refine R_aload_0 hC dX10_goRound_60 ?_
          refine R_dup hC dX10_goRound_61 rfl ?_
          refine R_getI hC dX10_goRound_62 fl_10_39 (by decide) rfl (by decide) (by decide) (fi := 5) rfl ?_
          refine R_aload_0 hC dX10_goRound_65 ?_
          refine R_iload_4 hC dX10_goRound_66 ?_
          refine R_iload_3 hC dX10_goRound_68 ?_
          refine R_callVp (as := [vI _, vI _]) hC dX10_goRound_69 mo_10_withdraw ml_10_48 (by decide) rfl rfl (c10_withdraw (s := (gS (insOf d) b x k.toNat)) (b := b) hg h30 hSJ hIb (by omega) hy1 (by omega) (by omega) (fun w a c => hs w a c) (hgb k.toNat (show (k.toNat : Int) ≤ d 121 by omega))) rfl rfl hRm (by decide) (by decide) (Nat.le_of_ble_eq_true rfl) (fun v6 Mc4 hq5 => ?_)
          have hSC7 := SC.fr hSJ hq5.1 (by decide) (by decide)
          have q72 := hq5.2.1
          refine R_iadd hC dX10_goRound_72 ⟨by omega, by omega⟩ ?_
          refine R_putI hC dX10_goRound_73 fl_10_39 (by decide) rfl (by decide) (by decide) (fi := 5) rfl ?_
          refine R_aload_0 hC dX10_goRound_76 ?_
          refine R_getIE hC dX10_goRound_77 fl_10_52 (by decide) rfl (by decide) (by decide) (fi := 3) rfl (uM_k (by decide)) ?_
          refine R_aload_0 hC dX10_goRound_80 ?_
          have hG8 : GR (uM Mc4 41 5 ((M1 41 5) + v6)) := (GR.uF (GR.fr hg hq5.1 (by decide +kernel)) (by decide +kernel) (by decide))
          refine R_getR hC dX10_goRound_81 fl_10_9 (by decide) rfl (by decide) (by decide) (fi := 0) rfl (r := 24) (gr_41_0 hG8) ?_
          refine R_getR hC dX10_goRound_84 fl_10_55 (by decide) rfl (by decide) (by decide) (fi := 2) rfl (r := 27) (gr_24_2 hG8) ?_
          refine R_iload_4 hC dX10_goRound_87 ?_
          refine R_ialoadE hC dX10_goRound_89 (by decide) rfl (by omega) (by omega) (uM_h (by decide)) ?_
          have q27 : (Mc4 27 y) = iN (insOf d) y := ((SC.fr hSJ hq5.1 (by decide) (by decide)).2.1 y hy0 hy1).1
          have q3 : (Mc4 41 3) = wdw (insOf d) b y (gS (insOf d) b x k.toNat) := hq5.2.2.1
          rw [q27, q3]
          refine R_icmp_ge hC dX10_goRound_90 (tgt := 106) (by decide) (fun hb90 => ?_) (fun hb90 => ?_)
          · skip
            have hb90n : ¬ wdw (insOf d) b (lib (iL (insOf d)) x k) (gS (insOf d) b x k.toNat) < iN (insOf d) (lib (iL (insOf d)) x k) := fun q => absurd (hy ▸ q) (Int.not_lt.mpr hb90)
            refine R_iinc_3 hC dX10_goRound_106 rfl ⟨by omega, by omega⟩ ?_
            refine R_goto hC dX10_goRound_109 (tgt := 17) (by decide) ?_
            have qw := hq5.2.2.2.1
            have qv := hq5.2.1
            rw [hy] at qw qv
            have hFb : Fr [25, 26, 27, 28, 29, 30, 31, 32, 33, 34, 42] [(24, 11), (24, 12), (24, 13), (41, 3), (41, 5), (41, 6)] M (uM Mc4 41 5 ((M1 41 5) + v6)) := by first | exact Fr.uB (Fr.tt hF (hq5.1.mo (by decide) (by decide))) (by decide) | exact Fr.uB (Fr.uB (Fr.tt hF (hq5.1.mo (by decide) (by decide))) (by decide)) (by decide)
            have hr9 : (uM Mc4 41 5 ((M1 41 5) + v6)) 30 = b := ((uM_ne (by decide)).trans ((hq5.1.row (by decide) (by decide)).trans h30))
            have h30b : (uM Mc4 41 5 ((M1 41 5) + v6)) 30 = b := hr9
            have hsb2 : ∀ w, 0 ≤ w → w < d 122 → (uM Mc4 41 5 ((M1 41 5) + v6)) 42 ((k + 1) * 6 + w) = gS (insOf d) b x (k + 1).toNat w := fun w a c => by
              rw [gS_s hk0 rfl, show (k + 1) * 6 + w = k * 6 + 6 + w by omega]
              first
                | exact (uM_h (by decide)).trans (qw w a c)
                | exact (uM_h (by decide)).trans ((uM_h (by decide)).trans (qw w a c))
            have h5b : (uM Mc4 41 5 ((M1 41 5) + v6)) 41 5 = sm (k + 1).toNat (fun k => wnn (insOf d) b (lib (d 121) x k) (gS (insOf d) b x k.toNat)) := by
              rw [sm_to hk0 rfl, ← h5]
              first
                | exact uM_same.trans (by rw [qv])
                | exact (uM_k (by decide)).trans (uM_same.trans (by rw [qv]))
            have h6b : (uM Mc4 41 5 ((M1 41 5) + v6)) 41 6 = bits (d 121).toNat (lackT (insOf d) b x (k + 1)) := by
              first
                | (rw [uM_same, q6e, h6, hy]; exact lackT_t hx0 (show x < iL (insOf d) by exact hx1) hk0 (show k < iL (insOf d) by show k < d 121; omega) hlk)
                | (rw [uM_k (by decide), hq5.1 41 6 (by decide) (by decide), h6]; exact lackT_f (fun q => hb90n q))
            refine R_weak (subL_c (subL_c (subL_c (subL_c (subL_d subL_n))))) ?_
            exact ih17 _ b _ (by omega) (by omega) hG8 hFb (SC.u hSC7 (by decide)) h30b hsb2 h5b h6b (by omega)
          · skip
            have hlk : wdw (insOf d) b (lib (iL (insOf d)) x k) (gS (insOf d) b x k.toNat) < iN (insOf d) (lib (iL (insOf d)) x k) := hy ▸ hb90
            have q6e := hq5.1 41 6 (by decide) (by decide)
            have pwy := pw_bd hy0 (show y < 10 by omega)
            refine R_aload_0 hC dX10_goRound_93 ?_
            refine R_dup hC dX10_goRound_94 rfl ?_
            refine R_getIE hC dX10_goRound_95 fl_10_42 (by decide) rfl (by decide) (by decide) (fi := 6) rfl (uM_k (by decide)) ?_
            refine R_iconst hC dX10_goRound_98 ⟨by decide, by decide⟩ ?_
            refine R_iload_4 hC dX10_goRound_99 ?_
            refine R_shl1 hC dX10_goRound_101 (by omega) (by omega) ?_
            refine R_ior hC dX10_goRound_102 (by omega) (by omega) ?_
            refine R_putI hC dX10_goRound_103 fl_10_42 (by decide) rfl (by decide) (by decide) (fi := 6) rfl ?_
            refine R_iinc_3 hC dX10_goRound_106 rfl ⟨by omega, by omega⟩ ?_
            refine R_goto hC dX10_goRound_109 (tgt := 17) (by decide) ?_
            have qw := hq5.2.2.2.1
            have qv := hq5.2.1
            rw [hy] at qw qv
            have hFb : Fr [25, 26, 27, 28, 29, 30, 31, 32, 33, 34, 42] [(24, 11), (24, 12), (24, 13), (41, 3), (41, 5), (41, 6)] M (uM (uM Mc4 41 5 ((M1 41 5) + v6)) 41 6 ((((Mc4 41 6).toNat ||| ((2 : Int) ^ y.toNat).toNat : Nat) : Int))) := by first | exact Fr.uB (Fr.tt hF (hq5.1.mo (by decide) (by decide))) (by decide) | exact Fr.uB (Fr.uB (Fr.tt hF (hq5.1.mo (by decide) (by decide))) (by decide)) (by decide)
            have hr10 : (uM (uM Mc4 41 5 ((M1 41 5) + v6)) 41 6 ((((Mc4 41 6).toNat ||| ((2 : Int) ^ y.toNat).toNat : Nat) : Int))) 30 = b := ((uM_ne (by decide)).trans ((uM_ne (by decide)).trans ((hq5.1.row (by decide) (by decide)).trans h30)))
            have h30b : (uM (uM Mc4 41 5 ((M1 41 5) + v6)) 41 6 ((((Mc4 41 6).toNat ||| ((2 : Int) ^ y.toNat).toNat : Nat) : Int))) 30 = b := hr10
            have hsb2 : ∀ w, 0 ≤ w → w < d 122 → (uM (uM Mc4 41 5 ((M1 41 5) + v6)) 41 6 ((((Mc4 41 6).toNat ||| ((2 : Int) ^ y.toNat).toNat : Nat) : Int))) 42 ((k + 1) * 6 + w) = gS (insOf d) b x (k + 1).toNat w := fun w a c => by
              rw [gS_s hk0 rfl, show (k + 1) * 6 + w = k * 6 + 6 + w by omega]
              first
                | exact (uM_h (by decide)).trans (qw w a c)
                | exact (uM_h (by decide)).trans ((uM_h (by decide)).trans (qw w a c))
            have h5b : (uM (uM Mc4 41 5 ((M1 41 5) + v6)) 41 6 ((((Mc4 41 6).toNat ||| ((2 : Int) ^ y.toNat).toNat : Nat) : Int))) 41 5 = sm (k + 1).toNat (fun k => wnn (insOf d) b (lib (d 121) x k) (gS (insOf d) b x k.toNat)) := by
              rw [sm_to hk0 rfl, ← h5]
              first
                | exact uM_same.trans (by rw [qv])
                | exact (uM_k (by decide)).trans (uM_same.trans (by rw [qv]))
            have h6b : (uM (uM Mc4 41 5 ((M1 41 5) + v6)) 41 6 ((((Mc4 41 6).toNat ||| ((2 : Int) ^ y.toNat).toNat : Nat) : Int))) 41 6 = bits (d 121).toNat (lackT (insOf d) b x (k + 1)) := by
              first
                | (rw [uM_same, q6e, h6, hy]; exact lackT_t hx0 (show x < iL (insOf d) by exact hx1) hk0 (show k < iL (insOf d) by show k < d 121; omega) hlk)
                | (rw [uM_k (by decide), hq5.1 41 6 (by decide) (by decide), h6]; exact lackT_f (fun q => hb90n q))
            refine R_weak (subL_c (subL_c (subL_c (subL_c (subL_d subL_n))))) ?_
            have hG11 : GR (uM (uM Mc4 41 5 ((M1 41 5) + v6)) 41 6 ((((Mc4 41 6).toNat ||| ((2 : Int) ^ y.toNat).toNat : Nat) : Int))) := (GR.uF hG8 (by decide +kernel) (by decide))
            exact ih17 _ b _ (by omega) (by omega) hG11 hFb (SC.u (SC.u hSC7 (by decide)) (by decide)) h30b hsb2 h5b h6b (by omega)
        refine R_icmp_ge hC dX10_goRound_38 (tgt := 47) (by decide) (fun hb38 => ?_) (fun hb38 => ?_)
        · skip
          refine R_iload_2 hC dX10_goRound_47 ?_
          refine R_iload_3 hC dX10_goRound_48 ?_
          refine R_iadd hC dX10_goRound_49 ⟨by omega, by omega⟩ ?_
          refine R_aload_0 hC dX10_goRound_50 ?_
          refine R_getR hC dX10_goRound_51 fl_10_9 (by decide) rfl (by decide) (by decide) (fi := 0) rfl (r := 24) (gr_41_0 hg) ?_
          refine R_getI hC dX10_goRound_54 fl_10_45 (by decide) rfl (by decide) (by decide) (fi := 11) rfl ?_
          refine R_isub hC dX10_goRound_57 ⟨by omega, by omega⟩ ?_
          exact L58 _ (by unfold lib; first | (rw [if_pos (by omega)]) | (rw [if_neg (by omega), q11]) | (rw [if_neg (by omega)]; omega))
        · skip
          refine R_iload_2 hC dX10_goRound_41 ?_
          refine R_iload_3 hC dX10_goRound_42 ?_
          refine R_iadd hC dX10_goRound_43 ⟨by omega, by omega⟩ ?_
          refine R_goto hC dX10_goRound_44 (tgt := 58) (by decide) ?_
          exact L58 _ (by unfold lib; first | (rw [if_pos (by omega)]) | (rw [if_neg (by omega), q11]) | (rw [if_neg (by omega)]; omega))
  have hG12 : GR (uM (uM Mc1 41 5 0) 41 6 0) := (GR.uF (GR.uF (GR.fr hG hq2.1 (by decide +kernel)) (by decide +kernel) (by decide)) (by decide +kernel) (by decide))
  exact L17 _ _ ((uM (uM Mc1 41 5 0) 41 6 0) 30) _ (by omega) (by omega) hG12 (Fr.uB (Fr.uB (hq2.1.mo (by decide) (by decide)) (by decide)) (by decide)) (SC.u (SC.u hSC3 (by decide)) (by decide)) rfl (fun w a c => by rw [uM_h (by decide), uM_h (by decide)]; exact hq2.2.2 w a c) ((uM_k (by decide)).trans uM_same) (uM_same.trans (bits_none (fun z _ _ ⟨j, j0, j1, _⟩ => by omega)).symm) (Nat.lt_succ_self _)
