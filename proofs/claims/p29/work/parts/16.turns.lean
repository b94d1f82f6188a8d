/-! BY TURNS: a library by itself -/
theorem sm_two {f : Int → Int} {i j : Int} : ∀ n : Nat, (∀ k : Int, 0 ≤ k → k < n → 0 ≤ f k) → 0 ≤ i → i < j → j < n → f i + f j ≤ sm n f
  | 0, _, _, _, _ => by omega
  | n + 1, h, h0, h1, h2 => by
    rw [sm]
    have hn := h n (by omega) (by omega)
    by_cases e : j = n
    · subst e
      have one : ∀ m : Nat, (m : Int) ≤ (n : Int) → i < m → f i ≤ sm m f := by
        intro m
        induction m with
        | zero => intro _ q; omega
        | succ m ih =>
          intro a b
          rw [sm]
          have hm := h m (by omega) (by omega)
          by_cases e : i = m
          · subst e
            have := (sm_le (f := fun _ => 0) (g := f) m (fun k k0 k1 => h k k0 (by omega)))
            rw [sm_zero m (fun _ _ _ => rfl)] at this
            omega
          · have := ih (by omega) (by omega)
            omega
      have := one n (by omega) h1
      omega
    · have := sm_two n (fun k k0 k1 => h k k0 (by omega)) h0 h1 (by omega)
      omega
theorem sm_one {f : Int → Int} {i : Int} : ∀ n : Nat, 0 ≤ i → i < n → (∀ k : Int, 0 ≤ k → k < n → k ≠ i → f k = 0) → sm n f = f i
  | 0, _, _, _ => by omega
  | n + 1, h0, h1, h => by
    rw [sm]
    by_cases e : i = n
    · subst e
      rw [sm_zero n (fun k k0 k1 => h k k0 (by omega) (by omega))]
      omega
    · rw [sm_one n h0 (by omega) (fun k k0 k1 => h k k0 (by omega)), h n (by omega) (by omega) (fun q => e q.symm)]
      omega
theorem RK.inj {n : Int} {z b : Int → Int} (h : RK n z b) {i j : Int} (i0 : 0 ≤ i) (ij : i < j) (j1 : j < n) : b i ≠ b j := by
  intro e
  have hb := h.1 i i0 (by omega)
  have h1 := h.2.2.1 (fun w => if w = b i then 1 else 0)
  have h2 := sm_two (f := fun k => if b k = b i then (1 : Int) else 0) n.toNat (fun k _ _ => by split <;> omega) i0 ij (by omega)
  have h3 : sm n.toNat (fun w => if w = b i then (1 : Int) else 0) = 1 := by
    rw [sm_one (i := b i) n.toNat hb.1 (by omega) (fun k _ _ hk => if_neg hk)]
    exact if_pos rfl
  rw [h3] at h1
  rw [h1] at h2
  simp only [if_pos e.symm, if_pos] at h2
  omega
theorem RK.sur {n : Int} {z b : Int → Int} (h : RK n z b) {w : Int} (w0 : 0 ≤ w) (w1 : w < n) : ∃ i, 0 ≤ i ∧ i < n ∧ b i = w := by
  refine Classical.byContradiction (fun q => ?_)
  have h1 := h.2.2.1 (fun v => if v = w then 1 else 0)
  rw [sm_one (i := w) n.toNat w0 (by omega) (fun k _ _ hk => if_neg hk), if_pos rfl, sm_zero n.toNat (fun k k0 k1 => if_neg (fun e => q ⟨k, k0, by omega, e⟩))] at h1
  cases h1
/-- what is left to withdraw and the SPACE won, behind the first works in order -/
def wl (I : Ins) (b : Int → Int) (x : Int) (s : Int → Int) : Nat → Int × Int
  | 0 => (iM I x, 0)
  | i + 1 => ((wl I b x s i).1 - min (wl I b x s i).1 (min (s (b i)) (iO I x (b i))), (wl I b x s i).2 + min (wl I b x s i).1 (min (s (b i)) (iO I x (b i))) * iZ I (b i))
def mny (I : Ins) (b : Int → Int) (x : Int) (s : Int → Int) (i : Int) : Int := min (wl I b x s i.toNat).1 (min (s (b i)) (iO I x (b i)))
theorem wl_s {I : Ins} {b : Int → Int} {x : Int} {s : Int → Int} {i j : Int} (h : 0 ≤ i) (hj : j = i + 1) : wl I b x s j.toNat = ((wl I b x s i.toNat).1 - mny I b x s i, (wl I b x s i.toNat).2 + mny I b x s i * iZ I (b i)) := by
  subst hj
  unfold mny
  rw [show (i + 1).toNat = i.toNat + 1 by omega, wl, Int.toNat_of_nonneg h]
/-- the spare that it leaves -/
def sN (I : Ins) (b : Int → Int) (x : Int) (s : Int → Int) (w : Int) : Int := s w - sm (iW I).toNat (fun i => if b i = w then mny I b x s i else 0)
theorem sN_at {I : Ins} {b : Int → Int} (h : RK (iW I) (iZ I) b) {x : Int} {s : Int → Int} {i : Int} (i0 : 0 ≤ i) (i1 : i < iW I) : sN I b x s (b i) = s (b i) - mny I b x s i := by
  unfold sN
  rw [sm_one (i := i) _ i0 (by omega) (fun k k0 k1 hk => if_neg (fun e => by
    by_cases q : k < i
    · exact h.inj k0 q i1 e
    · exact h.inj i0 (show i < k by omega) (by omega) e.symm)), if_pos rfl]
theorem wl_bd {I : Ins} (hI : IB I) {b : Int → Int} (hb : RK (iW I) (iZ I) b) {x : Int} (x0 : 0 ≤ x) (x1 : x < iL I) {s : Int → Int} (hs : ∀ w, 0 ≤ w → w < iW I → 0 ≤ s w ∧ s w ≤ 1000) : ∀ i : Nat, (i : Int) ≤ iW I → (0 ≤ (wl I b x s i).1 ∧ (wl I b x s i).1 ≤ iM I x) ∧ 0 ≤ (wl I b x s i).2 ∧ (wl I b x s i).2 ≤ i * 27
  | 0, _ => by
    have := hI.2.2.2.2 x x0 x1
    show (0 ≤ iM I x ∧ iM I x ≤ iM I x) ∧ 0 ≤ (0 : Int) ∧ (0 : Int) ≤ ((0 : Nat) : Int) * 27
    omega
  | i + 1, h => by
    have h1 := wl_bd hI hb x0 x1 hs i (by omega)
    have hbi := hb.1 i (by omega) (by omega)
    have h2 := hs (b i) hbi.1 hbi.2
    have h3 := hI.2.2.1 x (b i) x0 x1 hbi.1 hbi.2
    have h4 := (hI.2.2.2.1 (b i) hbi.1 hbi.2).2
    have h5 : 0 ≤ min (wl I b x s i).1 (min (s (b i)) (iO I x (b i))) ∧ min (wl I b x s i).1 (min (s (b i)) (iO I x (b i))) ≤ 3 := by omega
    have h6 := mul_bd h5.1 h5.2 (show 0 ≤ iZ I (b i) by omega) h4.2
    show (0 ≤ (wl I b x s i).1 - min (wl I b x s i).1 (min (s (b i)) (iO I x (b i))) ∧ (wl I b x s i).1 - min (wl I b x s i).1 (min (s (b i)) (iO I x (b i))) ≤ iM I x) ∧ 0 ≤ (wl I b x s i).2 + min (wl I b x s i).1 (min (s (b i)) (iO I x (b i))) * iZ I (b i) ∧ (wl I b x s i).2 + min (wl I b x s i).1 (min (s (b i)) (iO I x (b i))) * iZ I (b i) ≤ ((i + 1 : Nat) : Int) * 27
    omega
theorem mny_bd {I : Ins} (hI : IB I) {b : Int → Int} (hb : RK (iW I) (iZ I) b) {x : Int} (x0 : 0 ≤ x) (x1 : x < iL I) {s : Int → Int} (hs : ∀ w, 0 ≤ w → w < iW I → 0 ≤ s w ∧ s w ≤ 1000) {i : Int} (i0 : 0 ≤ i) (i1 : i < iW I) : 0 ≤ mny I b x s i ∧ mny I b x s i ≤ 3 ∧ mny I b x s i ≤ s (b i) ∧ mny I b x s i ≤ (wl I b x s i.toNat).1 := by
  have h1 := wl_bd hI hb x0 x1 hs i.toNat (by omega)
  have hbi := hb.1 i i0 i1
  have h2 := hs (b i) hbi.1 hbi.2
  have h3 := hI.2.2.1 x (b i) x0 x1 hbi.1 hbi.2
  unfold mny
  omega
theorem sN_bd {I : Ins} (hI : IB I) {b : Int → Int} (hb : RK (iW I) (iZ I) b) {x : Int} (x0 : 0 ≤ x) (x1 : x < iL I) {s : Int → Int} (hs : ∀ w, 0 ≤ w → w < iW I → 0 ≤ s w ∧ s w ≤ 1000) : ∀ w, 0 ≤ w → w < iW I → 0 ≤ sN I b x s w ∧ sN I b x s w ≤ 1000 := by
  intro w w0 w1
  obtain ⟨i, i0, i1, rfl⟩ := hb.sur w0 w1
  rw [sN_at hb i0 i1]
  have := mny_bd hI hb x0 x1 hs i0 i1
  have := hs (b i) w0 w1
  omega
def wdw (I : Ins) (b : Int → Int) (x : Int) (s : Int → Int) : Int := iM I x - (wl I b x s (iW I).toNat).1
def wnn (I : Ins) (b : Int → Int) (x : Int) (s : Int → Int) : Int := (wl I b x s (iW I).toNat).2

theorem dX10_withdraw_0 : decode cX10_withdraw 0 = .ok (.iload_n 2, 1) := by decide +kernel
theorem dX10_withdraw_1 : decode cX10_withdraw 1 = .ok (.bipush 6, 2) := by decide +kernel
theorem dX10_withdraw_3 : decode cX10_withdraw 3 = .ok (.imul, 1) := by decide +kernel
theorem dX10_withdraw_4 : decode cX10_withdraw 4 = .ok (.istore_n 3, 1) := by decide +kernel
theorem dX10_withdraw_5 : decode cX10_withdraw 5 = .ok (.iconst 0, 1) := by decide +kernel
theorem dX10_withdraw_6 : decode cX10_withdraw 6 = .ok (.istore 4, 2) := by decide +kernel
theorem dX10_withdraw_8 : decode cX10_withdraw 8 = .ok (.aload_n 0, 1) := by decide +kernel
theorem dX10_withdraw_9 : decode cX10_withdraw 9 = .ok (.getfield 9, 3) := by decide +kernel
theorem dX10_withdraw_12 : decode cX10_withdraw 12 = .ok (.getfield 74, 3) := by decide +kernel
theorem dX10_withdraw_15 : decode cX10_withdraw 15 = .ok (.iload_n 1, 1) := by decide +kernel
theorem dX10_withdraw_16 : decode cX10_withdraw 16 = .ok (.iaload, 1) := by decide +kernel
theorem dX10_withdraw_17 : decode cX10_withdraw 17 = .ok (.istore 5, 2) := by decide +kernel
theorem dX10_withdraw_19 : decode cX10_withdraw 19 = .ok (.iconst 0, 1) := by decide +kernel
theorem dX10_withdraw_20 : decode cX10_withdraw 20 = .ok (.istore 6, 2) := by decide +kernel
theorem dX10_withdraw_22 : decode cX10_withdraw 22 = .ok (.iload 6, 2) := by decide +kernel
theorem dX10_withdraw_24 : decode cX10_withdraw 24 = .ok (.aload_n 0, 1) := by decide +kernel
theorem dX10_withdraw_25 : decode cX10_withdraw 25 = .ok (.getfield 9, 3) := by decide +kernel
theorem dX10_withdraw_28 : decode cX10_withdraw 28 = .ok (.getfield 31, 3) := by decide +kernel
theorem dX10_withdraw_31 : decode cX10_withdraw 31 = .ok (.if_icmp .ge 100, 3) := by decide +kernel
theorem dX10_withdraw_34 : decode cX10_withdraw 34 = .ok (.aload_n 0, 1) := by decide +kernel
theorem dX10_withdraw_35 : decode cX10_withdraw 35 = .ok (.getfield 9, 3) := by decide +kernel
theorem dX10_withdraw_38 : decode cX10_withdraw 38 = .ok (.getfield 77, 3) := by decide +kernel
theorem dX10_withdraw_41 : decode cX10_withdraw 41 = .ok (.iload 6, 2) := by decide +kernel
theorem dX10_withdraw_43 : decode cX10_withdraw 43 = .ok (.iaload, 1) := by decide +kernel
theorem dX10_withdraw_44 : decode cX10_withdraw 44 = .ok (.istore 7, 2) := by decide +kernel
theorem dX10_withdraw_46 : decode cX10_withdraw 46 = .ok (.aload_n 0, 1) := by decide +kernel
theorem dX10_withdraw_47 : decode cX10_withdraw 47 = .ok (.getfield 15, 3) := by decide +kernel
theorem dX10_withdraw_50 : decode cX10_withdraw 50 = .ok (.iload_n 3, 1) := by decide +kernel
theorem dX10_withdraw_51 : decode cX10_withdraw 51 = .ok (.iload 7, 2) := by decide +kernel
theorem dX10_withdraw_53 : decode cX10_withdraw 53 = .ok (.iadd, 1) := by decide +kernel
theorem dX10_withdraw_54 : decode cX10_withdraw 54 = .ok (.iaload, 1) := by decide +kernel
theorem dX10_withdraw_55 : decode cX10_withdraw 55 = .ok (.istore 8, 2) := by decide +kernel
theorem dX10_withdraw_57 : decode cX10_withdraw 57 = .ok (.iload 5, 2) := by decide +kernel
theorem dX10_withdraw_59 : decode cX10_withdraw 59 = .ok (.iload 8, 2) := by decide +kernel
theorem dX10_withdraw_61 : decode cX10_withdraw 61 = .ok (.aload_n 0, 1) := by decide +kernel
theorem dX10_withdraw_62 : decode cX10_withdraw 62 = .ok (.getfield 9, 3) := by decide +kernel
theorem dX10_withdraw_65 : decode cX10_withdraw 65 = .ok (.getfield 80, 3) := by decide +kernel
theorem dX10_withdraw_68 : decode cX10_withdraw 68 = .ok (.iload_n 1, 1) := by decide +kernel
theorem dX10_withdraw_69 : decode cX10_withdraw 69 = .ok (.iload 7, 2) := by decide +kernel
theorem dX10_withdraw_71 : decode cX10_withdraw 71 = .ok (.invokestatic 83, 3) := by decide +kernel
theorem dX10_withdraw_74 : decode cX10_withdraw 74 = .ok (.iaload, 1) := by decide +kernel
theorem dX10_withdraw_75 : decode cX10_withdraw 75 = .ok (.invokestatic 86, 3) := by decide +kernel
theorem dX10_withdraw_78 : decode cX10_withdraw 78 = .ok (.invokestatic 86, 3) := by decide +kernel
theorem dX10_withdraw_81 : decode cX10_withdraw 81 = .ok (.istore 9, 2) := by decide +kernel
theorem dX10_withdraw_83 : decode cX10_withdraw 83 = .ok (.aload_n 0, 1) := by decide +kernel
theorem dX10_withdraw_84 : decode cX10_withdraw 84 = .ok (.getfield 15, 3) := by decide +kernel
theorem dX10_withdraw_87 : decode cX10_withdraw 87 = .ok (.iload_n 3, 1) := by decide +kernel
theorem dX10_withdraw_88 : decode cX10_withdraw 88 = .ok (.bipush 6, 2) := by decide +kernel
theorem dX10_withdraw_90 : decode cX10_withdraw 90 = .ok (.iadd, 1) := by decide +kernel
theorem dX10_withdraw_91 : decode cX10_withdraw 91 = .ok (.iload 7, 2) := by decide +kernel
theorem dX10_withdraw_93 : decode cX10_withdraw 93 = .ok (.iadd, 1) := by decide +kernel
theorem dX10_withdraw_94 : decode cX10_withdraw 94 = .ok (.iload 8, 2) := by decide +kernel
theorem dX10_withdraw_96 : decode cX10_withdraw 96 = .ok (.iload 9, 2) := by decide +kernel
theorem dX10_withdraw_98 : decode cX10_withdraw 98 = .ok (.isub, 1) := by decide +kernel
theorem dX10_withdraw_99 : decode cX10_withdraw 99 = .ok (.iastore, 1) := by decide +kernel
theorem dX10_withdraw_100 : decode cX10_withdraw 100 = .ok (.iload 5, 2) := by decide +kernel
theorem dX10_withdraw_102 : decode cX10_withdraw 102 = .ok (.iload 9, 2) := by decide +kernel
theorem dX10_withdraw_104 : decode cX10_withdraw 104 = .ok (.isub, 1) := by decide +kernel
theorem dX10_withdraw_105 : decode cX10_withdraw 105 = .ok (.istore 5, 2) := by decide +kernel
theorem dX10_withdraw_107 : decode cX10_withdraw 107 = .ok (.iload 4, 2) := by decide +kernel
theorem dX10_withdraw_109 : decode cX10_withdraw 109 = .ok (.iload 9, 2) := by decide +kernel
theorem dX10_withdraw_111 : decode cX10_withdraw 111 = .ok (.aload_n 0, 1) := by decide +kernel
theorem dX10_withdraw_112 : decode cX10_withdraw 112 = .ok (.getfield 9, 3) := by decide +kernel
theorem dX10_withdraw_115 : decode cX10_withdraw 115 = .ok (.getfield 91, 3) := by decide +kernel
theorem dX10_withdraw_118 : decode cX10_withdraw 118 = .ok (.iload 7, 2) := by decide +kernel
theorem dX10_withdraw_120 : decode cX10_withdraw 120 = .ok (.iaload, 1) := by decide +kernel
theorem dX10_withdraw_121 : decode cX10_withdraw 121 = .ok (.imul, 1) := by decide +kernel
theorem dX10_withdraw_122 : decode cX10_withdraw 122 = .ok (.iadd, 1) := by decide +kernel
theorem dX10_withdraw_123 : decode cX10_withdraw 123 = .ok (.istore 4, 2) := by decide +kernel
theorem dX10_withdraw_125 : decode cX10_withdraw 125 = .ok (.iinc 6 1, 3) := by decide +kernel
theorem dX10_withdraw_128 : decode cX10_withdraw 128 = .ok (.goto (-106), 3) := by decide +kernel
theorem dX10_withdraw_131 : decode cX10_withdraw 131 = .ok (.aload_n 0, 1) := by decide +kernel
theorem dX10_withdraw_132 : decode cX10_withdraw 132 = .ok (.aload_n 0, 1) := by decide +kernel
theorem dX10_withdraw_133 : decode cX10_withdraw 133 = .ok (.getfield 9, 3) := by decide +kernel
theorem dX10_withdraw_136 : decode cX10_withdraw 136 = .ok (.getfield 74, 3) := by decide +kernel
theorem dX10_withdraw_139 : decode cX10_withdraw 139 = .ok (.iload_n 1, 1) := by decide +kernel
theorem dX10_withdraw_140 : decode cX10_withdraw 140 = .ok (.iaload, 1) := by decide +kernel
theorem dX10_withdraw_141 : decode cX10_withdraw 141 = .ok (.iload 5, 2) := by decide +kernel
theorem dX10_withdraw_143 : decode cX10_withdraw 143 = .ok (.isub, 1) := by decide +kernel
theorem dX10_withdraw_144 : decode cX10_withdraw 144 = .ok (.putfield 52, 3) := by decide +kernel
theorem dX10_withdraw_147 : decode cX10_withdraw 147 = .ok (.iload 4, 2) := by decide +kernel
theorem dX10_withdraw_149 : decode cX10_withdraw 149 = .ok (.ireturn, 1) := by decide +kernel
set_option maxHeartbeats 1000000 in
theorem c10_withdraw {G : Gl} {l : Launch}  {M : Mem} {I : Ins} {x u : Int} {s b : Int → Int} (hG : GR M) (h30 : M 30 = b) (hI : SC M I) (hIb : IB I) (hx0 : 0 ≤ x) (hx1 : x < iL I) (hu0 : 0 ≤ u) (hu1 : u < 5) (hs : ∀ w, 0 ≤ w → w < iW I → M 42 (u * 6 + w) = s w) (hsb : ∀ w, 0 ≤ w → w < iW I → 0 ≤ s w ∧ s w ≤ 1000) : Ct G LY 57 l 1 m10_withdraw [vR 41, vI x, vI u] M (RP (fun v M' => Fr [42] [(41, 3)] M M' ∧ v = wnn I b x s ∧ M' 41 3 = wdw I b x s ∧ (∀ w, 0 ≤ w → w < iW I → M' 42 (u * 6 + 6 + w) = sN I b x s w) ∧ ∀ k, k < u * 6 + 6 ∨ u * 6 + 12 ≤ k → M' 42 k = M 42 k)) := by
  refine R_start (by decide +kernel) (Nat.le_of_ble_eq_true rfl) (fun C hC hRm hlau => ?_)
  show RZ G LY C (Zn G LY 57 C (RP (fun v M' => Fr [42] [(41, 3)] M M' ∧ v = wnn I b x s ∧ M' 41 3 = wdw I b x s ∧ (∀ w, 0 ≤ w → w < iW I → M' 42 (u * 6 + 6 + w) = sN I b x s w) ∧ ∀ k, k < u * 6 + 6 ∨ u * 6 + 12 ≤ k → M' 42 k = M 42 k))) 0 0 57 0 [some (vR 41), some (vI x), some (vI u), none, none, none, none, none, none, none] [] M
  have hLb := hIb.1
  have hWb := hIb.2.1
  have h11 := hI.1.1
  have h12 := hI.1.2.1
  have h13 := hI.1.2.2
  have hpw := hIb.pw
  have hb : RK (iW I) (iZ I) b := h30 ▸ hI.2.2.2.2.2.2
  have q28 := (hI.2.1 x hx0 hx1).2
  have bm := hIb.2.2.2.2 x hx0 hx1
  refine R_iload_2 hC dX10_withdraw_0 ?_
  refine R_bipush hC dX10_withdraw_1 (by decide +kernel) ⟨by decide, by decide⟩ ?_
  refine R_imul hC dX10_withdraw_3 ⟨by omega, by omega⟩ ?_
  refine R_istore_3 hC dX10_withdraw_4 rfl ?_
  refine R_iconst hC dX10_withdraw_5 ⟨by decide, by decide⟩ ?_
  refine R_istore_4 hC dX10_withdraw_6 rfl ?_
  refine R_aload_0 hC dX10_withdraw_8 ?_
  refine R_getR hC dX10_withdraw_9 fl_10_9 (by decide) rfl (by decide) (by decide) (fi := 0) rfl (r := 24) (gr_41_0 hG) ?_
  refine R_getR hC dX10_withdraw_12 fl_10_74 (by decide) rfl (by decide) (by decide) (fi := 3) rfl (r := 28) (gr_24_3 hG) ?_
  refine R_iload_1 hC dX10_withdraw_15 ?_
  refine R_iaload hC dX10_withdraw_16 (by decide) rfl (by omega) (by omega) ?_
  refine R_istore_5 hC dX10_withdraw_17 rfl ?_
  refine R_iconst hC dX10_withdraw_19 ⟨by decide, by decide⟩ ?_
  refine R_istore_6 hC dX10_withdraw_20 rfl ?_
  have L22 : ∀ (mq : Nat) (won : Int) (lef : Int) (i : Int) (M1 : Mem), (0 ≤ i) → (i ≤ iW I) → (GR M1) → (Fr [42] [] M M1) → ((lef, won) = wl I b x s i.toNat) → (∀ j, 0 ≤ j → j < i → M1 42 (u * 6 + 6 + b j) = s (b j) - mny I b x s j) → (∀ k, k < u * 6 + 6 ∨ u * 6 + 12 ≤ k → M1 42 k = M 42 k) → (iW I - i).toNat < mq → RZ G LY C (Zn G LY 57 C (RP (fun v M' => Fr [42] [(41, 3)] M M' ∧ v = wnn I b x s ∧ M' 41 3 = wdw I b x s ∧ (∀ w, 0 ≤ w → w < iW I → M' 42 (u * 6 + 6 + w) = sN I b x s w) ∧ ∀ k, k < u * 6 + 6 ∨ u * 6 + 12 ≤ k → M' 42 k = M 42 k))) 0 0 57 22 [some (vR 41), some (vI x), some (vI u), some (vI (u * 6)), some (vI won), some (vI lef), some (vI i), none, none, none] [] M1 := by
    intro mq
    induction mq with
    | zero =>
      intro won lef i M1 hi0 hi1 hg hF hw hN hO hm
      exact absurd hm (Nat.not_lt_zero _)
    | succ mq ih22 =>
      intro won lef i M1 hi0 hi1 hg hF hw hN hO hm22
      have q12 : M1 24 12 = iW I := (hF.at (by decide)).trans h12
      have bwl := wl_bd hIb hb hx0 hx1 hsb i.toNat (by omega)
      rw [← hw] at bwl
      have bwl1 : (0 ≤ lef ∧ lef ≤ iM I x) ∧ 0 ≤ won ∧ won ≤ i.toNat * 27 := bwl
      refine R_iload_6 hC dX10_withdraw_22 ?_
      refine R_aload_0 hC dX10_withdraw_24 ?_
      refine R_getR hC dX10_withdraw_25 fl_10_9 (by decide) rfl (by decide) (by decide) (fi := 0) rfl (r := 24) (gr_41_0 hg) ?_
      refine R_getI hC dX10_withdraw_28 fl_10_31 (by decide) rfl (by decide) (by decide) (fi := 12) rfl ?_
      refine R_icmp_ge hC dX10_withdraw_31 (tgt := 131) (by decide) (fun hb31 => ?_) (fun hb31 => ?_)
      · skip
        refine R_aload_0 hC dX10_withdraw_131 ?_
        refine R_aload_0 hC dX10_withdraw_132 ?_
        refine R_getR hC dX10_withdraw_133 fl_10_9 (by decide) rfl (by decide) (by decide) (fi := 0) rfl (r := 24) (gr_41_0 hg) ?_
        refine R_getR hC dX10_withdraw_136 fl_10_74 (by decide) rfl (by decide) (by decide) (fi := 3) rfl (r := 28) (gr_24_3 hg) ?_
        refine R_iload_1 hC dX10_withdraw_139 ?_
        refine R_iaload hC dX10_withdraw_140 (by decide) rfl (by omega) (by omega) ?_
        have q28b : M1 28 x = iM I x := (hF.at (by decide)).trans q28
        refine R_iload_5 hC dX10_withdraw_141 ?_
        refine R_isub hC dX10_withdraw_143 ⟨by omega, by omega⟩ ?_
        refine R_putI hC dX10_withdraw_144 fl_10_52 (by decide) rfl (by decide) (by decide) (fi := 3) rfl ?_
        refine R_iload_4 hC dX10_withdraw_147 ?_
        exact R_ireturn hC dX10_withdraw_149 rfl (ret_P ⟨Fr.uB (hF.mo (by decide) (by decide)) (by decide), by (have := congrArg Prod.snd hw; unfold wnn; rw [show iW I = i by omega]; exact this), by rw [uM_same, q28b]; (unfold wdw; rw [show iW I = i by omega]; exact congrArg (fun z : Int × Int => iM I x - z.1) hw), fun w w0 w1 => by (rw [uM_h (by decide)]; obtain ⟨j, j0, j1, rfl⟩ := hb.sur w0 w1; rw [sN_at hb j0 j1]; exact hN j j0 (by omega)), fun k hk => by rw [uM_h (by decide)]; exact hO k hk⟩)
      · skip
        refine R_aload_0 hC dX10_withdraw_34 ?_
        refine R_getR hC dX10_withdraw_35 fl_10_9 (by decide) rfl (by decide) (by decide) (fi := 0) rfl (r := 24) (gr_41_0 hg) ?_
        refine R_getR hC dX10_withdraw_38 fl_10_77 (by decide) rfl (by decide) (by decide) (fi := 5) rfl (r := 30) (gr_24_5 hg) ?_
        refine R_iload_6 hC dX10_withdraw_41 ?_
        refine R_iaload hC dX10_withdraw_43 (by decide) rfl (by omega) (by omega) ?_
        have bi := hb.1 i hi0 (by omega)
        have q30 : M1 30 i = b i := (hF.at (by decide)).trans (congrFun h30 i)
        rw [q30]
        refine R_istore_7 hC dX10_withdraw_44 rfl ?_
        refine R_aload_0 hC dX10_withdraw_46 ?_
        refine R_getR hC dX10_withdraw_47 fl_10_15 (by decide) rfl (by decide) (by decide) (fi := 1) rfl (r := 42) (gr_41_1 hg) ?_
        refine R_iload_3 hC dX10_withdraw_50 ?_
        refine R_iload_7 hC dX10_withdraw_51 ?_
        refine R_iadd hC dX10_withdraw_53 ⟨by omega, by omega⟩ ?_
        refine R_iaload hC dX10_withdraw_54 (by decide) rfl (by omega) (by omega) ?_
        have q42 : M1 42 (u * 6 + b i) = s (b i) := (hO _ (by omega)).trans (hs _ bi.1 bi.2)
        rw [q42]
        have bs := hsb _ bi.1 bi.2
        refine R_istore_8 hC dX10_withdraw_55 rfl ?_
        refine R_iload_5 hC dX10_withdraw_57 ?_
        refine R_iload_8 hC dX10_withdraw_59 ?_
        refine R_aload_0 hC dX10_withdraw_61 ?_
        refine R_getR hC dX10_withdraw_62 fl_10_9 (by decide) rfl (by decide) (by decide) (fi := 0) rfl (r := 24) (gr_41_0 hg) ?_
        refine R_getR hC dX10_withdraw_65 fl_10_80 (by decide) rfl (by decide) (by decide) (fi := 0) rfl (r := 25) (gr_24_0 hg) ?_
        refine R_iload_1 hC dX10_withdraw_68 ?_
        refine R_iload_7 hC dX10_withdraw_69 ?_
        refine R_callSNq (as := [vI _, vI _]) hC dX10_withdraw_71 mo_11_pairOf mn_10_83 (c11_pairOf  (by omega) (by omega) (by omega) (by omega)) rfl rfl hRm (by decide) (by decide) (Nat.le_of_ble_eq_true rfl) ?_
        refine R_iaload hC dX10_withdraw_74 (by decide) rfl (by omega) (by omega) ?_
        have q25 : M1 25 (x * 6 + b i) = iO I x (b i) := (hF.at (by decide)).trans (hI.2.2.1 x _ hx0 hx1 bi.1 bi.2)
        rw [q25]
        have bo := hIb.2.2.1 x _ hx0 hx1 bi.1 bi.2
        refine R_min hC dX10_withdraw_75 jl_10_86 hRm (by decide) (Nat.le_of_ble_eq_true rfl) ?_
        refine R_min hC dX10_withdraw_78 jl_10_86 hRm (by decide) (Nat.le_of_ble_eq_true rfl) ?_
        refine R_istore_9 hC dX10_withdraw_81 rfl ?_
        have eM : min lef (min (s (b i)) (iO I x (b i))) = mny I b x s i := by unfold mny; rw [← hw]
        have bmy := mny_bd hIb hb hx0 hx1 hsb hi0 (show i < iW I by omega)
        rw [← eM] at bmy
        refine R_aload_0 hC dX10_withdraw_83 ?_
        refine R_getR hC dX10_withdraw_84 fl_10_15 (by decide) rfl (by decide) (by decide) (fi := 1) rfl (r := 42) (gr_41_1 hg) ?_
        refine R_iload_3 hC dX10_withdraw_87 ?_
        refine R_bipush hC dX10_withdraw_88 (by decide +kernel) ⟨by decide, by decide⟩ ?_
        refine R_iadd hC dX10_withdraw_90 ⟨by omega, by omega⟩ ?_
        refine R_iload_7 hC dX10_withdraw_91 ?_
        refine R_iadd hC dX10_withdraw_93 ⟨by omega, by omega⟩ ?_
        refine R_iload_8 hC dX10_withdraw_94 ?_
        refine R_iload_9 hC dX10_withdraw_96 ?_
        refine R_isub hC dX10_withdraw_98 ⟨by omega, by omega⟩ ?_
        refine R_iastore hC dX10_withdraw_99 (by decide) rfl (by omega) (by omega) ?_
        refine R_iload_5 hC dX10_withdraw_100 ?_
        refine R_iload_9 hC dX10_withdraw_102 ?_
        refine R_isub hC dX10_withdraw_104 ⟨by omega, by omega⟩ ?_
        refine R_istore_5 hC dX10_withdraw_105 rfl ?_
        refine R_iload_4 hC dX10_withdraw_107 ?_
        refine R_iload_9 hC dX10_withdraw_109 ?_
        refine R_aload_0 hC dX10_withdraw_111 ?_
        have hG1 : GR (uM M1 42 (((u * 6) + 6) + b i) (s (b i) - (min lef (min (s (b i)) (iO I x (b i)))))) := (GR.uA hg (by decide +kernel) (.inl (by decide)))
        refine R_getR hC dX10_withdraw_112 fl_10_9 (by decide) rfl (by decide) (by decide) (fi := 0) rfl (r := 24) (gr_41_0 hG1) ?_
        refine R_getR hC dX10_withdraw_115 fl_10_91 (by decide) rfl (by decide) (by decide) (fi := 4) rfl (r := 29) (gr_24_4 hG1) ?_
        refine R_iload_7 hC dX10_withdraw_118 ?_
        refine R_ialoadE hC dX10_withdraw_120 (by decide) rfl (by omega) (by omega) (uM_h (by decide)) ?_
        have q29 : M1 29 (b i) = iZ I (b i) := (hF.at (by decide)).trans (hI.2.2.2.1 _ bi.1 bi.2).2
        have bz := (hIb.2.2.2.1 _ bi.1 bi.2).2
        have bmz := mul_bd bmy.1 bmy.2.1 (show 0 ≤ iZ I (b i) by omega) bz.2
        refine R_imul hC dX10_withdraw_121 (⟨by rw [q29]; omega, by rw [q29]; omega⟩) ?_
        refine R_iadd hC dX10_withdraw_122 (⟨by rw [q29]; omega, by rw [q29]; omega⟩) ?_
        refine R_istore_4 hC dX10_withdraw_123 rfl ?_
        refine R_iinc_6 hC dX10_withdraw_125 rfl ⟨by omega, by omega⟩ ?_
        refine R_goto hC dX10_withdraw_128 (tgt := 22) (by decide) ?_
        refine R_weak (subL_c (subL_c (subL_c (subL_c (subL_c (subL_c (subL_c (subL_d (subL_d (subL_d subL_n)))))))))) ?_
        exact ih22 _ _ _ _ (by omega) (by omega) hG1 (Fr.uA hF (by decide)) (by rw [wl_s hi0 rfl, ← hw, q29, eM]) (fun j a b => by
          by_cases q : j = i
          · rw [q, uM_at (by omega), eM]
          · rw [uM_k (fun e => hb.inj a (show j < i by omega) (by omega) (by omega))]; exact hN j a (by omega)) (fun k hk => by rw [uM_k (by omega)]; exact hO k hk) (by omega)
  exact L22 _ _ _ _ _ (by omega) (by omega) hG Fr.rf (by rw [q28]; rfl) (fun j a b => by omega) (fun _ _ => rfl) (Nat.lt_succ_self _)
theorem dX10_begin_0 : decode cX10_begin 0 = .ok (.aload_n 0, 1) := by decide +kernel
theorem dX10_begin_1 : decode cX10_begin 1 = .ok (.getfield 9, 3) := by decide +kernel
theorem dX10_begin_4 : decode cX10_begin 4 = .ok (.aload_n 1, 1) := by decide +kernel
theorem dX10_begin_5 : decode cX10_begin 5 = .ok (.invokevirtual 25, 3) := by decide +kernel
theorem dX10_begin_8 : decode cX10_begin 8 = .ok (.iconst 0, 1) := by decide +kernel
theorem dX10_begin_9 : decode cX10_begin 9 = .ok (.istore_n 2, 1) := by decide +kernel
theorem dX10_begin_10 : decode cX10_begin 10 = .ok (.iload_n 2, 1) := by decide +kernel
theorem dX10_begin_11 : decode cX10_begin 11 = .ok (.aload_n 0, 1) := by decide +kernel
theorem dX10_begin_12 : decode cX10_begin 12 = .ok (.getfield 9, 3) := by decide +kernel
theorem dX10_begin_15 : decode cX10_begin 15 = .ok (.getfield 31, 3) := by decide +kernel
theorem dX10_begin_18 : decode cX10_begin 18 = .ok (.if_icmp .ge 24, 3) := by decide +kernel
theorem dX10_begin_21 : decode cX10_begin 21 = .ok (.aload_n 0, 1) := by decide +kernel
theorem dX10_begin_22 : decode cX10_begin 22 = .ok (.getfield 15, 3) := by decide +kernel
theorem dX10_begin_25 : decode cX10_begin 25 = .ok (.iload_n 2, 1) := by decide +kernel
theorem dX10_begin_26 : decode cX10_begin 26 = .ok (.aload_n 0, 1) := by decide +kernel
theorem dX10_begin_27 : decode cX10_begin 27 = .ok (.getfield 9, 3) := by decide +kernel
theorem dX10_begin_30 : decode cX10_begin 30 = .ok (.getfield 35, 3) := by decide +kernel
theorem dX10_begin_33 : decode cX10_begin 33 = .ok (.iload_n 2, 1) := by decide +kernel
theorem dX10_begin_34 : decode cX10_begin 34 = .ok (.iaload, 1) := by decide +kernel
theorem dX10_begin_35 : decode cX10_begin 35 = .ok (.iastore, 1) := by decide +kernel
theorem dX10_begin_36 : decode cX10_begin 36 = .ok (.iinc 2 1, 3) := by decide +kernel
theorem dX10_begin_39 : decode cX10_begin 39 = .ok (.goto (-29), 3) := by decide +kernel
theorem dX10_begin_42 : decode cX10_begin 42 = .ok (.return_, 1) := by decide +kernel
set_option maxHeartbeats 400000 in
theorem c10_begin {G : Gl} {l : Launch}  {M : Mem} {d : Int → Int} (hG : GR M) (hD : M 4 = d) (hSP : SP d) : Ct G LY 57 l 3 m10_begin [vR 41, vR 3] M (RV (fun M' => Fr [25, 26, 27, 28, 29, 30, 31, 32, 33, 34, 42] [(24, 11), (24, 12), (24, 13)] M M' ∧ SC M' (insOf d) ∧ ∀ w, 0 ≤ w → w < d 122 → M' 42 (0 * 6 + w) = spr d w)) := by
  refine R_start (by decide +kernel) (Nat.le_of_ble_eq_true rfl) (fun C hC hRm hlau => ?_)
  show RZ G LY C (Zn G LY 57 C (RV (fun M' => Fr [25, 26, 27, 28, 29, 30, 31, 32, 33, 34, 42] [(24, 11), (24, 12), (24, 13)] M M' ∧ SC M' (insOf d) ∧ ∀ w, 0 ≤ w → w < d 122 → M' 42 (0 * 6 + w) = spr d w))) 0 0 57 0 [some (vR 41), some (vR 3), none] [] M
  have hWd := hSP.1.2
  refine R_aload_0 hC dX10_begin_0 ?_
  refine R_getR hC dX10_begin_1 fl_10_9 (by decide) rfl (by decide) (by decide) (fi := 0) rfl (r := 24) (gr_41_0 hG) ?_
  refine R_aload_1 hC dX10_begin_4 ?_
  refine R_callVv (as := [vR _]) hC dX10_begin_5 mo_6_load ml_10_25 (by decide) rfl rfl (c6_load  hG sh_3 hD hSP.B) rfl rfl hRm (by decide) (by decide) (Nat.le_of_ble_eq_true rfl) (fun Mc1 hq2 => ?_)
  have hSC3 := hq2.2
  refine R_iconst hC dX10_begin_8 ⟨by decide, by decide⟩ ?_
  refine R_istore_2 hC dX10_begin_9 rfl ?_
  have L10 : ∀ (mq : Nat) (i : Int) (M1 : Mem), (0 ≤ i) → (i ≤ d 122) → (GR M1) → (Fr [25, 26, 27, 28, 29, 30, 31, 32, 33, 34, 42] [(24, 11), (24, 12), (24, 13)] M M1) → (SC M1 (insOf d)) → (∀ w, 0 ≤ w → w < i → M1 42 (0 * 6 + w) = spr d w) → (d 122 - i).toNat < mq → RZ G LY C (Zn G LY 57 C (RV (fun M' => Fr [25, 26, 27, 28, 29, 30, 31, 32, 33, 34, 42] [(24, 11), (24, 12), (24, 13)] M M' ∧ SC M' (insOf d) ∧ ∀ w, 0 ≤ w → w < d 122 → M' 42 (0 * 6 + w) = spr d w))) 0 0 57 10 [some (vR 41), some (vR 3), some (vI i)] [] M1 := by
    intro mq
    induction mq with
    | zero =>
      intro i M1 hi0 hi1 hg hF hSJ hA hm
      exact absurd hm (Nat.not_lt_zero _)
    | succ mq ih10 =>
      intro i M1 hi0 hi1 hg hF hSJ hA hm10
      have q12 : M1 24 12 = d 122 := hSJ.1.2.1
      refine R_iload_2 hC dX10_begin_10 ?_
      refine R_aload_0 hC dX10_begin_11 ?_
      refine R_getR hC dX10_begin_12 fl_10_9 (by decide) rfl (by decide) (by decide) (fi := 0) rfl (r := 24) (gr_41_0 hg) ?_
      refine R_getI hC dX10_begin_15 fl_10_31 (by decide) rfl (by decide) (by decide) (fi := 12) rfl ?_
      refine R_icmp_ge hC dX10_begin_18 (tgt := 42) (by decide) (fun hb18 => ?_) (fun hb18 => ?_)
      · skip
        exact R_return hC dX10_begin_42 rfl (ret_V ⟨hF, hSJ, fun w a b => hA w a (by omega)⟩)
      · skip
        refine R_aload_0 hC dX10_begin_21 ?_
        refine R_getR hC dX10_begin_22 fl_10_15 (by decide) rfl (by decide) (by decide) (fi := 1) rfl (r := 42) (gr_41_1 hg) ?_
        refine R_iload_2 hC dX10_begin_25 ?_
        refine R_aload_0 hC dX10_begin_26 ?_
        refine R_getR hC dX10_begin_27 fl_10_9 (by decide) rfl (by decide) (by decide) (fi := 0) rfl (r := 24) (gr_41_0 hg) ?_
        refine R_getR hC dX10_begin_30 fl_10_35 (by decide) rfl (by decide) (by decide) (fi := 1) rfl (r := 26) (gr_24_1 hg) ?_
        refine R_iload_2 hC dX10_begin_33 ?_
        refine R_iaload hC dX10_begin_34 (by decide) rfl (by omega) (by omega) ?_
        refine R_iastore hC dX10_begin_35 (by decide) rfl (by omega) (by omega) ?_
        refine R_iinc_2 hC dX10_begin_36 rfl ⟨by omega, by omega⟩ ?_
        refine R_goto hC dX10_begin_39 (tgt := 10) (by decide) ?_
        have hG4 : GR (uM M1 42 i (M1 26 i)) := (GR.uA hg (by decide +kernel) (.inl (by decide)))
        exact ih10 _ _ (by omega) (by omega) hG4 (Fr.uA hF (by decide)) (SC.u hSJ (by decide)) (fun w a b => by (by_cases q : w = i; (rw [uM_at (by omega), q]; exact (hSJ.2.2.2.1 i hi0 (show i < d 122 by omega)).1); rw [uM_k (by omega)]; exact hA w a (by omega))) (by omega)
  have hG5 : GR Mc1 := (GR.fr hG hq2.1 (by decide +kernel))
  exact L10 _ _ _ (by omega) (by omega) hG5 (hq2.1.mo (by decide) (by decide)) hSC3 (fun w a b => by omega) (Nat.lt_succ_self _)
