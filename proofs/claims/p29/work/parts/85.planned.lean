/-! what is planned -/
noncomputable abbrev nn (d : Int → Int) (x w : Int) : Int := itc (planI (insOf d)) (plT (insOf d) (x * 6 + w)) (-1)
section PLF
variable {d : Int → Int} {L W : Int}
theorem lk_le (hS : SP d) {t : Int} (t0 : 0 ≤ t) (t1 : t < 2 ^ (d 121).toNat) : lackI (insOf d) t ≤ lackI (insOf d) (worst (insOf d)) := by
  have h := SP.I hS
  have hf := h.fs
  have e : lackI (insOf d) (worst (insOf d)) = (wsF (insOf d) (fullS (insOf d)).toNat).2 := (wsF_2 h _).symm
  rw [e]
  exact wsF_m h _ t t0 (by
    have t2 : t < 2 ^ (iL (insOf d)).toNat := t1
    unfold fullS at *
    omega)
theorem late_ok (hp : planI (insOf d)) {v : Int} (h8 : d 118 ≤ 61) (h : LateV d v) : v = d 118 := by
  have e : planY d (d 118) := by
    unfold planY
    rw [upd1_sf]
    exact hp
  rcases h with ⟨-, h⟩ | ⟨h1, -, -, h⟩
  · exact absurd e (h _ (Int.le_refl _) h8)
  · by_cases q : d 118 < v
    · exact absurd e (h _ (Int.le_refl _) q)
    · omega
theorem help_ok (hS : SP d) (hp : planI (insOf d)) {v f : Int} (h : HelpC d v f) : v = 0 ∧ f = -1 := by
  have z := (SP.I hS).wp.mpr hp
  rcases h with ⟨-, h1, h2⟩ | ⟨h, -⟩ | ⟨h, -⟩
  · exact ⟨h1, h2⟩
  · exact absurd z h
  · exact absurd z h
theorem chgs_0 (hS : SP d) (T : Int → Int) : 0 ≤ chgs T d := by
  rw [← chgs_m hS.1.1.1]
  exact (sm_bd2 (q := 5) 180 hS.1.1.1 (fun a a0 a1 => chS_bd (SP.I hS) hS.1 a) (by decide) hS.1.1.2).1
theorem nn_b (hS : SP d) {x w : Int} (x0 : 0 ≤ x) (w0 : 0 ≤ w) : -1 ≤ nn d x w ∧ nn d x w ≤ 3 := by
  by_cases hp : planI (insOf d)
  · rw [nn, itc_t hp]
    have := plT_3 (SP.I hS) (q := x * 6 + w) (by omega)
    omega
  · rw [nn, itc_f hp]
    decide
theorem nnz_b (hS : SP d) {x w : Int} (x0 : 0 ≤ x) (w0 : 0 ≤ w) (w1 : w < 6) : -9 ≤ nn d x w * d (10 + w) ∧ nn d x w * d (10 + w) ≤ 27 := by
  have a := nn_b hS x0 w0
  have b := (hS.2.2.1 w w0 w1).1
  have hn : nn d x w = -1 ∨ nn d x w = 0 ∨ nn d x w = 1 ∨ nn d x w = 2 ∨ nn d x w = 3 := by omega
  rcases hn with e | e | e | e | e <;> rw [e] <;> omega
theorem nn_t (hp : planI (insOf d)) {x w : Int} : nn d x w = plT (insOf d) (x * 6 + w) := itc_t hp
theorem nn_f (hp : ¬ planI (insOf d)) {x w : Int} : nn d x w = -1 := itc_f hp
theorem plan_fx (hS : SP d) (hp : planI (insOf d)) (hL : d 121 = L) (hW : d 122 = W) :
    (∀ x w, 0 ≤ x → x < L → 0 ≤ w → w < W → 0 ≤ nn d x w ∧ nn d x w ≤ offr d x w) ∧
    (∀ x, 0 ≤ x → x < L → nee d x ≤ sm W.toNat (fun w => nn d x w) ∧ sm W.toNat (fun w => nn d x w) ≤ max (d (5 + x)) (nee d x)) ∧
    (∀ w, 0 ≤ w → w < W → itc (planI (insOf d)) (sm 5 (fun x => (plT (insOf d)) (x * 6 + w))) (-1) = sm L.toNat (fun x => nn d x w) ∧ sm L.toNat (fun x => nn d x w) ≤ spr d w) ∧
    (∀ x, 0 ≤ x → x < L → itc (planI (insOf d)) (sm 6 (fun w => (plT (insOf d)) (x * 6 + w))) (-1) = sm W.toNat (fun w => nn d x w)) ∧
    (∀ x, 0 ≤ x → x < L → itc (planI (insOf d)) (sm 6 (fun w => d (10 + w) * (plT (insOf d)) (x * 6 + w))) (-1) = sm W.toNat (fun w => nn d x w * d (10 + w))) ∧
    SPC (insOf d) = sm L.toNat (fun x => sm W.toNat (fun w => nn d x w * d (10 + w))) ∧
    (if SPC (insOf d) = -1 then -1 else if iW (insOf d) = 0 then 0 else MC (insOf d) 1) = sm L.toNat (fun x => sm W.toNat (fun w => nn d x w)) := by
  subst hL
  subst hW
  have hI := SP.I hS
  obtain ⟨⟨⟨c1, c2, c3⟩, c4⟩, c5⟩ := plan_way hI hp
  have h1 := hS.1
  have e1 : ∀ x w, nn d x w = plT (insOf d) (6 * x + w) := fun x w => by rw [nn_t hp, show x * 6 + w = 6 * x + w by omega]
  have er : ∀ x, sm (d 122).toNat (fun w => nn d x w) = sm (iW (insOf d)).toNat (fun w => plT (insOf d) (6 * x + w)) := fun x => sm_congr _ (fun w _ _ => e1 x w)
  have ec : ∀ w, sm (d 121).toNat (fun x => nn d x w) = sm (iL (insOf d)).toNat (fun x => plT (insOf d) (6 * x + w)) := fun w => sm_congr _ (fun x _ _ => e1 x w)
  have out : ∀ x w, 0 ≤ x → 0 ≤ w → w < 6 → ¬ (x < d 121 ∧ w < d 122) → plT (insOf d) (x * 6 + w) = 0 := fun x w x0 w0 w6 hn => by
    rw [show x * 6 + w = 6 * x + w by omega]
    exact plT_out hI x0 w0 w6 hn
  refine ⟨fun x w x0 x1 w0 w1 => ?_, fun x x0 x1 => ?_, fun w w0 w1 => ?_, fun x x0 x1 => ?_, fun x x0 x1 => ?_, ?_, ?_⟩
  · rw [e1]
    exact c1 x w x0 x1 w0 w1
  · rw [er]
    have a : sm (iW (insOf d)).toNat (fun w => plT (insOf d) (6 * x + w)) ≤ max (nee d x) (d (5 + x)) := c2 x x0 x1
    have b : nee d x ≤ sm (iW (insOf d)).toNat (fun w => plT (insOf d) (6 * x + w)) := c4 x x0 x1
    omega
  · refine ⟨?_, ?_⟩
    · rw [itc_t hp, sm_ext (n := (d 121).toNat) 5 (by omega) (fun x x0 x1 => out x w (by omega) w0 (by omega) (fun z => by omega))]
      exact sm_congr _ (fun x _ _ => (nn_t hp).symm)
    · rw [ec]
      exact c3 w w0 w1
  · rw [itc_t hp, sm_ext (n := (d 122).toNat) 6 (by omega) (fun w w0 w1 => out x w x0 (by omega) (by omega) (fun z => by omega))]
    exact sm_congr _ (fun w _ _ => (nn_t hp).symm)
  · rw [itc_t hp, sm_ext (n := (d 122).toNat) 6 (by omega) (fun w w0 w1 => by
      rw [out x w x0 (by omega) (by omega) (fun z => by omega)]
      exact Int.mul_zero _)]
    exact sm_congr _ (fun w _ _ => by rw [nn_t hp]; exact Int.mul_comm _ _)
  · rw [SPC_t hp, ← c5]
    unfold spF
    rw [sm_swap (fun x w => nn d x w * d (10 + w))]
    refine sm_congr _ (fun w _ _ => ?_)
    rw [← sm_mul]
    exact sm_congr _ (fun x _ _ => by rw [e1]; exact Int.mul_comm _ _)
  · rw [c7_e hS, itc_t hp]
    exact sm_congr _ (fun x _ _ => sm_congr _ (fun w _ _ => (e1 x w).symm))
theorem noplan_fx (hp : ¬ planI (insOf d)) : SPC (insOf d) = -1 ∧ (if SPC (insOf d) = -1 then (-1 : Int) else if iW (insOf d) = 0 then 0 else MC (insOf d) 1) = -1 := ⟨SPC_f hp, if_pos (SPC_f hp)⟩
theorem by_turns (hS : SP d) (hp : planI (insOf d)) {x v : Int} (x0 : 0 ≤ x) (x1 : x < d 121) (h : ∃ b, RK (d 122) (fun w => d (10 + w)) b ∧ v = sm (d 121).toNat (fun k => wnn (insOf d) b (lib (d 121) x k) (gS (insOf d) b x k.toNat))) : v ≤ SPC (insOf d) := by
  obtain ⟨b, hb, rfl⟩ := h
  rw [SPC_t hp]
  exact turns_ok (SP.I hS) hb x0 x1
theorem is_apart (hS : SP d) (hp : planI (insOf d)) {x : Int} (x0 : 0 ≤ x) (x1 : x < d 121) : SPC (setNM (insOf d) x 0 0) ≠ -1 ∧ SPC (setNM (insOf d) x 0 0) ≤ SPC (insOf d) := by
  have hI := SP.I hS
  have z := apart_ok hI hp x0 x1
  have hK : IB (setNM (insOf d) x 0 0) := hI.setNM (by decide) (by decide) (by decide)
  rw [SPC_t z.1, SPC_t hp]
  have := (sumMC_bd hK).1
  exact ⟨by omega, z.2⟩
end PLF
theorem k_held_n {G : Gl} {l : Launch} {M M0 : Mem} {d : Int → Int} {x w : Int} (hI : WI M0 d M) (hS : SP d) (x0 : 0 ≤ x) (x1 : x < d 121) (w0 : 0 ≤ w) (w1 : w < d 122) : Ct G LY 57 l 6 m11_held [vR 0, vI x, vI w, vI 5] M (RP (fun v M' => WI M0 d M' ∧ v = nn d x w)) := k_held_5 hI hS x0 x1 w0 w1
theorem nn_s {d : Int → Int} (hS : SP d) (hp : planI (insOf d)) {x : Int} (x0 : 0 ≤ x) {n : Nat} : 0 ≤ sm n (fun w => nn d x w) := by
  have e2 : sm n (fun _ => 0) ≤ sm n (fun w => nn d x w) := sm_le _ (fun w w0 w1 => by
    rw [nn_t hp]
    exact (plT_3 (SP.I hS) (by omega)).1)
  rw [sm_zero _ (fun _ _ _ => rfl)] at e2
  exact e2
theorem nnz_s {g0 : Nat → Nat} {d : Int → Int} (hS : SP d) (hp : planI (insOf d)) {x : Int} (x0 : 0 ≤ x) : 0 ≤ sm (worksN g0).toNat (fun w => nn d x w * d (10 + w)) := by
  have hw := worksN_b g0
  have e2 : sm (worksN g0).toNat (fun _ => 0) ≤ sm (worksN g0).toNat (fun w => nn d x w * d (10 + w)) := sm_le _ (fun w w0 w1 => by
    rw [nn_t hp]
    exact Int.mul_nonneg (plT_3 (SP.I hS) (by omega)).1 (hS.2.2.1 w w0 (by omega)).1.1)
  rw [sm_zero _ (fun _ _ _ => rfl)] at e2
  exact e2
theorem sm_nn {d : Int → Int} (hS : SP d) (hp : planI (insOf d)) (L W : Int) (L0 : 0 ≤ L) (W0 : 0 ≤ W) : 0 ≤ sm L.toNat (fun x => sm W.toNat (fun w => nn d x w)) := by
  have z : ∀ x w : Int, 0 ≤ x → 0 ≤ w → 0 ≤ nn d x w := fun x w x0 w0 => by
    rw [nn_t hp]
    exact (plT_3 (SP.I hS) (by omega)).1
  have e : sm L.toNat (fun _ => 0) ≤ sm L.toNat (fun x => sm W.toNat (fun w => nn d x w)) := sm_le _ (fun x x0 x1 => by
    have e2 : sm W.toNat (fun _ => 0) ≤ sm W.toNat (fun w => nn d x w) := sm_le _ (fun w w0 w1 => z x w x0 w0)
    rw [sm_zero _ (fun _ _ _ => rfl)] at e2
    exact e2)
  rw [sm_zero _ (fun _ _ _ => rfl)] at e
  exact e

abbrev mW_isPlanned : Mt := (yL_isPlanned, cL_isPlanned, 10, (some FieldType.boolean))
theorem mlW_114 : Cond.methodLink RL 114 m11_lack.1 ∈ Ts := Ts_in (in_t6 _ (List.mem_of_getElem? (i := 117) rfl)) rfl
theorem dX14_isPlanned_0 : decode cL_isPlanned 0 = .ok (.aload_n 1, 1) := by decide +kernel
theorem dX14_isPlanned_1 : decode cL_isPlanned 1 = .ok (.iconst 5, 1) := by decide +kernel
theorem dX14_isPlanned_2 : decode cL_isPlanned 2 = .ok (.invokevirtual 111, 3) := by decide +kernel
theorem dX14_isPlanned_5 : decode cL_isPlanned 5 = .ok (.iconst 1, 1) := by decide +kernel
theorem dX14_isPlanned_6 : decode cL_isPlanned 6 = .ok (.if_icmp .ne 7, 3) := by decide +kernel
theorem dX14_isPlanned_9 : decode cL_isPlanned 9 = .ok (.iconst 1, 1) := by decide +kernel
theorem dX14_isPlanned_10 : decode cL_isPlanned 10 = .ok (.goto 4, 3) := by decide +kernel
theorem dX14_isPlanned_13 : decode cL_isPlanned 13 = .ok (.iconst 0, 1) := by decide +kernel
theorem dX14_isPlanned_14 : decode cL_isPlanned 14 = .ok (.istore_n 2, 1) := by decide +kernel
theorem dX14_isPlanned_15 : decode cL_isPlanned 15 = .ok (.iload_n 2, 1) := by decide +kernel
theorem dX14_isPlanned_16 : decode cL_isPlanned 16 = .ok (.aload_n 1, 1) := by decide +kernel
theorem dX14_isPlanned_17 : decode cL_isPlanned 17 = .ok (.bipush 9, 2) := by decide +kernel
theorem dX14_isPlanned_19 : decode cL_isPlanned 19 = .ok (.invokevirtual 111, 3) := by decide +kernel
theorem dX14_isPlanned_22 : decode cL_isPlanned 22 = .ok (.ifCond .ne 7, 3) := by decide +kernel
theorem dX14_isPlanned_25 : decode cL_isPlanned 25 = .ok (.iconst 1, 1) := by decide +kernel
theorem dX14_isPlanned_26 : decode cL_isPlanned 26 = .ok (.goto 4, 3) := by decide +kernel
theorem dX14_isPlanned_29 : decode cL_isPlanned 29 = .ok (.iconst 0, 1) := by decide +kernel
theorem dX14_isPlanned_30 : decode cL_isPlanned 30 = .ok (.if_icmp .ne 60, 3) := by decide +kernel
theorem dX14_isPlanned_33 : decode cL_isPlanned 33 = .ok (.iload_n 2, 1) := by decide +kernel
theorem dX14_isPlanned_34 : decode cL_isPlanned 34 = .ok (.aload_n 1, 1) := by decide +kernel
theorem dX14_isPlanned_35 : decode cL_isPlanned 35 = .ok (.bipush 6, 2) := by decide +kernel
theorem dX14_isPlanned_37 : decode cL_isPlanned 37 = .ok (.invokevirtual 111, 3) := by decide +kernel
theorem dX14_isPlanned_40 : decode cL_isPlanned 40 = .ok (.iconst (-1), 1) := by decide +kernel
theorem dX14_isPlanned_41 : decode cL_isPlanned 41 = .ok (.if_icmp .eq 7, 3) := by decide +kernel
theorem dX14_isPlanned_44 : decode cL_isPlanned 44 = .ok (.iconst 1, 1) := by decide +kernel
theorem dX14_isPlanned_45 : decode cL_isPlanned 45 = .ok (.goto 4, 3) := by decide +kernel
theorem dX14_isPlanned_48 : decode cL_isPlanned 48 = .ok (.iconst 0, 1) := by decide +kernel
theorem dX14_isPlanned_49 : decode cL_isPlanned 49 = .ok (.if_icmp .ne 41, 3) := by decide +kernel
theorem dX14_isPlanned_52 : decode cL_isPlanned 52 = .ok (.iload_n 2, 1) := by decide +kernel
theorem dX14_isPlanned_53 : decode cL_isPlanned 53 = .ok (.aload_n 1, 1) := by decide +kernel
theorem dX14_isPlanned_54 : decode cL_isPlanned 54 = .ok (.bipush 7, 2) := by decide +kernel
theorem dX14_isPlanned_56 : decode cL_isPlanned 56 = .ok (.invokevirtual 111, 3) := by decide +kernel
theorem dX14_isPlanned_59 : decode cL_isPlanned 59 = .ok (.iconst (-1), 1) := by decide +kernel
theorem dX14_isPlanned_60 : decode cL_isPlanned 60 = .ok (.if_icmp .eq 7, 3) := by decide +kernel
theorem dX14_isPlanned_63 : decode cL_isPlanned 63 = .ok (.iconst 1, 1) := by decide +kernel
theorem dX14_isPlanned_64 : decode cL_isPlanned 64 = .ok (.goto 4, 3) := by decide +kernel
theorem dX14_isPlanned_67 : decode cL_isPlanned 67 = .ok (.iconst 0, 1) := by decide +kernel
theorem dX14_isPlanned_68 : decode cL_isPlanned 68 = .ok (.if_icmp .ne 22, 3) := by decide +kernel
theorem dX14_isPlanned_71 : decode cL_isPlanned 71 = .ok (.iload_n 2, 1) := by decide +kernel
theorem dX14_isPlanned_72 : decode cL_isPlanned 72 = .ok (.aload_n 1, 1) := by decide +kernel
theorem dX14_isPlanned_73 : decode cL_isPlanned 73 = .ok (.bipush 8, 2) := by decide +kernel
theorem dX14_isPlanned_75 : decode cL_isPlanned 75 = .ok (.invokevirtual 111, 3) := by decide +kernel
theorem dX14_isPlanned_78 : decode cL_isPlanned 78 = .ok (.iconst (-1), 1) := by decide +kernel
theorem dX14_isPlanned_79 : decode cL_isPlanned 79 = .ok (.if_icmp .eq 7, 3) := by decide +kernel
theorem dX14_isPlanned_82 : decode cL_isPlanned 82 = .ok (.iconst 1, 1) := by decide +kernel
theorem dX14_isPlanned_83 : decode cL_isPlanned 83 = .ok (.goto 4, 3) := by decide +kernel
theorem dX14_isPlanned_86 : decode cL_isPlanned 86 = .ok (.iconst 0, 1) := by decide +kernel
theorem dX14_isPlanned_87 : decode cL_isPlanned 87 = .ok (.if_icmp .eq 5, 3) := by decide +kernel
theorem dX14_isPlanned_92 : decode cL_isPlanned 92 = .ok (.aload_n 1, 1) := by decide +kernel
theorem dX14_isPlanned_93 : decode cL_isPlanned 93 = .ok (.aload_n 1, 1) := by decide +kernel
theorem dX14_isPlanned_94 : decode cL_isPlanned 94 = .ok (.bipush 10, 2) := by decide +kernel
theorem dX14_isPlanned_96 : decode cL_isPlanned 96 = .ok (.invokevirtual 111, 3) := by decide +kernel
theorem dX14_isPlanned_99 : decode cL_isPlanned 99 = .ok (.invokevirtual 114, 3) := by decide +kernel
theorem dX14_isPlanned_102 : decode cL_isPlanned 102 = .ok (.aload_n 1, 1) := by decide +kernel
theorem dX14_isPlanned_103 : decode cL_isPlanned 103 = .ok (.bipush 9, 2) := by decide +kernel
theorem dX14_isPlanned_105 : decode cL_isPlanned 105 = .ok (.invokevirtual 111, 3) := by decide +kernel
theorem dX14_isPlanned_108 : decode cL_isPlanned 108 = .ok (.if_icmp .ne 11, 3) := by decide +kernel
theorem dX14_isPlanned_111 : decode cL_isPlanned 111 = .ok (.aload_n 1, 1) := by decide +kernel
theorem dX14_isPlanned_112 : decode cL_isPlanned 112 = .ok (.iconst 0, 1) := by decide +kernel
theorem dX14_isPlanned_113 : decode cL_isPlanned 113 = .ok (.invokevirtual 114, 3) := by decide +kernel
theorem dX14_isPlanned_116 : decode cL_isPlanned 116 = .ok (.ifCond .eq 5, 3) := by decide +kernel
theorem dX14_isPlanned_121 : decode cL_isPlanned 121 = .ok (.iconst 0, 1) := by decide +kernel
theorem dX14_isPlanned_122 : decode cL_isPlanned 122 = .ok (.istore_n 3, 1) := by decide +kernel
theorem dX14_isPlanned_123 : decode cL_isPlanned 123 = .ok (.iload_n 3, 1) := by decide +kernel
theorem dX14_isPlanned_124 : decode cL_isPlanned 124 = .ok (.iconst 1, 1) := by decide +kernel
theorem dX14_isPlanned_125 : decode cL_isPlanned 125 = .ok (.aload_n 0, 1) := by decide +kernel
theorem dX14_isPlanned_126 : decode cL_isPlanned 126 = .ok (.invokestatic 40, 3) := by decide +kernel
theorem dX14_isPlanned_129 : decode cL_isPlanned 129 = .ok (.ishl, 1) := by decide +kernel
theorem dX14_isPlanned_130 : decode cL_isPlanned 130 = .ok (.if_icmp .ge 25, 3) := by decide +kernel
theorem dX14_isPlanned_133 : decode cL_isPlanned 133 = .ok (.aload_n 1, 1) := by decide +kernel
theorem dX14_isPlanned_134 : decode cL_isPlanned 134 = .ok (.iload_n 3, 1) := by decide +kernel
theorem dX14_isPlanned_135 : decode cL_isPlanned 135 = .ok (.invokevirtual 114, 3) := by decide +kernel
theorem dX14_isPlanned_138 : decode cL_isPlanned 138 = .ok (.aload_n 1, 1) := by decide +kernel
theorem dX14_isPlanned_139 : decode cL_isPlanned 139 = .ok (.bipush 9, 2) := by decide +kernel
theorem dX14_isPlanned_141 : decode cL_isPlanned 141 = .ok (.invokevirtual 111, 3) := by decide +kernel
theorem dX14_isPlanned_144 : decode cL_isPlanned 144 = .ok (.if_icmp .le 5, 3) := by decide +kernel
theorem dX14_isPlanned_149 : decode cL_isPlanned 149 = .ok (.iinc 3 1, 3) := by decide +kernel
theorem dX14_isPlanned_152 : decode cL_isPlanned 152 = .ok (.goto (-29), 3) := by decide +kernel
theorem dX14_isPlanned_155 : decode cL_isPlanned 155 = .ok (.iconst 0, 1) := by decide +kernel
theorem dX14_isPlanned_156 : decode cL_isPlanned 156 = .ok (.istore_n 3, 1) := by decide +kernel
theorem dX14_isPlanned_157 : decode cL_isPlanned 157 = .ok (.iconst 0, 1) := by decide +kernel
theorem dX14_isPlanned_158 : decode cL_isPlanned 158 = .ok (.istore 4, 2) := by decide +kernel
theorem dX14_isPlanned_160 : decode cL_isPlanned 160 = .ok (.iconst 0, 1) := by decide +kernel
theorem dX14_isPlanned_161 : decode cL_isPlanned 161 = .ok (.istore 5, 2) := by decide +kernel
theorem dX14_isPlanned_163 : decode cL_isPlanned 163 = .ok (.iload 5, 2) := by decide +kernel
theorem dX14_isPlanned_165 : decode cL_isPlanned 165 = .ok (.aload_n 0, 1) := by decide +kernel
theorem dX14_isPlanned_166 : decode cL_isPlanned 166 = .ok (.invokestatic 40, 3) := by decide +kernel
theorem dX14_isPlanned_169 : decode cL_isPlanned 169 = .ok (.if_icmp .ge 213, 3) := by decide +kernel
theorem dX14_isPlanned_172 : decode cL_isPlanned 172 = .ok (.iconst 0, 1) := by decide +kernel
theorem dX14_isPlanned_173 : decode cL_isPlanned 173 = .ok (.istore 6, 2) := by decide +kernel
theorem dX14_isPlanned_175 : decode cL_isPlanned 175 = .ok (.iconst 0, 1) := by decide +kernel
theorem dX14_isPlanned_176 : decode cL_isPlanned 176 = .ok (.istore 7, 2) := by decide +kernel
theorem dX14_isPlanned_178 : decode cL_isPlanned 178 = .ok (.iconst 0, 1) := by decide +kernel
theorem dX14_isPlanned_179 : decode cL_isPlanned 179 = .ok (.istore 8, 2) := by decide +kernel
theorem dX14_isPlanned_181 : decode cL_isPlanned 181 = .ok (.iload 8, 2) := by decide +kernel
theorem dX14_isPlanned_183 : decode cL_isPlanned 183 = .ok (.aload_n 0, 1) := by decide +kernel
theorem dX14_isPlanned_184 : decode cL_isPlanned 184 = .ok (.invokestatic 66, 3) := by decide +kernel
theorem dX14_isPlanned_187 : decode cL_isPlanned 187 = .ok (.if_icmp .ge 77, 3) := by decide +kernel
theorem dX14_isPlanned_190 : decode cL_isPlanned 190 = .ok (.aload_n 1, 1) := by decide +kernel
theorem dX14_isPlanned_191 : decode cL_isPlanned 191 = .ok (.iload 5, 2) := by decide +kernel
theorem dX14_isPlanned_193 : decode cL_isPlanned 193 = .ok (.iload 8, 2) := by decide +kernel
theorem dX14_isPlanned_195 : decode cL_isPlanned 195 = .ok (.iconst 5, 1) := by decide +kernel
theorem dX14_isPlanned_196 : decode cL_isPlanned 196 = .ok (.invokevirtual 117, 3) := by decide +kernel
theorem dX14_isPlanned_199 : decode cL_isPlanned 199 = .ok (.istore 9, 2) := by decide +kernel
theorem dX14_isPlanned_201 : decode cL_isPlanned 201 = .ok (.iload_n 2, 1) := by decide +kernel
theorem dX14_isPlanned_202 : decode cL_isPlanned 202 = .ok (.ifCond .ne 9, 3) := by decide +kernel
theorem dX14_isPlanned_205 : decode cL_isPlanned 205 = .ok (.iload 9, 2) := by decide +kernel
theorem dX14_isPlanned_207 : decode cL_isPlanned 207 = .ok (.iconst (-1), 1) := by decide +kernel
theorem dX14_isPlanned_208 : decode cL_isPlanned 208 = .ok (.if_icmp .ne 26, 3) := by decide +kernel
theorem dX14_isPlanned_211 : decode cL_isPlanned 211 = .ok (.iload_n 2, 1) := by decide +kernel
theorem dX14_isPlanned_212 : decode cL_isPlanned 212 = .ok (.ifCond .eq 24, 3) := by decide +kernel
theorem dX14_isPlanned_215 : decode cL_isPlanned 215 = .ok (.iload 9, 2) := by decide +kernel
theorem dX14_isPlanned_217 : decode cL_isPlanned 217 = .ok (.ifCond .lt 17, 3) := by decide +kernel
theorem dX14_isPlanned_220 : decode cL_isPlanned 220 = .ok (.iload 9, 2) := by decide +kernel
theorem dX14_isPlanned_222 : decode cL_isPlanned 222 = .ok (.aload_n 1, 1) := by decide +kernel
theorem dX14_isPlanned_223 : decode cL_isPlanned 223 = .ok (.iload 5, 2) := by decide +kernel
theorem dX14_isPlanned_225 : decode cL_isPlanned 225 = .ok (.iload 8, 2) := by decide +kernel
theorem dX14_isPlanned_227 : decode cL_isPlanned 227 = .ok (.iconst 4, 1) := by decide +kernel
theorem dX14_isPlanned_228 : decode cL_isPlanned 228 = .ok (.invokevirtual 117, 3) := by decide +kernel
theorem dX14_isPlanned_231 : decode cL_isPlanned 231 = .ok (.if_icmp .le 5, 3) := by decide +kernel
theorem dX14_isPlanned_236 : decode cL_isPlanned 236 = .ok (.iload 6, 2) := by decide +kernel
theorem dX14_isPlanned_238 : decode cL_isPlanned 238 = .ok (.iload 9, 2) := by decide +kernel
theorem dX14_isPlanned_240 : decode cL_isPlanned 240 = .ok (.iadd, 1) := by decide +kernel
theorem dX14_isPlanned_241 : decode cL_isPlanned 241 = .ok (.istore 6, 2) := by decide +kernel
theorem dX14_isPlanned_243 : decode cL_isPlanned 243 = .ok (.iload 7, 2) := by decide +kernel
theorem dX14_isPlanned_245 : decode cL_isPlanned 245 = .ok (.iload 9, 2) := by decide +kernel
theorem dX14_isPlanned_247 : decode cL_isPlanned 247 = .ok (.aload_n 1, 1) := by decide +kernel
theorem dX14_isPlanned_248 : decode cL_isPlanned 248 = .ok (.iload 8, 2) := by decide +kernel
theorem dX14_isPlanned_250 : decode cL_isPlanned 250 = .ok (.iconst 0, 1) := by decide +kernel
theorem dX14_isPlanned_251 : decode cL_isPlanned 251 = .ok (.invokevirtual 120, 3) := by decide +kernel
theorem dX14_isPlanned_254 : decode cL_isPlanned 254 = .ok (.imul, 1) := by decide +kernel
theorem dX14_isPlanned_255 : decode cL_isPlanned 255 = .ok (.iadd, 1) := by decide +kernel
theorem dX14_isPlanned_256 : decode cL_isPlanned 256 = .ok (.istore 7, 2) := by decide +kernel
theorem dX14_isPlanned_258 : decode cL_isPlanned 258 = .ok (.iinc 8 1, 3) := by decide +kernel
theorem dX14_isPlanned_261 : decode cL_isPlanned 261 = .ok (.goto (-80), 3) := by decide +kernel
theorem dX14_isPlanned_264 : decode cL_isPlanned 264 = .ok (.iload_n 2, 1) := by decide +kernel
theorem dX14_isPlanned_265 : decode cL_isPlanned 265 = .ok (.ifCond .ne 39, 3) := by decide +kernel
theorem dX14_isPlanned_268 : decode cL_isPlanned 268 = .ok (.aload_n 1, 1) := by decide +kernel
theorem dX14_isPlanned_269 : decode cL_isPlanned 269 = .ok (.iload 5, 2) := by decide +kernel
theorem dX14_isPlanned_271 : decode cL_isPlanned 271 = .ok (.iconst 4, 1) := by decide +kernel
theorem dX14_isPlanned_272 : decode cL_isPlanned 272 = .ok (.invokevirtual 123, 3) := by decide +kernel
theorem dX14_isPlanned_275 : decode cL_isPlanned 275 = .ok (.iconst (-1), 1) := by decide +kernel
theorem dX14_isPlanned_276 : decode cL_isPlanned 276 = .ok (.if_icmp .ne 26, 3) := by decide +kernel
theorem dX14_isPlanned_279 : decode cL_isPlanned 279 = .ok (.aload_n 1, 1) := by decide +kernel
theorem dX14_isPlanned_280 : decode cL_isPlanned 280 = .ok (.iload 5, 2) := by decide +kernel
theorem dX14_isPlanned_282 : decode cL_isPlanned 282 = .ok (.iconst 5, 1) := by decide +kernel
theorem dX14_isPlanned_283 : decode cL_isPlanned 283 = .ok (.invokevirtual 123, 3) := by decide +kernel
theorem dX14_isPlanned_286 : decode cL_isPlanned 286 = .ok (.iconst (-1), 1) := by decide +kernel
theorem dX14_isPlanned_287 : decode cL_isPlanned 287 = .ok (.if_icmp .ne 15, 3) := by decide +kernel
theorem dX14_isPlanned_290 : decode cL_isPlanned 290 = .ok (.aload_n 1, 1) := by decide +kernel
theorem dX14_isPlanned_291 : decode cL_isPlanned 291 = .ok (.iload 5, 2) := by decide +kernel
theorem dX14_isPlanned_293 : decode cL_isPlanned 293 = .ok (.bipush 6, 2) := by decide +kernel
theorem dX14_isPlanned_295 : decode cL_isPlanned 295 = .ok (.invokevirtual 123, 3) := by decide +kernel
theorem dX14_isPlanned_298 : decode cL_isPlanned 298 = .ok (.iconst (-1), 1) := by decide +kernel
theorem dX14_isPlanned_299 : decode cL_isPlanned 299 = .ok (.if_icmp .eq 77, 3) := by decide +kernel
theorem dX14_isPlanned_304 : decode cL_isPlanned 304 = .ok (.iload 6, 2) := by decide +kernel
theorem dX14_isPlanned_306 : decode cL_isPlanned 306 = .ok (.aload_n 1, 1) := by decide +kernel
theorem dX14_isPlanned_307 : decode cL_isPlanned 307 = .ok (.iload 5, 2) := by decide +kernel
theorem dX14_isPlanned_309 : decode cL_isPlanned 309 = .ok (.iconst 3, 1) := by decide +kernel
theorem dX14_isPlanned_310 : decode cL_isPlanned 310 = .ok (.invokevirtual 123, 3) := by decide +kernel
theorem dX14_isPlanned_313 : decode cL_isPlanned 313 = .ok (.if_icmp .lt 49, 3) := by decide +kernel
theorem dX14_isPlanned_316 : decode cL_isPlanned 316 = .ok (.iload 6, 2) := by decide +kernel
theorem dX14_isPlanned_318 : decode cL_isPlanned 318 = .ok (.aload_n 1, 1) := by decide +kernel
theorem dX14_isPlanned_319 : decode cL_isPlanned 319 = .ok (.iload 5, 2) := by decide +kernel
theorem dX14_isPlanned_321 : decode cL_isPlanned 321 = .ok (.iconst 1, 1) := by decide +kernel
theorem dX14_isPlanned_322 : decode cL_isPlanned 322 = .ok (.invokevirtual 123, 3) := by decide +kernel
theorem dX14_isPlanned_325 : decode cL_isPlanned 325 = .ok (.aload_n 1, 1) := by decide +kernel
theorem dX14_isPlanned_326 : decode cL_isPlanned 326 = .ok (.iload 5, 2) := by decide +kernel
theorem dX14_isPlanned_328 : decode cL_isPlanned 328 = .ok (.iconst 3, 1) := by decide +kernel
theorem dX14_isPlanned_329 : decode cL_isPlanned 329 = .ok (.invokevirtual 123, 3) := by decide +kernel
theorem dX14_isPlanned_332 : decode cL_isPlanned 332 = .ok (.invokestatic 126, 3) := by decide +kernel
theorem dX14_isPlanned_335 : decode cL_isPlanned 335 = .ok (.if_icmp .gt 27, 3) := by decide +kernel
theorem dX14_isPlanned_338 : decode cL_isPlanned 338 = .ok (.aload_n 1, 1) := by decide +kernel
theorem dX14_isPlanned_339 : decode cL_isPlanned 339 = .ok (.iload 5, 2) := by decide +kernel
theorem dX14_isPlanned_341 : decode cL_isPlanned 341 = .ok (.iconst 4, 1) := by decide +kernel
theorem dX14_isPlanned_342 : decode cL_isPlanned 342 = .ok (.invokevirtual 123, 3) := by decide +kernel
theorem dX14_isPlanned_345 : decode cL_isPlanned 345 = .ok (.iload 6, 2) := by decide +kernel
theorem dX14_isPlanned_347 : decode cL_isPlanned 347 = .ok (.if_icmp .ne 15, 3) := by decide +kernel
theorem dX14_isPlanned_350 : decode cL_isPlanned 350 = .ok (.aload_n 1, 1) := by decide +kernel
theorem dX14_isPlanned_351 : decode cL_isPlanned 351 = .ok (.iload 5, 2) := by decide +kernel
theorem dX14_isPlanned_353 : decode cL_isPlanned 353 = .ok (.iconst 5, 1) := by decide +kernel
theorem dX14_isPlanned_354 : decode cL_isPlanned 354 = .ok (.invokevirtual 123, 3) := by decide +kernel
theorem dX14_isPlanned_357 : decode cL_isPlanned 357 = .ok (.iload 7, 2) := by decide +kernel
theorem dX14_isPlanned_359 : decode cL_isPlanned 359 = .ok (.if_icmp .eq 5, 3) := by decide +kernel
theorem dX14_isPlanned_364 : decode cL_isPlanned 364 = .ok (.iload_n 3, 1) := by decide +kernel
theorem dX14_isPlanned_365 : decode cL_isPlanned 365 = .ok (.iload 7, 2) := by decide +kernel
theorem dX14_isPlanned_367 : decode cL_isPlanned 367 = .ok (.iadd, 1) := by decide +kernel
theorem dX14_isPlanned_368 : decode cL_isPlanned 368 = .ok (.istore_n 3, 1) := by decide +kernel
theorem dX14_isPlanned_369 : decode cL_isPlanned 369 = .ok (.iload 4, 2) := by decide +kernel
theorem dX14_isPlanned_371 : decode cL_isPlanned 371 = .ok (.iload 6, 2) := by decide +kernel
theorem dX14_isPlanned_373 : decode cL_isPlanned 373 = .ok (.iadd, 1) := by decide +kernel
theorem dX14_isPlanned_374 : decode cL_isPlanned 374 = .ok (.istore 4, 2) := by decide +kernel
theorem dX14_isPlanned_376 : decode cL_isPlanned 376 = .ok (.iinc 5 1, 3) := by decide +kernel
theorem dX14_isPlanned_379 : decode cL_isPlanned 379 = .ok (.goto (-216), 3) := by decide +kernel
theorem dX14_isPlanned_382 : decode cL_isPlanned 382 = .ok (.iload_n 2, 1) := by decide +kernel
theorem dX14_isPlanned_383 : decode cL_isPlanned 383 = .ok (.ifCond .ne 5, 3) := by decide +kernel
theorem dX14_isPlanned_386 : decode cL_isPlanned 386 = .ok (.iconst 1, 1) := by decide +kernel
theorem dX14_isPlanned_387 : decode cL_isPlanned 387 = .ok (.ireturn, 1) := by decide +kernel
theorem dX14_isPlanned_388 : decode cL_isPlanned 388 = .ok (.iconst 0, 1) := by decide +kernel
theorem dX14_isPlanned_389 : decode cL_isPlanned 389 = .ok (.istore 5, 2) := by decide +kernel
theorem dX14_isPlanned_391 : decode cL_isPlanned 391 = .ok (.iload 5, 2) := by decide +kernel
theorem dX14_isPlanned_393 : decode cL_isPlanned 393 = .ok (.aload_n 0, 1) := by decide +kernel
theorem dX14_isPlanned_394 : decode cL_isPlanned 394 = .ok (.invokestatic 66, 3) := by decide +kernel
theorem dX14_isPlanned_397 : decode cL_isPlanned 397 = .ok (.if_icmp .ge 28, 3) := by decide +kernel
theorem dX14_isPlanned_400 : decode cL_isPlanned 400 = .ok (.aload_n 1, 1) := by decide +kernel
theorem dX14_isPlanned_401 : decode cL_isPlanned 401 = .ok (.iload 5, 2) := by decide +kernel
theorem dX14_isPlanned_403 : decode cL_isPlanned 403 = .ok (.iconst 5, 1) := by decide +kernel
theorem dX14_isPlanned_404 : decode cL_isPlanned 404 = .ok (.invokevirtual 120, 3) := by decide +kernel
theorem dX14_isPlanned_407 : decode cL_isPlanned 407 = .ok (.aload_n 1, 1) := by decide +kernel
theorem dX14_isPlanned_408 : decode cL_isPlanned 408 = .ok (.iload 5, 2) := by decide +kernel
theorem dX14_isPlanned_410 : decode cL_isPlanned 410 = .ok (.iconst 3, 1) := by decide +kernel
theorem dX14_isPlanned_411 : decode cL_isPlanned 411 = .ok (.invokevirtual 120, 3) := by decide +kernel
theorem dX14_isPlanned_414 : decode cL_isPlanned 414 = .ok (.if_icmp .le 5, 3) := by decide +kernel
theorem dX14_isPlanned_419 : decode cL_isPlanned 419 = .ok (.iinc 5 1, 3) := by decide +kernel
theorem dX14_isPlanned_422 : decode cL_isPlanned 422 = .ok (.goto (-31), 3) := by decide +kernel
theorem dX14_isPlanned_425 : decode cL_isPlanned 425 = .ok (.aload_n 1, 1) := by decide +kernel
theorem dX14_isPlanned_426 : decode cL_isPlanned 426 = .ok (.bipush 6, 2) := by decide +kernel
theorem dX14_isPlanned_428 : decode cL_isPlanned 428 = .ok (.invokevirtual 111, 3) := by decide +kernel
theorem dX14_isPlanned_431 : decode cL_isPlanned 431 = .ok (.iload_n 3, 1) := by decide +kernel
theorem dX14_isPlanned_432 : decode cL_isPlanned 432 = .ok (.if_icmp .ne 47, 3) := by decide +kernel
theorem dX14_isPlanned_435 : decode cL_isPlanned 435 = .ok (.aload_n 1, 1) := by decide +kernel
theorem dX14_isPlanned_436 : decode cL_isPlanned 436 = .ok (.bipush 7, 2) := by decide +kernel
theorem dX14_isPlanned_438 : decode cL_isPlanned 438 = .ok (.invokevirtual 111, 3) := by decide +kernel
theorem dX14_isPlanned_441 : decode cL_isPlanned 441 = .ok (.iload 4, 2) := by decide +kernel
theorem dX14_isPlanned_443 : decode cL_isPlanned 443 = .ok (.if_icmp .ne 36, 3) := by decide +kernel
theorem dX14_isPlanned_446 : decode cL_isPlanned 446 = .ok (.aload_n 1, 1) := by decide +kernel
theorem dX14_isPlanned_447 : decode cL_isPlanned 447 = .ok (.bipush 12, 2) := by decide +kernel
theorem dX14_isPlanned_449 : decode cL_isPlanned 449 = .ok (.invokevirtual 111, 3) := by decide +kernel
theorem dX14_isPlanned_452 : decode cL_isPlanned 452 = .ok (.aload_n 1, 1) := by decide +kernel
theorem dX14_isPlanned_453 : decode cL_isPlanned 453 = .ok (.iconst 2, 1) := by decide +kernel
theorem dX14_isPlanned_454 : decode cL_isPlanned 454 = .ok (.invokevirtual 111, 3) := by decide +kernel
theorem dX14_isPlanned_457 : decode cL_isPlanned 457 = .ok (.if_icmp .ne 22, 3) := by decide +kernel
theorem dX14_isPlanned_460 : decode cL_isPlanned 460 = .ok (.aload_n 1, 1) := by decide +kernel
theorem dX14_isPlanned_461 : decode cL_isPlanned 461 = .ok (.bipush 23, 2) := by decide +kernel
theorem dX14_isPlanned_463 : decode cL_isPlanned 463 = .ok (.invokevirtual 111, 3) := by decide +kernel
theorem dX14_isPlanned_466 : decode cL_isPlanned 466 = .ok (.ifCond .ne 13, 3) := by decide +kernel
theorem dX14_isPlanned_469 : decode cL_isPlanned 469 = .ok (.aload_n 1, 1) := by decide +kernel
theorem dX14_isPlanned_470 : decode cL_isPlanned 470 = .ok (.bipush 24, 2) := by decide +kernel
theorem dX14_isPlanned_472 : decode cL_isPlanned 472 = .ok (.invokevirtual 111, 3) := by decide +kernel
theorem dX14_isPlanned_475 : decode cL_isPlanned 475 = .ok (.iconst (-1), 1) := by decide +kernel
theorem dX14_isPlanned_476 : decode cL_isPlanned 476 = .ok (.if_icmp .eq 5, 3) := by decide +kernel
theorem dX14_isPlanned_481 : decode cL_isPlanned 481 = .ok (.iconst 0, 1) := by decide +kernel
theorem dX14_isPlanned_482 : decode cL_isPlanned 482 = .ok (.istore 5, 2) := by decide +kernel
theorem dX14_isPlanned_484 : decode cL_isPlanned 484 = .ok (.iload 5, 2) := by decide +kernel
theorem dX14_isPlanned_486 : decode cL_isPlanned 486 = .ok (.aload_n 0, 1) := by decide +kernel
theorem dX14_isPlanned_487 : decode cL_isPlanned 487 = .ok (.invokestatic 40, 3) := by decide +kernel
theorem dX14_isPlanned_490 : decode cL_isPlanned 490 = .ok (.if_icmp .ge 47, 3) := by decide +kernel
theorem dX14_isPlanned_493 : decode cL_isPlanned 493 = .ok (.aload_n 1, 1) := by decide +kernel
theorem dX14_isPlanned_494 : decode cL_isPlanned 494 = .ok (.iload 5, 2) := by decide +kernel
theorem dX14_isPlanned_496 : decode cL_isPlanned 496 = .ok (.bipush 9, 2) := by decide +kernel
theorem dX14_isPlanned_498 : decode cL_isPlanned 498 = .ok (.invokevirtual 123, 3) := by decide +kernel
theorem dX14_isPlanned_501 : decode cL_isPlanned 501 = .ok (.iload_n 3, 1) := by decide +kernel
theorem dX14_isPlanned_502 : decode cL_isPlanned 502 = .ok (.if_icmp .gt 27, 3) := by decide +kernel
theorem dX14_isPlanned_505 : decode cL_isPlanned 505 = .ok (.aload_n 1, 1) := by decide +kernel
theorem dX14_isPlanned_506 : decode cL_isPlanned 506 = .ok (.iload 5, 2) := by decide +kernel
theorem dX14_isPlanned_508 : decode cL_isPlanned 508 = .ok (.bipush 11, 2) := by decide +kernel
theorem dX14_isPlanned_510 : decode cL_isPlanned 510 = .ok (.invokevirtual 123, 3) := by decide +kernel
theorem dX14_isPlanned_513 : decode cL_isPlanned 513 = .ok (.iconst (-1), 1) := by decide +kernel
theorem dX14_isPlanned_514 : decode cL_isPlanned 514 = .ok (.if_icmp .eq 15, 3) := by decide +kernel
theorem dX14_isPlanned_517 : decode cL_isPlanned 517 = .ok (.aload_n 1, 1) := by decide +kernel
theorem dX14_isPlanned_518 : decode cL_isPlanned 518 = .ok (.iload 5, 2) := by decide +kernel
theorem dX14_isPlanned_520 : decode cL_isPlanned 520 = .ok (.bipush 11, 2) := by decide +kernel
theorem dX14_isPlanned_522 : decode cL_isPlanned 522 = .ok (.invokevirtual 123, 3) := by decide +kernel
theorem dX14_isPlanned_525 : decode cL_isPlanned 525 = .ok (.iload_n 3, 1) := by decide +kernel
theorem dX14_isPlanned_526 : decode cL_isPlanned 526 = .ok (.if_icmp .le 5, 3) := by decide +kernel
theorem dX14_isPlanned_531 : decode cL_isPlanned 531 = .ok (.iinc 5 1, 3) := by decide +kernel
theorem dX14_isPlanned_534 : decode cL_isPlanned 534 = .ok (.goto (-50), 3) := by decide +kernel
theorem dX14_isPlanned_537 : decode cL_isPlanned 537 = .ok (.iconst 1, 1) := by decide +kernel
theorem dX14_isPlanned_538 : decode cL_isPlanned 538 = .ok (.ireturn, 1) := by decide +kernel
set_option maxHeartbeats 2000000 in
theorem c14_isPlanned {G : Gl} {l : Launch}  {g0 : Nat → Nat} {M M0 : Mem} {d : Int → Int} (ga : KA g0 G.1) (hI : WI M0 d M) (hS : SP d) (hL : d 121 = libsN g0) (hW : d 122 = worksN g0) : Ct G LY 57 l 10 mW_isPlanned [vR 1030, vR 0] M (RP (fun v M' => WI M0 d M' ∧ v = 1)) := by
  refine R_start (by decide +kernel) (Nat.le_of_ble_eq_true rfl) (fun C hC hRm hlau => ?_)
  show RZ G LY C (Zn G LY 57 C (RP (fun v M' => WI M0 d M' ∧ v = 1))) 0 0 57 0 [some (vR 1030), some (vR 0), none, none, none, none, none, none, none, none] [] M
  have hlb := libsN_b g0
  have hwb := worksN_b g0
  have hII := SP.I hS
  have hwp := hII.wp
  have hwb2 := hII.wb
  have h8 := hS.2.2.2.2.1.1.2
  have hpw : (1 : Int) ≤ 2 ^ (libsN g0).toNat ∧ (2 : Int) ^ (libsN g0).toNat ≤ 512 := pw_bd (by omega) (by omega)
  refine R_aload_1 hC dX14_isPlanned_0 ?_
  refine R_iconst hC dX14_isPlanned_1 ⟨by decide, by decide⟩ ?_
  refine R_callVp (as := [vI _]) hC dX14_isPlanned_2 mo_11_count mlW_111 (by decide) rfl rfl (k_count_5  hI hS) rfl rfl hRm (by decide) (by decide) (Nat.le_of_ble_eq_true rfl) (fun v3 Mc1 hq2 => ?_)
  obtain ⟨hI4, rfl⟩ := hq2
  refine R_iconst hC dX14_isPlanned_5 ⟨by decide, by decide⟩ ?_
  refine R_icmp_ne hC dX14_isPlanned_6 (tgt := 13) (by decide) (fun hb6 => ?_) (fun hb6 => ?_)
  · skip
    replace hb6 := bP_no hb6
    have hnp := noplan_fx hb6
    refine R_iconst hC dX14_isPlanned_13 ⟨by decide, by decide⟩ ?_
    refine R_istore_2 hC dX14_isPlanned_14 rfl ?_
    refine R_iload_2 hC dX14_isPlanned_15 ?_
    refine R_aload_1 hC dX14_isPlanned_16 ?_
    refine R_bipush hC dX14_isPlanned_17 (by decide +kernel) ⟨by decide, by decide⟩ ?_
    refine R_callVp (as := [vI _]) hC dX14_isPlanned_19 mo_11_count mlW_111 (by decide) rfl rfl (k_count_9  hI4 hS) rfl rfl hRm (by decide) (by decide) (Nat.le_of_ble_eq_true rfl) (fun v7 Mc5 hq6 => ?_)
    obtain ⟨hI8, rfl⟩ := hq6
    refine R_if_ne hC dX14_isPlanned_22 (tgt := 29) (by decide) (fun hb22 => ?_) (fun hb22 => ?_)
    · skip
      refine R_iconst hC dX14_isPlanned_29 ⟨by decide, by decide⟩ ?_
      refine R_icmp_ne hC dX14_isPlanned_30 (tgt := 90) (by decide) (fun hb30 => ?_) (fun hb30 => ?_)
      · skip
        exact absurd hb30 (by decide)
      · skip
        refine R_iload_2 hC dX14_isPlanned_33 ?_
        refine R_aload_1 hC dX14_isPlanned_34 ?_
        refine R_bipush hC dX14_isPlanned_35 (by decide +kernel) ⟨by decide, by decide⟩ ?_
        refine R_callVp (as := [vI _]) hC dX14_isPlanned_37 mo_11_count mlW_111 (by decide) rfl rfl (k_count_6  hI8 hS) rfl rfl hRm (by decide) (by decide) (Nat.le_of_ble_eq_true rfl) (fun v11 Mc9 hq10 => ?_)
        obtain ⟨hI12, rfl⟩ := hq10
        refine R_iconst hC dX14_isPlanned_40 ⟨by decide, by decide⟩ ?_
        refine R_icmp_eq hC dX14_isPlanned_41 (tgt := 48) (by decide) (fun hb41 => ?_) (fun hb41 => ?_)
        · skip
          refine R_iconst hC dX14_isPlanned_48 ⟨by decide, by decide⟩ ?_
          refine R_icmp_ne hC dX14_isPlanned_49 (tgt := 90) (by decide) (fun hb49 => ?_) (fun hb49 => ?_)
          · skip
            exact absurd hb49 (by decide)
          · skip
            refine R_iload_2 hC dX14_isPlanned_52 ?_
            refine R_aload_1 hC dX14_isPlanned_53 ?_
            refine R_bipush hC dX14_isPlanned_54 (by decide +kernel) ⟨by decide, by decide⟩ ?_
            refine R_callVp (as := [vI _]) hC dX14_isPlanned_56 mo_11_count mlW_111 (by decide) rfl rfl (k_count_7  hI12 hS) rfl rfl hRm (by decide) (by decide) (Nat.le_of_ble_eq_true rfl) (fun v15 Mc13 hq14 => ?_)
            obtain ⟨hI16, rfl⟩ := hq14
            refine R_iconst hC dX14_isPlanned_59 ⟨by decide, by decide⟩ ?_
            refine R_icmp_eq hC dX14_isPlanned_60 (tgt := 67) (by decide) (fun hb60 => ?_) (fun hb60 => ?_)
            · skip
              refine R_iconst hC dX14_isPlanned_67 ⟨by decide, by decide⟩ ?_
              refine R_icmp_ne hC dX14_isPlanned_68 (tgt := 90) (by decide) (fun hb68 => ?_) (fun hb68 => ?_)
              · skip
                exact absurd hb68 (by decide)
              · skip
                refine R_iload_2 hC dX14_isPlanned_71 ?_
                refine R_aload_1 hC dX14_isPlanned_72 ?_
                refine R_bipush hC dX14_isPlanned_73 (by decide +kernel) ⟨by decide, by decide⟩ ?_
                refine R_callVp (as := [vI _]) hC dX14_isPlanned_75 mo_11_count mlW_111 (by decide) rfl rfl (k_count_8  hI16 hS) rfl rfl hRm (by decide) (by decide) (Nat.le_of_ble_eq_true rfl) (fun v19 Mc17 hq18 => ?_)
                obtain ⟨hI20, rfl⟩ := hq18
                refine R_iconst hC dX14_isPlanned_78 ⟨by decide, by decide⟩ ?_
                refine R_icmp_eq hC dX14_isPlanned_79 (tgt := 86) (by decide) (fun hb79 => ?_) (fun hb79 => ?_)
                · skip
                  refine R_iconst hC dX14_isPlanned_86 ⟨by decide, by decide⟩ ?_
                  refine R_icmp_eq hC dX14_isPlanned_87 (tgt := 92) (by decide) (fun hb87 => ?_) (fun hb87 => ?_)
                  · skip
                    refine R_aload_1 hC dX14_isPlanned_92 ?_
                    refine R_aload_1 hC dX14_isPlanned_93 ?_
                    refine R_bipush hC dX14_isPlanned_94 (by decide +kernel) ⟨by decide, by decide⟩ ?_
                    refine R_callVp (as := [vI _]) hC dX14_isPlanned_96 mo_11_count mlW_111 (by decide) rfl rfl (k_count_10  hI20 hS) rfl rfl hRm (by decide) (by decide) (Nat.le_of_ble_eq_true rfl) (fun v23 Mc21 hq22 => ?_)
                    obtain ⟨hI24, rfl⟩ := hq22
                    refine R_callVp (as := [vI _]) hC dX14_isPlanned_99 mo_11_lack mlW_114 (by decide) rfl rfl (k_lack  hI24 hS hwb2.1 hwb2.2) rfl rfl hRm (by decide) (by decide) (Nat.le_of_ble_eq_true rfl) (fun v27 Mc25 hq26 => ?_)
                    obtain ⟨hI28, rfl⟩ := hq26
                    refine R_aload_1 hC dX14_isPlanned_102 ?_
                    refine R_bipush hC dX14_isPlanned_103 (by decide +kernel) ⟨by decide, by decide⟩ ?_
                    refine R_callVp (as := [vI _]) hC dX14_isPlanned_105 mo_11_count mlW_111 (by decide) rfl rfl (k_count_9  hI28 hS) rfl rfl hRm (by decide) (by decide) (Nat.le_of_ble_eq_true rfl) (fun v31 Mc29 hq30 => ?_)
                    obtain ⟨hI32, rfl⟩ := hq30
                    refine R_icmp_ne hC dX14_isPlanned_108 (tgt := 119) (by decide) (fun hb108 => ?_) (fun hb108 => ?_)
                    · skip
                      exact absurd rfl hb108
                    · skip
                      refine R_aload_1 hC dX14_isPlanned_111 ?_
                      refine R_iconst hC dX14_isPlanned_112 ⟨by decide, by decide⟩ ?_
                      refine R_callVp (as := [vI _]) hC dX14_isPlanned_113 mo_11_lack mlW_114 (by decide) rfl rfl (k_lack  hI32 hS (by decide) (by rw [hL]; omega)) rfl rfl hRm (by decide) (by decide) (Nat.le_of_ble_eq_true rfl) (fun v35 Mc33 hq34 => ?_)
                      obtain ⟨hI36, rfl⟩ := hq34
                      refine R_if_eq hC dX14_isPlanned_116 (tgt := 121) (by decide) (fun hb116 => ?_) (fun hb116 => ?_)
                      · skip
                        refine R_iconst hC dX14_isPlanned_121 ⟨by decide, by decide⟩ ?_
                        refine R_istore_3 hC dX14_isPlanned_122 rfl ?_
                        have L123 : ∀ (mq : Nat) (t : Int) (M1 : Mem), (0 ≤ t) → (t ≤ 2 ^ (libsN g0).toNat) → (WI M0 d M1) → (2 ^ (libsN g0).toNat - t).toNat < mq → RZ G LY C (Zn G LY 57 C (RP (fun v M' => WI M0 d M' ∧ v = 1))) 0 0 57 123 [some (vR 1030), some (vR 0), some (vI 0), some (vI t), none, none, none, none, none, none] [] M1 := by
                          intro mq
                          induction mq with
                          | zero =>
                            intro t M1 t0 t1 hI hm
                            exact absurd hm (Nat.not_lt_zero _)
                          | succ mq ih123 =>
                            intro t M1 t0 t1 hI hm123
                            refine R_iload_3 hC dX14_isPlanned_123 ?_
                            refine R_iconst hC dX14_isPlanned_124 ⟨by decide, by decide⟩ ?_
                            refine R_aload_0 hC dX14_isPlanned_125 ?_
                            refine R_callSq (as := [vR _]) hC dX14_isPlanned_126 momW_libraries mlW_40 (l_libs  ga) rfl rfl hRm (by decide) (by decide) (Nat.le_of_ble_eq_true rfl) ?_
                            refine R_shl1 hC dX14_isPlanned_129 (by omega) (by omega) ?_
                            refine R_icmp_ge hC dX14_isPlanned_130 (tgt := 155) (by decide) (fun hb130 => ?_) (fun hb130 => ?_)
                            · skip
                              refine R_iconst hC dX14_isPlanned_155 ⟨by decide, by decide⟩ ?_
                              refine R_istore_3 hC dX14_isPlanned_156 rfl ?_
                              refine R_iconst hC dX14_isPlanned_157 ⟨by decide, by decide⟩ ?_
                              refine R_istore_4 hC dX14_isPlanned_158 rfl ?_
                              refine R_iconst hC dX14_isPlanned_160 ⟨by decide, by decide⟩ ?_
                              refine R_istore_5 hC dX14_isPlanned_161 rfl ?_
                              have L163 : ∀ (mq : Nat) (sp : Int) (co : Int) (x : Int) (M2 : Mem), (0 ≤ x) → (x ≤ libsN g0) → (WI M0 d M2) → (sp = itc (planI (insOf d)) (sm x.toNat (fun x => sm (worksN g0).toNat (fun w => nn d x w * d (10 + w)))) 0) → (co = itc (planI (insOf d)) (sm x.toNat (fun x => sm (worksN g0).toNat (fun w => nn d x w))) 0) → (0 ≤ sp ∧ sp ≤ 162 * x) → (0 ≤ co ∧ co ≤ 18 * x) → (libsN g0 - x).toNat < mq → RZ G LY C (Zn G LY 57 C (RP (fun v M' => WI M0 d M' ∧ v = 1))) 0 0 57 163 [some (vR 1030), some (vR 0), some (vI 0), some (vI sp), some (vI co), some (vI x), none, none, none, none] [] M2 := by
                                intro mq
                                induction mq with
                                | zero =>
                                  intro sp co x M2 x0 x1 hI hsp hco spb cob hm
                                  exact absurd hm (Nat.not_lt_zero _)
                                | succ mq ih163 =>
                                  intro sp co x M2 x0 x1 hI hsp hco spb cob hm163
                                  refine R_iload_5 hC dX14_isPlanned_163 ?_
                                  refine R_aload_0 hC dX14_isPlanned_165 ?_
                                  refine R_callSq (as := [vR _]) hC dX14_isPlanned_166 momW_libraries mlW_40 (l_libs  ga) rfl rfl hRm (by decide) (by decide) (Nat.le_of_ble_eq_true rfl) ?_
                                  refine R_icmp_ge hC dX14_isPlanned_169 (tgt := 382) (by decide) (fun hb169 => ?_) (fun hb169 => ?_)
                                  · skip
                                    have ex : x = libsN g0 := by omega
                                    rw [ex] at hsp hco
                                    refine R_iload_2 hC dX14_isPlanned_382 ?_
                                    refine R_if_ne hC dX14_isPlanned_383 (tgt := 388) (by decide) (fun hb383 => ?_) (fun hb383 => ?_)
                                    · skip
                                      exact absurd hb383 (by decide)
                                    · skip
                                      refine R_iconst hC dX14_isPlanned_386 ⟨by decide, by decide⟩ ?_
                                      exact R_zreturn hC dX14_isPlanned_387 rfl (.inr rfl) (ret_P ⟨hI, rfl⟩)
                                  · skip
                                    refine R_iconst hC dX14_isPlanned_172 ⟨by decide, by decide⟩ ?_
                                    refine R_istore_6 hC dX14_isPlanned_173 rfl ?_
                                    refine R_iconst hC dX14_isPlanned_175 ⟨by decide, by decide⟩ ?_
                                    refine R_istore_7 hC dX14_isPlanned_176 rfl ?_
                                    refine R_iconst hC dX14_isPlanned_178 ⟨by decide, by decide⟩ ?_
                                    refine R_istore_8 hC dX14_isPlanned_179 rfl ?_
                                    have L181 : ∀ (mq : Nat) (it : Int) (wo : Int) (w : Int) (M3 : Mem), (0 ≤ w) → (w ≤ worksN g0) → (WI M0 d M3) → (it = sm w.toNat (fun w => nn d x w)) → (wo = sm w.toNat (fun w => nn d x w * d (10 + w))) → (-w ≤ it ∧ it ≤ 3 * w) → (-(9 * w) ≤ wo ∧ wo ≤ 27 * w) → (worksN g0 - w).toNat < mq → RZ G LY C (Zn G LY 57 C (RP (fun v M' => WI M0 d M' ∧ v = 1))) 0 0 57 181 [some (vR 1030), some (vR 0), some (vI 0), some (vI sp), some (vI co), some (vI x), some (vI it), some (vI wo), some (vI w), none] [] M3 := by
                                      intro mq
                                      induction mq with
                                      | zero =>
                                        intro it wo w M3 w0 w1 hI hit hwo itb wob hm
                                        exact absurd hm (Nat.not_lt_zero _)
                                      | succ mq ih181 =>
                                        intro it wo w M3 w0 w1 hI hit hwo itb wob hm181
                                        have hnb := nn_b (w := w) hS x0 w0
                                        refine R_iload_8 hC dX14_isPlanned_181 ?_
                                        refine R_aload_0 hC dX14_isPlanned_183 ?_
                                        refine R_callSq (as := [vR _]) hC dX14_isPlanned_184 momW_works mlW_66 (l_works  ga) rfl rfl hRm (by decide) (by decide) (Nat.le_of_ble_eq_true rfl) ?_
                                        refine R_icmp_ge hC dX14_isPlanned_187 (tgt := 264) (by decide) (fun hb187 => ?_) (fun hb187 => ?_)
                                        · skip
                                          have ew : w = worksN g0 := by omega
                                          rw [ew] at hit hwo
                                          have hib : -1 * 3 ≤ it ∧ it ≤ 9 := by omega
                                          refine R_iload_2 hC dX14_isPlanned_264 ?_
                                          refine R_if_ne hC dX14_isPlanned_265 (tgt := 304) (by decide) (fun hb265 => ?_) (fun hb265 => ?_)
                                          · skip
                                            exact absurd hb265 (by decide)
                                          · skip
                                            refine R_aload_1 hC dX14_isPlanned_268 ?_
                                            refine R_iload_5 hC dX14_isPlanned_269 ?_
                                            refine R_iconst hC dX14_isPlanned_271 ⟨by decide, by decide⟩ ?_
                                            refine R_callVp (as := [vI _, vI _]) hC dX14_isPlanned_272 mo_11_library mlW_123 (by decide) rfl rfl (k_library_4  hI hS (by omega) (by omega)) rfl rfl hRm (by decide) (by decide) (Nat.le_of_ble_eq_true rfl) (fun v39 Mc37 hq38 => ?_)
                                            obtain ⟨hI40, rfl⟩ := hq38
                                            refine R_iconst hC dX14_isPlanned_275 ⟨by decide, by decide⟩ ?_
                                            refine R_icmp_ne hC dX14_isPlanned_276 (tgt := 302) (by decide) (fun hb276 => ?_) (fun hb276 => ?_)
                                            · skip
                                              exact absurd (itc_f hb6) hb276
                                            · skip
                                              refine R_aload_1 hC dX14_isPlanned_279 ?_
                                              refine R_iload_5 hC dX14_isPlanned_280 ?_
                                              refine R_iconst hC dX14_isPlanned_282 ⟨by decide, by decide⟩ ?_
                                              refine R_callVp (as := [vI _, vI _]) hC dX14_isPlanned_283 mo_11_library mlW_123 (by decide) rfl rfl (k_library_5  hI40 hS (by omega) (by omega)) rfl rfl hRm (by decide) (by decide) (Nat.le_of_ble_eq_true rfl) (fun v43 Mc41 hq42 => ?_)
                                              obtain ⟨hI44, rfl⟩ := hq42
                                              refine R_iconst hC dX14_isPlanned_286 ⟨by decide, by decide⟩ ?_
                                              refine R_icmp_ne hC dX14_isPlanned_287 (tgt := 302) (by decide) (fun hb287 => ?_) (fun hb287 => ?_)
                                              · skip
                                                exact absurd (itc_f hb6) hb287
                                              · skip
                                                refine R_aload_1 hC dX14_isPlanned_290 ?_
                                                refine R_iload_5 hC dX14_isPlanned_291 ?_
                                                refine R_bipush hC dX14_isPlanned_293 (by decide +kernel) ⟨by decide, by decide⟩ ?_
                                                refine R_callVp (as := [vI _, vI _]) hC dX14_isPlanned_295 mo_11_library mlW_123 (by decide) rfl rfl (k_library_6  hI44 hS (by omega) (by omega)) rfl rfl hRm (by decide) (by decide) (Nat.le_of_ble_eq_true rfl) (fun v47 Mc45 hq46 => ?_)
                                                have hI48 := hq46.1
                                                refine R_iconst hC dX14_isPlanned_298 ⟨by decide, by decide⟩ ?_
                                                refine R_icmp_eq hC dX14_isPlanned_299 (tgt := 376) (by decide) (fun hb299 => ?_) (fun hb299 => ?_)
                                                · skip
                                                  refine R_iinc_5 hC dX14_isPlanned_376 rfl ⟨by omega, by omega⟩ ?_
                                                  refine R_goto hC dX14_isPlanned_379 (tgt := 163) (by decide) ?_
                                                  refine R_weak (subL_c (subL_c (subL_c (subL_c (subL_c (subL_c (subL_d (subL_d (subL_d (subL_c subL_n)))))))))) ?_
                                                  exact ih163 _ _ _ _ (by omega) (by omega) hI48 (by
                                                    first
                                                      | (rw [itc_t hb6] at hsp ⊢; rw [sm_to x0 rfl, ← hsp, ← hwo])
                                                      | (rw [itc_f hb6] at hsp ⊢; exact hsp)) (by
                                                    first
                                                      | (rw [itc_t hb6] at hco ⊢; rw [sm_to x0 rfl, ← hco, ← hit])
                                                      | (rw [itc_f hb6] at hco ⊢; exact hco)) (by omega) (by omega) (by omega)
                                                · skip
                                                  exact absurd (hq46.2 hb6) hb299
                                        · skip
                                          have hzb := nnz_b (w := w) hS x0 w0 (by omega)
                                          refine R_aload_1 hC dX14_isPlanned_190 ?_
                                          refine R_iload_5 hC dX14_isPlanned_191 ?_
                                          refine R_iload_8 hC dX14_isPlanned_193 ?_
                                          refine R_iconst hC dX14_isPlanned_195 ⟨by decide, by decide⟩ ?_
                                          refine R_callVp (as := [vI _, vI _, vI _]) hC dX14_isPlanned_196 mo_11_held mlW_117 (by decide) rfl rfl (k_held_n  hI hS (by omega) (by omega) (by omega) (by omega)) rfl rfl hRm (by decide) (by decide) (Nat.le_of_ble_eq_true rfl) (fun v51 Mc49 hq50 => ?_)
                                          obtain ⟨hI52, rfl⟩ := hq50
                                          refine R_istore_9 hC dX14_isPlanned_199 rfl ?_
                                          refine R_iload_2 hC dX14_isPlanned_201 ?_
                                          refine R_if_ne hC dX14_isPlanned_202 (tgt := 211) (by decide) (fun hb202 => ?_) (fun hb202 => ?_)
                                          · skip
                                            exact absurd hb202 (by decide)
                                          · skip
                                            refine R_iload_9 hC dX14_isPlanned_205 ?_
                                            refine R_iconst hC dX14_isPlanned_207 ⟨by decide, by decide⟩ ?_
                                            refine R_icmp_ne hC dX14_isPlanned_208 (tgt := 234) (by decide) (fun hb208 => ?_) (fun hb208 => ?_)
                                            · skip
                                              exact absurd (nn_f hb6) hb208
                                            · skip
                                              refine R_iload_2 hC dX14_isPlanned_211 ?_
                                              refine R_if_eq hC dX14_isPlanned_212 (tgt := 236) (by decide) (fun hb212 => ?_) (fun hb212 => ?_)
                                              · skip
                                                refine R_iload_6 hC dX14_isPlanned_236 ?_
                                                refine R_iload_9 hC dX14_isPlanned_238 ?_
                                                refine R_iadd hC dX14_isPlanned_240 ⟨by omega, by omega⟩ ?_
                                                refine R_istore_6 hC dX14_isPlanned_241 rfl ?_
                                                refine R_iload_7 hC dX14_isPlanned_243 ?_
                                                refine R_iload_9 hC dX14_isPlanned_245 ?_
                                                refine R_aload_1 hC dX14_isPlanned_247 ?_
                                                refine R_iload_8 hC dX14_isPlanned_248 ?_
                                                refine R_iconst hC dX14_isPlanned_250 ⟨by decide, by decide⟩ ?_
                                                refine R_callVp (as := [vI _, vI _]) hC dX14_isPlanned_251 mo_11_work mlW_120 (by decide) rfl rfl (k_work_0  hI52 hS (by omega) (by omega)) rfl rfl hRm (by decide) (by decide) (Nat.le_of_ble_eq_true rfl) (fun v55 Mc53 hq54 => ?_)
                                                obtain ⟨hI56, rfl⟩ := hq54
                                                refine R_imul hC dX14_isPlanned_254 ⟨by omega, by omega⟩ ?_
                                                refine R_iadd hC dX14_isPlanned_255 ⟨by omega, by omega⟩ ?_
                                                refine R_istore_7 hC dX14_isPlanned_256 rfl ?_
                                                refine R_iinc_8 hC dX14_isPlanned_258 rfl ⟨by omega, by omega⟩ ?_
                                                refine R_goto hC dX14_isPlanned_261 (tgt := 181) (by decide) ?_
                                                refine R_weak (subL_c (subL_c (subL_c (subL_c (subL_c (subL_c (subL_c (subL_c (subL_c (subL_d subL_n)))))))))) ?_
                                                exact ih181 _ _ _ _ (by omega) (by omega) hI56 (by rw [sm_to w0 rfl, ← hit]) (by rw [sm_to w0 rfl, ← hwo]) (by omega) (by omega) (by omega)
                                              · skip
                                                exact absurd hb212 (by decide)
                                    exact L181 _ 0 0 0 _ (by omega) (by omega) hI rfl rfl (by decide) (by decide) (Nat.lt_succ_self _)
                              exact L163 _ 0 0 0 _ (by omega) (by omega) hI (by unfold itc; split <;> rfl) (by unfold itc; split <;> rfl) (by decide) (by decide) (Nat.lt_succ_self _)
                            · skip
                              refine R_aload_1 hC dX14_isPlanned_133 ?_
                              refine R_iload_3 hC dX14_isPlanned_134 ?_
                              refine R_callVp (as := [vI _]) hC dX14_isPlanned_135 mo_11_lack mlW_114 (by decide) rfl rfl (k_lack  hI hS (by omega) (by rw [hL]; exact hb130)) rfl rfl hRm (by decide) (by decide) (Nat.le_of_ble_eq_true rfl) (fun v59 Mc57 hq58 => ?_)
                              obtain ⟨hI60, rfl⟩ := hq58
                              refine R_aload_1 hC dX14_isPlanned_138 ?_
                              refine R_bipush hC dX14_isPlanned_139 (by decide +kernel) ⟨by decide, by decide⟩ ?_
                              refine R_callVp (as := [vI _]) hC dX14_isPlanned_141 mo_11_count mlW_111 (by decide) rfl rfl (k_count_9  hI60 hS) rfl rfl hRm (by decide) (by decide) (Nat.le_of_ble_eq_true rfl) (fun v63 Mc61 hq62 => ?_)
                              obtain ⟨hI64, rfl⟩ := hq62
                              refine R_icmp_le hC dX14_isPlanned_144 (tgt := 149) (by decide) (fun hb144 => ?_) (fun hb144 => ?_)
                              · skip
                                refine R_iinc_3 hC dX14_isPlanned_149 rfl ⟨by omega, by omega⟩ ?_
                                refine R_goto hC dX14_isPlanned_152 (tgt := 123) (by decide) ?_
                                exact ih123 _ _ (by omega) (by omega) hI64 (by omega)
                              · skip
                                exact absurd (lk_le hS t0 (by rw [hL]; exact hb130)) (by omega)
                        exact L123 _ 0 _ (by omega) (by omega) hI36 (Nat.lt_succ_self _)
                      · skip
                        exact absurd (lack0 hII) hb116
                  · skip
                    exact absurd hb87 (by decide)
                · skip
                  exact absurd (itc_f hb6) hb79
            · skip
              exact absurd hnp.2 hb60
        · skip
          exact absurd hnp.1 hb41
    · skip
      exact absurd (hwp.mp hb22) hb6
  · skip
    replace hb6 := bP_o hb6
    obtain ⟨pw1, pw2, pw3, pw4, pw5, pw6, pw7⟩ := plan_fx hS hb6 hL hW
    refine R_iconst hC dX14_isPlanned_9 ⟨by decide, by decide⟩ ?_
    refine R_goto hC dX14_isPlanned_10 (tgt := 14) (by decide) ?_
    refine R_istore_2 hC dX14_isPlanned_14 rfl ?_
    refine R_iload_2 hC dX14_isPlanned_15 ?_
    refine R_aload_1 hC dX14_isPlanned_16 ?_
    refine R_bipush hC dX14_isPlanned_17 (by decide +kernel) ⟨by decide, by decide⟩ ?_
    refine R_callVp (as := [vI _]) hC dX14_isPlanned_19 mo_11_count mlW_111 (by decide) rfl rfl (k_count_9  hI4 hS) rfl rfl hRm (by decide) (by decide) (Nat.le_of_ble_eq_true rfl) (fun v67 Mc65 hq66 => ?_)
    obtain ⟨hI68, rfl⟩ := hq66
    refine R_if_ne hC dX14_isPlanned_22 (tgt := 29) (by decide) (fun hb22 => ?_) (fun hb22 => ?_)
    · skip
      exact absurd (hwp.mpr hb6) hb22
    · skip
      refine R_iconst hC dX14_isPlanned_25 ⟨by decide, by decide⟩ ?_
      refine R_goto hC dX14_isPlanned_26 (tgt := 30) (by decide) ?_
      refine R_icmp_ne hC dX14_isPlanned_30 (tgt := 90) (by decide) (fun hb30 => ?_) (fun hb30 => ?_)
      · skip
        exact absurd hb30 (by decide)
      · skip
        refine R_iload_2 hC dX14_isPlanned_33 ?_
        refine R_aload_1 hC dX14_isPlanned_34 ?_
        refine R_bipush hC dX14_isPlanned_35 (by decide +kernel) ⟨by decide, by decide⟩ ?_
        refine R_callVp (as := [vI _]) hC dX14_isPlanned_37 mo_11_count mlW_111 (by decide) rfl rfl (k_count_6  hI68 hS) rfl rfl hRm (by decide) (by decide) (Nat.le_of_ble_eq_true rfl) (fun v71 Mc69 hq70 => ?_)
        obtain ⟨hI72, rfl⟩ := hq70
        refine R_iconst hC dX14_isPlanned_40 ⟨by decide, by decide⟩ ?_
        refine R_icmp_eq hC dX14_isPlanned_41 (tgt := 48) (by decide) (fun hb41 => ?_) (fun hb41 => ?_)
        · skip
          exact absurd hb6 ((SPC_n hII).mp hb41)
        · skip
          refine R_iconst hC dX14_isPlanned_44 ⟨by decide, by decide⟩ ?_
          refine R_goto hC dX14_isPlanned_45 (tgt := 49) (by decide) ?_
          refine R_icmp_ne hC dX14_isPlanned_49 (tgt := 90) (by decide) (fun hb49 => ?_) (fun hb49 => ?_)
          · skip
            exact absurd hb49 (by decide)
          · skip
            refine R_iload_2 hC dX14_isPlanned_52 ?_
            refine R_aload_1 hC dX14_isPlanned_53 ?_
            refine R_bipush hC dX14_isPlanned_54 (by decide +kernel) ⟨by decide, by decide⟩ ?_
            refine R_callVp (as := [vI _]) hC dX14_isPlanned_56 mo_11_count mlW_111 (by decide) rfl rfl (k_count_7  hI72 hS) rfl rfl hRm (by decide) (by decide) (Nat.le_of_ble_eq_true rfl) (fun v75 Mc73 hq74 => ?_)
            obtain ⟨hI76, rfl⟩ := hq74
            refine R_iconst hC dX14_isPlanned_59 ⟨by decide, by decide⟩ ?_
            refine R_icmp_eq hC dX14_isPlanned_60 (tgt := 67) (by decide) (fun hb60 => ?_) (fun hb60 => ?_)
            · skip
              rw [pw7] at hb60
              exact absurd (sm_nn hS hb6 (libsN g0) (worksN g0) (by omega) (by omega)) (by omega)
            · skip
              refine R_iconst hC dX14_isPlanned_63 ⟨by decide, by decide⟩ ?_
              refine R_goto hC dX14_isPlanned_64 (tgt := 68) (by decide) ?_
              refine R_icmp_ne hC dX14_isPlanned_68 (tgt := 90) (by decide) (fun hb68 => ?_) (fun hb68 => ?_)
              · skip
                exact absurd hb68 (by decide)
              · skip
                refine R_iload_2 hC dX14_isPlanned_71 ?_
                refine R_aload_1 hC dX14_isPlanned_72 ?_
                refine R_bipush hC dX14_isPlanned_73 (by decide +kernel) ⟨by decide, by decide⟩ ?_
                refine R_callVp (as := [vI _]) hC dX14_isPlanned_75 mo_11_count mlW_111 (by decide) rfl rfl (k_count_8  hI76 hS) rfl rfl hRm (by decide) (by decide) (Nat.le_of_ble_eq_true rfl) (fun v79 Mc77 hq78 => ?_)
                obtain ⟨hI80, rfl⟩ := hq78
                refine R_iconst hC dX14_isPlanned_78 ⟨by decide, by decide⟩ ?_
                refine R_icmp_eq hC dX14_isPlanned_79 (tgt := 86) (by decide) (fun hb79 => ?_) (fun hb79 => ?_)
                · skip
                  rw [itc_t hb6] at hb79
                  exact absurd (chgs_0 hS (plT (insOf d))) (by omega)
                · skip
                  refine R_iconst hC dX14_isPlanned_82 ⟨by decide, by decide⟩ ?_
                  refine R_goto hC dX14_isPlanned_83 (tgt := 87) (by decide) ?_
                  refine R_icmp_eq hC dX14_isPlanned_87 (tgt := 92) (by decide) (fun hb87 => ?_) (fun hb87 => ?_)
                  · skip
                    refine R_aload_1 hC dX14_isPlanned_92 ?_
                    refine R_aload_1 hC dX14_isPlanned_93 ?_
                    refine R_bipush hC dX14_isPlanned_94 (by decide +kernel) ⟨by decide, by decide⟩ ?_
                    refine R_callVp (as := [vI _]) hC dX14_isPlanned_96 mo_11_count mlW_111 (by decide) rfl rfl (k_count_10  hI80 hS) rfl rfl hRm (by decide) (by decide) (Nat.le_of_ble_eq_true rfl) (fun v83 Mc81 hq82 => ?_)
                    obtain ⟨hI84, rfl⟩ := hq82
                    refine R_callVp (as := [vI _]) hC dX14_isPlanned_99 mo_11_lack mlW_114 (by decide) rfl rfl (k_lack  hI84 hS hwb2.1 hwb2.2) rfl rfl hRm (by decide) (by decide) (Nat.le_of_ble_eq_true rfl) (fun v87 Mc85 hq86 => ?_)
                    obtain ⟨hI88, rfl⟩ := hq86
                    refine R_aload_1 hC dX14_isPlanned_102 ?_
                    refine R_bipush hC dX14_isPlanned_103 (by decide +kernel) ⟨by decide, by decide⟩ ?_
                    refine R_callVp (as := [vI _]) hC dX14_isPlanned_105 mo_11_count mlW_111 (by decide) rfl rfl (k_count_9  hI88 hS) rfl rfl hRm (by decide) (by decide) (Nat.le_of_ble_eq_true rfl) (fun v91 Mc89 hq90 => ?_)
                    obtain ⟨hI92, rfl⟩ := hq90
                    refine R_icmp_ne hC dX14_isPlanned_108 (tgt := 119) (by decide) (fun hb108 => ?_) (fun hb108 => ?_)
                    · skip
                      exact absurd rfl hb108
                    · skip
                      refine R_aload_1 hC dX14_isPlanned_111 ?_
                      refine R_iconst hC dX14_isPlanned_112 ⟨by decide, by decide⟩ ?_
                      refine R_callVp (as := [vI _]) hC dX14_isPlanned_113 mo_11_lack mlW_114 (by decide) rfl rfl (k_lack  hI92 hS (by decide) (by rw [hL]; omega)) rfl rfl hRm (by decide) (by decide) (Nat.le_of_ble_eq_true rfl) (fun v95 Mc93 hq94 => ?_)
                      obtain ⟨hI96, rfl⟩ := hq94
                      refine R_if_eq hC dX14_isPlanned_116 (tgt := 121) (by decide) (fun hb116 => ?_) (fun hb116 => ?_)
                      · skip
                        refine R_iconst hC dX14_isPlanned_121 ⟨by decide, by decide⟩ ?_
                        refine R_istore_3 hC dX14_isPlanned_122 rfl ?_
                        have L123 : ∀ (mq : Nat) (t : Int) (M1 : Mem), (0 ≤ t) → (t ≤ 2 ^ (libsN g0).toNat) → (WI M0 d M1) → (2 ^ (libsN g0).toNat - t).toNat < mq → RZ G LY C (Zn G LY 57 C (RP (fun v M' => WI M0 d M' ∧ v = 1))) 0 0 57 123 [some (vR 1030), some (vR 0), some (vI 1), some (vI t), none, none, none, none, none, none] [] M1 := by
                          intro mq
                          induction mq with
                          | zero =>
                            intro t M1 t0 t1 hI hm
                            exact absurd hm (Nat.not_lt_zero _)
                          | succ mq ih123 =>
                            intro t M1 t0 t1 hI hm123
                            refine R_iload_3 hC dX14_isPlanned_123 ?_
                            refine R_iconst hC dX14_isPlanned_124 ⟨by decide, by decide⟩ ?_
                            refine R_aload_0 hC dX14_isPlanned_125 ?_
                            refine R_callSq (as := [vR _]) hC dX14_isPlanned_126 momW_libraries mlW_40 (l_libs  ga) rfl rfl hRm (by decide) (by decide) (Nat.le_of_ble_eq_true rfl) ?_
                            refine R_shl1 hC dX14_isPlanned_129 (by omega) (by omega) ?_
                            refine R_icmp_ge hC dX14_isPlanned_130 (tgt := 155) (by decide) (fun hb130 => ?_) (fun hb130 => ?_)
                            · skip
                              refine R_iconst hC dX14_isPlanned_155 ⟨by decide, by decide⟩ ?_
                              refine R_istore_3 hC dX14_isPlanned_156 rfl ?_
                              refine R_iconst hC dX14_isPlanned_157 ⟨by decide, by decide⟩ ?_
                              refine R_istore_4 hC dX14_isPlanned_158 rfl ?_
                              refine R_iconst hC dX14_isPlanned_160 ⟨by decide, by decide⟩ ?_
                              refine R_istore_5 hC dX14_isPlanned_161 rfl ?_
                              have L163 : ∀ (mq : Nat) (sp : Int) (co : Int) (x : Int) (M2 : Mem), (0 ≤ x) → (x ≤ libsN g0) → (WI M0 d M2) → (sp = itc (planI (insOf d)) (sm x.toNat (fun x => sm (worksN g0).toNat (fun w => nn d x w * d (10 + w)))) 0) → (co = itc (planI (insOf d)) (sm x.toNat (fun x => sm (worksN g0).toNat (fun w => nn d x w))) 0) → (0 ≤ sp ∧ sp ≤ 162 * x) → (0 ≤ co ∧ co ≤ 18 * x) → (libsN g0 - x).toNat < mq → RZ G LY C (Zn G LY 57 C (RP (fun v M' => WI M0 d M' ∧ v = 1))) 0 0 57 163 [some (vR 1030), some (vR 0), some (vI 1), some (vI sp), some (vI co), some (vI x), none, none, none, none] [] M2 := by
                                intro mq
                                induction mq with
                                | zero =>
                                  intro sp co x M2 x0 x1 hI hsp hco spb cob hm
                                  exact absurd hm (Nat.not_lt_zero _)
                                | succ mq ih163 =>
                                  intro sp co x M2 x0 x1 hI hsp hco spb cob hm163
                                  refine R_iload_5 hC dX14_isPlanned_163 ?_
                                  refine R_aload_0 hC dX14_isPlanned_165 ?_
                                  refine R_callSq (as := [vR _]) hC dX14_isPlanned_166 momW_libraries mlW_40 (l_libs  ga) rfl rfl hRm (by decide) (by decide) (Nat.le_of_ble_eq_true rfl) ?_
                                  refine R_icmp_ge hC dX14_isPlanned_169 (tgt := 382) (by decide) (fun hb169 => ?_) (fun hb169 => ?_)
                                  · skip
                                    have ex : x = libsN g0 := by omega
                                    rw [ex] at hsp hco
                                    refine R_iload_2 hC dX14_isPlanned_382 ?_
                                    refine R_if_ne hC dX14_isPlanned_383 (tgt := 388) (by decide) (fun hb383 => ?_) (fun hb383 => ?_)
                                    · skip
                                      refine R_iconst hC dX14_isPlanned_388 ⟨by decide, by decide⟩ ?_
                                      refine R_istore_5 hC dX14_isPlanned_389 rfl ?_
                                      have L391 : ∀ (mq : Nat) (w : Int) (M4 : Mem), (0 ≤ w) → (w ≤ worksN g0) → (WI M0 d M4) → (worksN g0 - w).toNat < mq → RZ G LY C (Zn G LY 57 C (RP (fun v M' => WI M0 d M' ∧ v = 1))) 0 0 57 391 [some (vR 1030), some (vR 0), some (vI 1), some (vI sp), some (vI co), some (vI w), none, none, none, none] [] M4 := by
                                        intro mq
                                        induction mq with
                                        | zero =>
                                          intro w M4 w0 w1 hI hm
                                          exact absurd hm (Nat.not_lt_zero _)
                                        | succ mq ih391 =>
                                          intro w M4 w0 w1 hI hm391
                                          refine R_iload_5 hC dX14_isPlanned_391 ?_
                                          refine R_aload_0 hC dX14_isPlanned_393 ?_
                                          refine R_callSq (as := [vR _]) hC dX14_isPlanned_394 momW_works mlW_66 (l_works  ga) rfl rfl hRm (by decide) (by decide) (Nat.le_of_ble_eq_true rfl) ?_
                                          refine R_icmp_ge hC dX14_isPlanned_397 (tgt := 425) (by decide) (fun hb397 => ?_) (fun hb397 => ?_)
                                          · skip
                                            refine R_aload_1 hC dX14_isPlanned_425 ?_
                                            refine R_bipush hC dX14_isPlanned_426 (by decide +kernel) ⟨by decide, by decide⟩ ?_
                                            refine R_callVp (as := [vI _]) hC dX14_isPlanned_428 mo_11_count mlW_111 (by decide) rfl rfl (k_count_6  hI hS) rfl rfl hRm (by decide) (by decide) (Nat.le_of_ble_eq_true rfl) (fun v99 Mc97 hq98 => ?_)
                                            obtain ⟨hI100, rfl⟩ := hq98
                                            refine R_iload_3 hC dX14_isPlanned_431 ?_
                                            refine R_icmp_ne hC dX14_isPlanned_432 (tgt := 479) (by decide) (fun hb432 => ?_) (fun hb432 => ?_)
                                            · skip
                                              exact absurd (by rw [hsp, itc_t hb6]; exact pw6) hb432
                                            · skip
                                              refine R_aload_1 hC dX14_isPlanned_435 ?_
                                              refine R_bipush hC dX14_isPlanned_436 (by decide +kernel) ⟨by decide, by decide⟩ ?_
                                              refine R_callVp (as := [vI _]) hC dX14_isPlanned_438 mo_11_count mlW_111 (by decide) rfl rfl (k_count_7  hI100 hS) rfl rfl hRm (by decide) (by decide) (Nat.le_of_ble_eq_true rfl) (fun v103 Mc101 hq102 => ?_)
                                              obtain ⟨hI104, rfl⟩ := hq102
                                              refine R_iload_4 hC dX14_isPlanned_441 ?_
                                              refine R_icmp_ne hC dX14_isPlanned_443 (tgt := 479) (by decide) (fun hb443 => ?_) (fun hb443 => ?_)
                                              · skip
                                                exact absurd (by rw [hco, itc_t hb6]; exact pw7) hb443
                                              · skip
                                                refine R_aload_1 hC dX14_isPlanned_446 ?_
                                                refine R_bipush hC dX14_isPlanned_447 (by decide +kernel) ⟨by decide, by decide⟩ ?_
                                                refine R_callVp (as := [vI _]) hC dX14_isPlanned_449 mo_11_count mlW_111 (by decide) rfl rfl (k_count_12  hI104 hS) rfl rfl hRm (by decide) (by decide) (Nat.le_of_ble_eq_true rfl) (fun v107 Mc105 hq106 => ?_)
                                                have hI108 := hq106.1
                                                refine R_aload_1 hC dX14_isPlanned_452 ?_
                                                refine R_iconst hC dX14_isPlanned_453 ⟨by decide, by decide⟩ ?_
                                                refine R_callVp (as := [vI _]) hC dX14_isPlanned_454 mo_11_count mlW_111 (by decide) rfl rfl (k_count_2  hI108 hS) rfl rfl hRm (by decide) (by decide) (Nat.le_of_ble_eq_true rfl) (fun v111 Mc109 hq110 => ?_)
                                                obtain ⟨hI112, rfl⟩ := hq110
                                                refine R_icmp_ne hC dX14_isPlanned_457 (tgt := 479) (by decide) (fun hb457 => ?_) (fun hb457 => ?_)
                                                · skip
                                                  exact absurd (late_ok hb6 h8 hq106.2) hb457
                                                · skip
                                                  refine R_aload_1 hC dX14_isPlanned_460 ?_
                                                  refine R_bipush hC dX14_isPlanned_461 (by decide +kernel) ⟨by decide, by decide⟩ ?_
                                                  refine R_callVp (as := [vI _]) hC dX14_isPlanned_463 mo_11_count mlW_111 (by decide) rfl rfl (k_count_23  hI112 hS) rfl rfl hRm (by decide) (by decide) (Nat.le_of_ble_eq_true rfl) (fun v115 Mc113 hq114 => ?_)
                                                  have hI116 := hq114.1
                                                  refine R_if_ne hC dX14_isPlanned_466 (tgt := 479) (by decide) (fun hb466 => ?_) (fun hb466 => ?_)
                                                  · skip
                                                    obtain ⟨f, hf⟩ := hq114.2
                                                    exact absurd (help_ok hS hb6 hf).1 hb466
                                                  · skip
                                                    refine R_aload_1 hC dX14_isPlanned_469 ?_
                                                    refine R_bipush hC dX14_isPlanned_470 (by decide +kernel) ⟨by decide, by decide⟩ ?_
                                                    refine R_callVp (as := [vI _]) hC dX14_isPlanned_472 mo_11_count mlW_111 (by decide) rfl rfl (k_count_24  hI116 hS) rfl rfl hRm (by decide) (by decide) (Nat.le_of_ble_eq_true rfl) (fun v119 Mc117 hq118 => ?_)
                                                    have hI120 := hq118.1
                                                    refine R_iconst hC dX14_isPlanned_475 ⟨by decide, by decide⟩ ?_
                                                    refine R_icmp_eq hC dX14_isPlanned_476 (tgt := 481) (by decide) (fun hb476 => ?_) (fun hb476 => ?_)
                                                    · skip
                                                      refine R_iconst hC dX14_isPlanned_481 ⟨by decide, by decide⟩ ?_
                                                      refine R_istore_5 hC dX14_isPlanned_482 rfl ?_
                                                      have L484 : ∀ (mq : Nat) (x : Int) (M5 : Mem), (0 ≤ x) → (x ≤ libsN g0) → (WI M0 d M5) → (libsN g0 - x).toNat < mq → RZ G LY C (Zn G LY 57 C (RP (fun v M' => WI M0 d M' ∧ v = 1))) 0 0 57 484 [some (vR 1030), some (vR 0), some (vI 1), some (vI sp), some (vI co), some (vI x), none, none, none, none] [] M5 := by
                                                        intro mq
                                                        induction mq with
                                                        | zero =>
                                                          intro x M5 x0 x1 hI hm
                                                          exact absurd hm (Nat.not_lt_zero _)
                                                        | succ mq ih484 =>
                                                          intro x M5 x0 x1 hI hm484
                                                          refine R_iload_5 hC dX14_isPlanned_484 ?_
                                                          refine R_aload_0 hC dX14_isPlanned_486 ?_
                                                          refine R_callSq (as := [vR _]) hC dX14_isPlanned_487 momW_libraries mlW_40 (l_libs  ga) rfl rfl hRm (by decide) (by decide) (Nat.le_of_ble_eq_true rfl) ?_
                                                          refine R_icmp_ge hC dX14_isPlanned_490 (tgt := 537) (by decide) (fun hb490 => ?_) (fun hb490 => ?_)
                                                          · skip
                                                            refine R_iconst hC dX14_isPlanned_537 ⟨by decide, by decide⟩ ?_
                                                            exact R_zreturn hC dX14_isPlanned_538 rfl (.inr rfl) (ret_P ⟨hI, rfl⟩)
                                                          · skip
                                                            refine R_aload_1 hC dX14_isPlanned_493 ?_
                                                            refine R_iload_5 hC dX14_isPlanned_494 ?_
                                                            refine R_bipush hC dX14_isPlanned_496 (by decide +kernel) ⟨by decide, by decide⟩ ?_
                                                            refine R_callVp (as := [vI _, vI _]) hC dX14_isPlanned_498 mo_11_library mlW_123 (by decide) rfl rfl (k_library_9  hI hS (by omega) (by omega)) rfl rfl hRm (by decide) (by decide) (Nat.le_of_ble_eq_true rfl) (fun v123 Mc121 hq122 => ?_)
                                                            have hI124 := hq122.1
                                                            refine R_iload_3 hC dX14_isPlanned_501 ?_
                                                            refine R_icmp_gt hC dX14_isPlanned_502 (tgt := 529) (by decide) (fun hb502 => ?_) (fun hb502 => ?_)
                                                            · skip
                                                              exact absurd (by rw [hsp, itc_t hb6, ← pw6]; exact by_turns hS hb6 x0 (by omega) hq122.2) (Int.not_le.mpr hb502)
                                                            · skip
                                                              refine R_aload_1 hC dX14_isPlanned_505 ?_
                                                              refine R_iload_5 hC dX14_isPlanned_506 ?_
                                                              refine R_bipush hC dX14_isPlanned_508 (by decide +kernel) ⟨by decide, by decide⟩ ?_
                                                              refine R_callVp (as := [vI _, vI _]) hC dX14_isPlanned_510 mo_11_library mlW_123 (by decide) rfl rfl (k_library_11  hI124 hS (by omega) (by omega)) rfl rfl hRm (by decide) (by decide) (Nat.le_of_ble_eq_true rfl) (fun v127 Mc125 hq126 => ?_)
                                                              obtain ⟨hI128, rfl⟩ := hq126
                                                              refine R_iconst hC dX14_isPlanned_513 ⟨by decide, by decide⟩ ?_
                                                              refine R_icmp_eq hC dX14_isPlanned_514 (tgt := 529) (by decide) (fun hb514 => ?_) (fun hb514 => ?_)
                                                              · skip
                                                                exact absurd hb514 (is_apart hS hb6 x0 (by omega)).1
                                                              · skip
                                                                refine R_aload_1 hC dX14_isPlanned_517 ?_
                                                                refine R_iload_5 hC dX14_isPlanned_518 ?_
                                                                refine R_bipush hC dX14_isPlanned_520 (by decide +kernel) ⟨by decide, by decide⟩ ?_
                                                                refine R_callVp (as := [vI _, vI _]) hC dX14_isPlanned_522 mo_11_library mlW_123 (by decide) rfl rfl (k_library_11  hI128 hS (by omega) (by omega)) rfl rfl hRm (by decide) (by decide) (Nat.le_of_ble_eq_true rfl) (fun v131 Mc129 hq130 => ?_)
                                                                obtain ⟨hI132, rfl⟩ := hq130
                                                                refine R_iload_3 hC dX14_isPlanned_525 ?_
                                                                refine R_icmp_le hC dX14_isPlanned_526 (tgt := 531) (by decide) (fun hb526 => ?_) (fun hb526 => ?_)
                                                                · skip
                                                                  refine R_iinc_5 hC dX14_isPlanned_531 rfl ⟨by omega, by omega⟩ ?_
                                                                  refine R_goto hC dX14_isPlanned_534 (tgt := 484) (by decide) ?_
                                                                  exact ih484 _ _ (by omega) (by omega) hI132 (by omega)
                                                                · skip
                                                                  exact absurd (by rw [hsp, itc_t hb6, ← pw6]; exact (is_apart hS hb6 x0 (by omega)).2) (Int.not_le.mpr hb526)
                                                      exact L484 _ 0 _ (by omega) (by omega) hI120 (Nat.lt_succ_self _)
                                                    · skip
                                                      obtain ⟨f, hf⟩ := hq118.2
                                                      exact absurd (help_ok hS hb6 hf).2 hb476
                                          · skip
                                            refine R_aload_1 hC dX14_isPlanned_400 ?_
                                            refine R_iload_5 hC dX14_isPlanned_401 ?_
                                            refine R_iconst hC dX14_isPlanned_403 ⟨by decide, by decide⟩ ?_
                                            refine R_callVp (as := [vI _, vI _]) hC dX14_isPlanned_404 mo_11_work mlW_120 (by decide) rfl rfl (k_work_5  hI hS (by omega) (by omega)) rfl rfl hRm (by decide) (by decide) (Nat.le_of_ble_eq_true rfl) (fun v135 Mc133 hq134 => ?_)
                                            obtain ⟨hI136, rfl⟩ := hq134
                                            refine R_aload_1 hC dX14_isPlanned_407 ?_
                                            refine R_iload_5 hC dX14_isPlanned_408 ?_
                                            refine R_iconst hC dX14_isPlanned_410 ⟨by decide, by decide⟩ ?_
                                            refine R_callVp (as := [vI _, vI _]) hC dX14_isPlanned_411 mo_11_work mlW_120 (by decide) rfl rfl (k_work_3  hI136 hS (by omega) (by omega)) rfl rfl hRm (by decide) (by decide) (Nat.le_of_ble_eq_true rfl) (fun v139 Mc137 hq138 => ?_)
                                            obtain ⟨hI140, rfl⟩ := hq138
                                            refine R_icmp_le hC dX14_isPlanned_414 (tgt := 419) (by decide) (fun hb414 => ?_) (fun hb414 => ?_)
                                            · skip
                                              refine R_iinc_5 hC dX14_isPlanned_419 rfl ⟨by omega, by omega⟩ ?_
                                              refine R_goto hC dX14_isPlanned_422 (tgt := 391) (by decide) ?_
                                              exact ih391 _ _ (by omega) (by omega) hI140 (by omega)
                                            · skip
                                              exact absurd (by rw [(pw3 w w0 (by omega)).1]; exact (pw3 w w0 (by omega)).2) (Int.not_le.mpr hb414)
                                      exact L391 _ 0 _ (by omega) (by omega) hI (Nat.lt_succ_self _)
                                    · skip
                                      exact absurd hb383 (by decide)
                                  · skip
                                    refine R_iconst hC dX14_isPlanned_172 ⟨by decide, by decide⟩ ?_
                                    refine R_istore_6 hC dX14_isPlanned_173 rfl ?_
                                    refine R_iconst hC dX14_isPlanned_175 ⟨by decide, by decide⟩ ?_
                                    refine R_istore_7 hC dX14_isPlanned_176 rfl ?_
                                    refine R_iconst hC dX14_isPlanned_178 ⟨by decide, by decide⟩ ?_
                                    refine R_istore_8 hC dX14_isPlanned_179 rfl ?_
                                    have L181 : ∀ (mq : Nat) (it : Int) (wo : Int) (w : Int) (M3 : Mem), (0 ≤ w) → (w ≤ worksN g0) → (WI M0 d M3) → (it = sm w.toNat (fun w => nn d x w)) → (wo = sm w.toNat (fun w => nn d x w * d (10 + w))) → (-w ≤ it ∧ it ≤ 3 * w) → (-(9 * w) ≤ wo ∧ wo ≤ 27 * w) → (worksN g0 - w).toNat < mq → RZ G LY C (Zn G LY 57 C (RP (fun v M' => WI M0 d M' ∧ v = 1))) 0 0 57 181 [some (vR 1030), some (vR 0), some (vI 1), some (vI sp), some (vI co), some (vI x), some (vI it), some (vI wo), some (vI w), none] [] M3 := by
                                      intro mq
                                      induction mq with
                                      | zero =>
                                        intro it wo w M3 w0 w1 hI hit hwo itb wob hm
                                        exact absurd hm (Nat.not_lt_zero _)
                                      | succ mq ih181 =>
                                        intro it wo w M3 w0 w1 hI hit hwo itb wob hm181
                                        have hnb := nn_b (w := w) hS x0 w0
                                        refine R_iload_8 hC dX14_isPlanned_181 ?_
                                        refine R_aload_0 hC dX14_isPlanned_183 ?_
                                        refine R_callSq (as := [vR _]) hC dX14_isPlanned_184 momW_works mlW_66 (l_works  ga) rfl rfl hRm (by decide) (by decide) (Nat.le_of_ble_eq_true rfl) ?_
                                        refine R_icmp_ge hC dX14_isPlanned_187 (tgt := 264) (by decide) (fun hb187 => ?_) (fun hb187 => ?_)
                                        · skip
                                          have ew : w = worksN g0 := by omega
                                          rw [ew] at hit hwo
                                          have hib : -1 * 3 ≤ it ∧ it ≤ 9 := by omega
                                          refine R_iload_2 hC dX14_isPlanned_264 ?_
                                          refine R_if_ne hC dX14_isPlanned_265 (tgt := 304) (by decide) (fun hb265 => ?_) (fun hb265 => ?_)
                                          · skip
                                            have hwn : 0 ≤ wo := by rw [hwo]; exact nnz_s hS hb6 x0
                                            have hin : 0 ≤ it := by rw [hit]; exact nn_s hS hb6 x0
                                            refine R_iload_6 hC dX14_isPlanned_304 ?_
                                            refine R_aload_1 hC dX14_isPlanned_306 ?_
                                            refine R_iload_5 hC dX14_isPlanned_307 ?_
                                            refine R_iconst hC dX14_isPlanned_309 ⟨by decide, by decide⟩ ?_
                                            refine R_callVp (as := [vI _, vI _]) hC dX14_isPlanned_310 mo_11_library mlW_123 (by decide) rfl rfl (k_library_3  hI hS (by omega) (by omega)) rfl rfl hRm (by decide) (by decide) (Nat.le_of_ble_eq_true rfl) (fun v143 Mc141 hq142 => ?_)
                                            obtain ⟨hI144, rfl⟩ := hq142
                                            refine R_icmp_lt hC dX14_isPlanned_313 (tgt := 362) (by decide) (fun hb313 => ?_) (fun hb313 => ?_)
                                            · skip
                                              exact absurd (by rw [hit]; exact (pw2 x x0 (by omega)).1) (Int.not_le.mpr hb313)
                                            · skip
                                              refine R_iload_6 hC dX14_isPlanned_316 ?_
                                              refine R_aload_1 hC dX14_isPlanned_318 ?_
                                              refine R_iload_5 hC dX14_isPlanned_319 ?_
                                              refine R_iconst hC dX14_isPlanned_321 ⟨by decide, by decide⟩ ?_
                                              refine R_callVp (as := [vI _, vI _]) hC dX14_isPlanned_322 mo_11_library mlW_123 (by decide) rfl rfl (k_library_1  hI144 hS (by omega) (by omega)) rfl rfl hRm (by decide) (by decide) (Nat.le_of_ble_eq_true rfl) (fun v147 Mc145 hq146 => ?_)
                                              obtain ⟨hI148, rfl⟩ := hq146
                                              refine R_aload_1 hC dX14_isPlanned_325 ?_
                                              refine R_iload_5 hC dX14_isPlanned_326 ?_
                                              refine R_iconst hC dX14_isPlanned_328 ⟨by decide, by decide⟩ ?_
                                              refine R_callVp (as := [vI _, vI _]) hC dX14_isPlanned_329 mo_11_library mlW_123 (by decide) rfl rfl (k_library_3  hI148 hS (by omega) (by omega)) rfl rfl hRm (by decide) (by decide) (Nat.le_of_ble_eq_true rfl) (fun v151 Mc149 hq150 => ?_)
                                              obtain ⟨hI152, rfl⟩ := hq150
                                              refine R_max hC dX14_isPlanned_332 mlW_126 hRm (by decide) (Nat.le_of_ble_eq_true rfl) ?_
                                              refine R_icmp_gt hC dX14_isPlanned_335 (tgt := 362) (by decide) (fun hb335 => ?_) (fun hb335 => ?_)
                                              · skip
                                                exact absurd (by rw [hit]; exact (pw2 x x0 (by omega)).2) (Int.not_le.mpr hb335)
                                              · skip
                                                refine R_aload_1 hC dX14_isPlanned_338 ?_
                                                refine R_iload_5 hC dX14_isPlanned_339 ?_
                                                refine R_iconst hC dX14_isPlanned_341 ⟨by decide, by decide⟩ ?_
                                                refine R_callVp (as := [vI _, vI _]) hC dX14_isPlanned_342 mo_11_library mlW_123 (by decide) rfl rfl (k_library_4  hI152 hS (by omega) (by omega)) rfl rfl hRm (by decide) (by decide) (Nat.le_of_ble_eq_true rfl) (fun v155 Mc153 hq154 => ?_)
                                                obtain ⟨hI156, rfl⟩ := hq154
                                                refine R_iload_6 hC dX14_isPlanned_345 ?_
                                                refine R_icmp_ne hC dX14_isPlanned_347 (tgt := 362) (by decide) (fun hb347 => ?_) (fun hb347 => ?_)
                                                · skip
                                                  exact absurd (by rw [hit]; exact pw4 x x0 (by omega)) hb347
                                                · skip
                                                  refine R_aload_1 hC dX14_isPlanned_350 ?_
                                                  refine R_iload_5 hC dX14_isPlanned_351 ?_
                                                  refine R_iconst hC dX14_isPlanned_353 ⟨by decide, by decide⟩ ?_
                                                  refine R_callVp (as := [vI _, vI _]) hC dX14_isPlanned_354 mo_11_library mlW_123 (by decide) rfl rfl (k_library_5  hI156 hS (by omega) (by omega)) rfl rfl hRm (by decide) (by decide) (Nat.le_of_ble_eq_true rfl) (fun v159 Mc157 hq158 => ?_)
                                                  obtain ⟨hI160, rfl⟩ := hq158
                                                  refine R_iload_7 hC dX14_isPlanned_357 ?_
                                                  refine R_icmp_eq hC dX14_isPlanned_359 (tgt := 364) (by decide) (fun hb359 => ?_) (fun hb359 => ?_)
                                                  · skip
                                                    refine R_iload_3 hC dX14_isPlanned_364 ?_
                                                    refine R_iload_7 hC dX14_isPlanned_365 ?_
                                                    refine R_iadd hC dX14_isPlanned_367 ⟨by omega, by omega⟩ ?_
                                                    refine R_istore_3 hC dX14_isPlanned_368 rfl ?_
                                                    refine R_iload_4 hC dX14_isPlanned_369 ?_
                                                    refine R_iload_6 hC dX14_isPlanned_371 ?_
                                                    refine R_iadd hC dX14_isPlanned_373 ⟨by omega, by omega⟩ ?_
                                                    refine R_istore_4 hC dX14_isPlanned_374 rfl ?_
                                                    refine R_iinc_5 hC dX14_isPlanned_376 rfl ⟨by omega, by omega⟩ ?_
                                                    refine R_goto hC dX14_isPlanned_379 (tgt := 163) (by decide) ?_
                                                    refine R_weak (subL_c (subL_c (subL_c (subL_c (subL_c (subL_c (subL_d (subL_d (subL_d (subL_c subL_n)))))))))) ?_
                                                    exact ih163 _ _ _ _ (by omega) (by omega) hI160 (by
                                                      first
                                                        | (rw [itc_t hb6] at hsp ⊢; rw [sm_to x0 rfl, ← hsp, ← hwo])
                                                        | (rw [itc_f hb6] at hsp ⊢; exact hsp)) (by
                                                      first
                                                        | (rw [itc_t hb6] at hco ⊢; rw [sm_to x0 rfl, ← hco, ← hit])
                                                        | (rw [itc_f hb6] at hco ⊢; exact hco)) (by omega) (by omega) (by omega)
                                                  · skip
                                                    exact absurd (by rw [hwo]; exact pw5 x x0 (by omega)) hb359
                                          · skip
                                            exact absurd hb265 (by decide)
                                        · skip
                                          have hzb := nnz_b (w := w) hS x0 w0 (by omega)
                                          refine R_aload_1 hC dX14_isPlanned_190 ?_
                                          refine R_iload_5 hC dX14_isPlanned_191 ?_
                                          refine R_iload_8 hC dX14_isPlanned_193 ?_
                                          refine R_iconst hC dX14_isPlanned_195 ⟨by decide, by decide⟩ ?_
                                          refine R_callVp (as := [vI _, vI _, vI _]) hC dX14_isPlanned_196 mo_11_held mlW_117 (by decide) rfl rfl (k_held_n  hI hS (by omega) (by omega) (by omega) (by omega)) rfl rfl hRm (by decide) (by decide) (Nat.le_of_ble_eq_true rfl) (fun v163 Mc161 hq162 => ?_)
                                          obtain ⟨hI164, rfl⟩ := hq162
                                          refine R_istore_9 hC dX14_isPlanned_199 rfl ?_
                                          refine R_iload_2 hC dX14_isPlanned_201 ?_
                                          refine R_if_ne hC dX14_isPlanned_202 (tgt := 211) (by decide) (fun hb202 => ?_) (fun hb202 => ?_)
                                          · skip
                                            refine R_iload_2 hC dX14_isPlanned_211 ?_
                                            refine R_if_eq hC dX14_isPlanned_212 (tgt := 236) (by decide) (fun hb212 => ?_) (fun hb212 => ?_)
                                            · skip
                                              exact absurd hb212 (by decide)
                                            · skip
                                              refine R_iload_9 hC dX14_isPlanned_215 ?_
                                              refine R_if_lt hC dX14_isPlanned_217 (tgt := 234) (by decide) (fun hb217 => ?_) (fun hb217 => ?_)
                                              · skip
                                                exact absurd (pw1 x w x0 (by omega) w0 (by omega)).1 (Int.not_le.mpr hb217)
                                              · skip
                                                refine R_iload_9 hC dX14_isPlanned_220 ?_
                                                refine R_aload_1 hC dX14_isPlanned_222 ?_
                                                refine R_iload_5 hC dX14_isPlanned_223 ?_
                                                refine R_iload_8 hC dX14_isPlanned_225 ?_
                                                refine R_iconst hC dX14_isPlanned_227 ⟨by decide, by decide⟩ ?_
                                                refine R_callVp (as := [vI _, vI _, vI _]) hC dX14_isPlanned_228 mo_11_held mlW_117 (by decide) rfl rfl (k_held_4  hI164 hS (by omega) (by omega) (by omega) (by omega)) rfl rfl hRm (by decide) (by decide) (Nat.le_of_ble_eq_true rfl) (fun v167 Mc165 hq166 => ?_)
                                                obtain ⟨hI168, rfl⟩ := hq166
                                                refine R_icmp_le hC dX14_isPlanned_231 (tgt := 236) (by decide) (fun hb231 => ?_) (fun hb231 => ?_)
                                                · skip
                                                  refine R_iload_6 hC dX14_isPlanned_236 ?_
                                                  refine R_iload_9 hC dX14_isPlanned_238 ?_
                                                  refine R_iadd hC dX14_isPlanned_240 ⟨by omega, by omega⟩ ?_
                                                  refine R_istore_6 hC dX14_isPlanned_241 rfl ?_
                                                  refine R_iload_7 hC dX14_isPlanned_243 ?_
                                                  refine R_iload_9 hC dX14_isPlanned_245 ?_
                                                  refine R_aload_1 hC dX14_isPlanned_247 ?_
                                                  refine R_iload_8 hC dX14_isPlanned_248 ?_
                                                  refine R_iconst hC dX14_isPlanned_250 ⟨by decide, by decide⟩ ?_
                                                  refine R_callVp (as := [vI _, vI _]) hC dX14_isPlanned_251 mo_11_work mlW_120 (by decide) rfl rfl (k_work_0  hI168 hS (by omega) (by omega)) rfl rfl hRm (by decide) (by decide) (Nat.le_of_ble_eq_true rfl) (fun v171 Mc169 hq170 => ?_)
                                                  obtain ⟨hI172, rfl⟩ := hq170
                                                  refine R_imul hC dX14_isPlanned_254 ⟨by omega, by omega⟩ ?_
                                                  refine R_iadd hC dX14_isPlanned_255 ⟨by omega, by omega⟩ ?_
                                                  refine R_istore_7 hC dX14_isPlanned_256 rfl ?_
                                                  refine R_iinc_8 hC dX14_isPlanned_258 rfl ⟨by omega, by omega⟩ ?_
                                                  refine R_goto hC dX14_isPlanned_261 (tgt := 181) (by decide) ?_
                                                  refine R_weak (subL_c (subL_c (subL_c (subL_c (subL_c (subL_c (subL_c (subL_c (subL_c (subL_d subL_n)))))))))) ?_
                                                  exact ih181 _ _ _ _ (by omega) (by omega) hI172 (by rw [sm_to w0 rfl, ← hit]) (by rw [sm_to w0 rfl, ← hwo]) (by omega) (by omega) (by omega)
                                                · skip
                                                  exact absurd (pw1 x w x0 (by omega) w0 (by omega)).2 (Int.not_le.mpr hb231)
                                          · skip
                                            exact absurd hb202 (by decide)
                                    exact L181 _ 0 0 0 _ (by omega) (by omega) hI rfl rfl (by decide) (by decide) (Nat.lt_succ_self _)
                              exact L163 _ 0 0 0 _ (by omega) (by omega) hI (by unfold itc; split <;> rfl) (by unfold itc; split <;> rfl) (by decide) (by decide) (Nat.lt_succ_self _)
                            · skip
                              refine R_aload_1 hC dX14_isPlanned_133 ?_
                              refine R_iload_3 hC dX14_isPlanned_134 ?_
                              refine R_callVp (as := [vI _]) hC dX14_isPlanned_135 mo_11_lack mlW_114 (by decide) rfl rfl (k_lack  hI hS (by omega) (by rw [hL]; exact hb130)) rfl rfl hRm (by decide) (by decide) (Nat.le_of_ble_eq_true rfl) (fun v175 Mc173 hq174 => ?_)
                              obtain ⟨hI176, rfl⟩ := hq174
                              refine R_aload_1 hC dX14_isPlanned_138 ?_
                              refine R_bipush hC dX14_isPlanned_139 (by decide +kernel) ⟨by decide, by decide⟩ ?_
                              refine R_callVp (as := [vI _]) hC dX14_isPlanned_141 mo_11_count mlW_111 (by decide) rfl rfl (k_count_9  hI176 hS) rfl rfl hRm (by decide) (by decide) (Nat.le_of_ble_eq_true rfl) (fun v179 Mc177 hq178 => ?_)
                              obtain ⟨hI180, rfl⟩ := hq178
                              refine R_icmp_le hC dX14_isPlanned_144 (tgt := 149) (by decide) (fun hb144 => ?_) (fun hb144 => ?_)
                              · skip
                                refine R_iinc_3 hC dX14_isPlanned_149 rfl ⟨by omega, by omega⟩ ?_
                                refine R_goto hC dX14_isPlanned_152 (tgt := 123) (by decide) ?_
                                exact ih123 _ _ (by omega) (by omega) hI180 (by omega)
                              · skip
                                exact absurd (lk_le hS t0 (by rw [hL]; exact hb130)) (by omega)
                        exact L123 _ 0 _ (by omega) (by omega) hI96 (Nat.lt_succ_self _)
                      · skip
                        exact absurd (lack0 hII) hb116
                  · skip
                    exact absurd hb87 (by decide)
