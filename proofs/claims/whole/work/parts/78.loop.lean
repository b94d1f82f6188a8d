def St_0 (G : Gl) (l : Launch) : Prop := ∀ (M : Mem) (X : GX) (c : Int), 0 ≤ c → c < 512 → REL M X c → ∀ a b e f g : Int, StA G l M c m11_feed m12_feed [vI a, vI b, vI e, vI f, vI g]
def St_1 (G : Gl) (l : Launch) : Prop := ∀ (M : Mem) (X : GX) (c : Int), 0 ≤ c → c < 512 → REL M X c → ∀ a : Int, StQ G l M c mL_desk hhL_desk m12_desk [vI a]
def St_2 (G : Gl) (l : Launch) : Prop := ∀ (M : Mem) (X : GX) (c : Int), 0 ≤ c → c < 512 → REL M X c → StA G l M c m11_fault m12_fault []
def St_3 (G : Gl) (l : Launch) : Prop := ∀ (M : Mem) (X : GX) (c : Int), 0 ≤ c → c < 512 → REL M X c → ∀ a : Int, StQ G l M c mL_count hhL_count m12_count [vI a]
def St_4 (G : Gl) (l : Launch) : Prop := ∀ (M : Mem) (X : GX) (c : Int), 0 ≤ c → c < 512 → REL M X c → ∀ a b : Int, StQ G l M c mL_library hhL_library m12_library [vI a, vI b]
def St_5 (G : Gl) (l : Launch) : Prop := ∀ (M : Mem) (X : GX) (c : Int), 0 ≤ c → c < 512 → REL M X c → ∀ a b : Int, StQ G l M c mL_work hhL_work m12_work [vI a, vI b]
def St_6 (G : Gl) (l : Launch) : Prop := ∀ (M : Mem) (X : GX) (c : Int), 0 ≤ c → c < 512 → REL M X c → ∀ a b e : Int, StQ G l M c mL_held hhL_held m12_held [vI a, vI b, vI e]
def St_7 (G : Gl) (l : Launch) : Prop := ∀ (M : Mem) (X : GX) (c : Int), 0 ≤ c → c < 512 → REL M X c → ∀ a : Int, StQ G l M c mL_lack hhL_lack m12_lack [vI a]
def St_8 (G : Gl) (l : Launch) : Prop := ∀ (M : Mem) (X : GX) (c : Int), 0 ≤ c → c < 512 → REL M X c → ∀ a : Int, StQ G l M c mL_order hhL_order m12_order [vI a]
def St_9 (G : Gl) (l : Launch) : Prop := ∀ (M : Mem) (X : GX) (c : Int), 0 ≤ c → c < 512 → REL M X c → ∀ a b e : Int, StA G l M c m11_own m12_own [vI a, vI b, vI e]
def St_10 (G : Gl) (l : Launch) : Prop := ∀ (M : Mem) (X : GX) (c : Int), 0 ≤ c → c < 512 → REL M X c → ∀ a b e f : Int, StA G l M c m11_promise m12_promise [vI a, vI b, vI e, vI f]
def St_11 (G : Gl) (l : Launch) : Prop := ∀ (M : Mem) (X : GX) (c : Int), 0 ≤ c → c < 512 → REL M X c → ∀ a b : Int, StA G l M c m11_keep m12_keep [vI a, vI b]
def St_12 (G : Gl) (l : Launch) : Prop := ∀ (M : Mem) (X : GX) (c : Int), 0 ≤ c → c < 512 → REL M X c → ∀ a b e : Int, StA G l M c m11_room m12_room [vI a, vI b, vI e]
def St_13 (G : Gl) (l : Launch) : Prop := ∀ (M : Mem) (X : GX) (c : Int), 0 ≤ c → c < 512 → REL M X c → ∀ a b : Int, StA G l M c m11_go m12_go_ [vI a, vI b]
def St_14 (G : Gl) (l : Launch) : Prop := ∀ (M : Mem) (X : GX) (c : Int), 0 ≤ c → c < 512 → REL M X c → ∀ a b e : Int, StA G l M c m11_give m12_give [vI a, vI b, vI e]
def St_15 (G : Gl) (l : Launch) : Prop := ∀ (M : Mem) (X : GX) (c : Int), 0 ≤ c → c < 512 → REL M X c → ∀ a b : Int, StA G l M c m11_send m12_send [vI a, vI b]
def St_16 (G : Gl) (l : Launch) : Prop := ∀ (M : Mem) (X : GX) (c : Int), 0 ≤ c → c < 512 → REL M X c → StA G l M c m11_carry m12_carry []
def St_17 (G : Gl) (l : Launch) : Prop := ∀ (M : Mem) (X : GX) (c : Int), 0 ≤ c → c < 512 → REL M X c → ∀ a : Int, StA G l M c m11_years m12_years [vI a]
def St_18 (G : Gl) (l : Launch) : Prop := ∀ (M : Mem) (X : GX) (c : Int), 0 ≤ c → c < 512 → REL M X c → StA G l M c m11_undo m12_undo []
def St_19 (G : Gl) (l : Launch) : Prop := ∀ (M : Mem) (X : GX) (c : Int), 0 ≤ c → c < 512 → REL M X c → ∀ a : Int, StA G l M c m11_note m12_note [vI a]
def St_20 (G : Gl) (l : Launch) : Prop := ∀ (M : Mem) (X : GX) (c : Int), 0 ≤ c → c < 512 → REL M X c → ∀ a : Int, StQ G l M c mL_fits hhL_fits m12_fits [vI a]
def St_21 (G : Gl) (l : Launch) : Prop := ∀ (M : Mem) (X : GX) (c : Int), 0 ≤ c → c < 512 → REL M X c → ∀ a : Int, StQ G l M c mL_look hhL_look m12_look [vI a]
def St_22 (G : Gl) (l : Launch) : Prop := ∀ (M : Mem) (X : GX) (c : Int), 0 ≤ c → c < 512 → REL M X c → StV G l M c m11_forget m12_forget
def St_23 (G : Gl) (l : Launch) : Prop := ∀ (M : Mem) (X : GX) (c : Int), 0 ≤ c → c < 512 → REL M X c → ∀ a b e : Int, StQ G l M c mL_drawn hhL_drawn m12_drawn [vI a, vI b, vI e]
def St_24 (G : Gl) (l : Launch) : Prop := ∀ (M : Mem) (X : GX) (c : Int), 0 ≤ c → c < 512 → REL M X c → StV G l M c m11_image m12_image
def St_25 (G : Gl) (l : Launch) : Prop := ∀ (M : Mem) (X : GX) (c : Int), 0 ≤ c → c < 512 → REL M X c → StA G l M c m11_restore m12_restore []
def STEPS (G : Gl) (l : Launch) : Prop := St_0 G l ∧ St_1 G l ∧ St_2 G l ∧ St_3 G l ∧ St_4 G l ∧ St_5 G l ∧ St_6 G l ∧ St_7 G l ∧ St_8 G l ∧ St_9 G l ∧ St_10 G l ∧ St_11 G l ∧ St_12 G l ∧ St_13 G l ∧ St_14 G l ∧ St_15 G l ∧ St_16 G l ∧ St_17 G l ∧ St_18 G l ∧ St_19 G l ∧ St_20 G l ∧ St_21 G l ∧ St_22 G l ∧ St_23 G l ∧ St_24 G l ∧ St_25 G l
theorem d_sw : decode cL_law 40 = .ok (.tableswitch 1268 0 25 #[120, 193, 249, 262, 318, 386, 454, 534, 590, 646, 695, 756, 793, 842, 879, 928, 965, 978, 1003, 1016, 1041, 1097, 1153, 1164, 1244, 1255], 120) := by decide +kernel
theorem law_head {G : Gl} {C : Cx} {Z : State → Prop} {k w L : Nat} {M : Mem} {X : GX} {xs : Nat → Int32} {i c : Int} (hC : CxOK G mL_law C) (hX : SCR G C xs L) (hrm : C.2.2.2.1 = room_1) (hNc : va_Nc eI eN C.2.2.2.2.1) (h0 : 0 ≤ i) (hc0 : 0 ≤ c) (hci : i = 6 * c) (hi9 : i ≤ 3072) (hkw : k + 1 ≤ 601024 ∧ w + 6 ≤ 7293034) (hst : STEPS G C.2.1) (hR : REL M X c)
    (hend : RZ G LY C Z k w 82 1314 [some (vR 1030), some (vR 0), some (vR 57), some (vR 81), some (vI (i)), none, none] [] M) (kk : i + 6 ≤ L → ∀ M2 X', REL M2 X' (c + 1) → RZ G LY C Z (k + 1) (w + 6) 82 23 [some (vR 1030), some (vR 0), some (vR 57), some (vR 81), some (vI (i + 6)), none, none] [] M2) : RZ G LY C Z k w 82 23 [some (vR 1030), some (vR 0), some (vR 57), some (vR 81), some (vI (i)), none, none] [] M := by
  have hL := hX.2.2.2
  refine R_iload_4 hC (by decide +kernel) (R_aload_0 hC (by decide +kernel) (R_slen hC hX (by decide +kernel) (R_bipush (c := 6) hC (by decide +kernel) (by decide +kernel) (by decide) (R_isub hC (by decide +kernel) ⟨by omega, by omega⟩ ?_))))
  refine R_icmp_gt (off := 1284) (tgt := 1314) hC (by decide +kernel) (by decide) (fun _ => hend) (fun hle => ?_)
  have h1 : i + 6 ≤ L := by omega
  have hc9 : c < 512 := by omega
  have kf : ∀ M2 X', REL M2 X' (c + 1) → RZ G LY C Z (k + 1) (w + 6) 82 1308 [some (vR 1030), some (vR 0), some (vR 57), some (vR 81), some (vI (i)), none, none] [] M2 := fun M2 X' h =>
    R_iinc_4 (c := 6) hC (by decide +kernel) rfl ⟨by omega, by omega⟩ (R_goto (off := -1288) (tgt := 23) hC (by decide +kernel) (by decide) (kk h1 M2 X' h))
  refine R_aload_0 hC (by decide +kernel) (R_iload_4 hC (by decide +kernel) (R_sld hC hX (by decide +kernel) h0 (by omega) (R_bipush (c := 31) hC (by decide +kernel) (by decide +kernel) (by decide) (R_iandm (m := 5) hC (by decide +kernel) (by decide) (by decide) ?_))))
  have r0 : 0 ≤ xv xs i % 2 ^ 5 := Int.emod_nonneg _ (by decide)
  generalize xv xs i % 2 ^ 5 = a at r0 ⊢
  by_cases hsw : a < 0 ∨ 25 < a
  · exact R_tableOut hC d_sw hsw (tgt := 1308) (by decide) (R_widen (by omega) (by omega) (kf M X ⟨hR.1, hR.2.1, hR.2.2.1, hR.2.2.2.up (by omega)⟩))
  have hsw2 : a = 0 ∨ a = 1 ∨ a = 2 ∨ a = 3 ∨ a = 4 ∨ a = 5 ∨ a = 6 ∨ a = 7 ∨ a = 8 ∨ a = 9 ∨ a = 10 ∨ a = 11 ∨ a = 12 ∨ a = 13 ∨ a = 14 ∨ a = 15 ∨ a = 16 ∨ a = 17 ∨ a = 18 ∨ a = 19 ∨ a = 20 ∨ a = 21 ∨ a = 22 ∨ a = 23 ∨ a = 24 ∨ a = 25 := by omega
  obtain ⟨s0, s1, s2, s3, s4, s5, s6, s7, s8, s9, s10, s11, s12, s13, s14, s15, s16, s17, s18, s19, s20, s21, s22, s23, s24, s25⟩ := hst
  rcases hsw2 with hsw2 | hsw2 | hsw2 | hsw2 | hsw2 | hsw2 | hsw2 | hsw2 | hsw2 | hsw2 | hsw2 | hsw2 | hsw2 | hsw2 | hsw2 | hsw2 | hsw2 | hsw2 | hsw2 | hsw2 | hsw2 | hsw2 | hsw2 | hsw2 | hsw2 | hsw2
  · subst hsw2
    exact R_tableIn hC d_sw (off := 120) (by omega) (by omega) rfl (tgt := 160) (by decide) (bk_0 hC hX hrm hNc h0 h1 hkw (s0 M X c hc0 hc9 hR _ _ _ _ _) kf)
  · subst hsw2
    exact R_tableIn hC d_sw (off := 193) (by omega) (by omega) rfl (tgt := 233) (by decide) (bk_1 hC hX hrm hNc h0 h1 hkw (s1 M X c hc0 hc9 hR _) kf)
  · subst hsw2
    exact R_tableIn hC d_sw (off := 249) (by omega) (by omega) rfl (tgt := 289) (by decide) (bk_2 hC hX hrm hNc h0 h1 hkw (s2 M X c hc0 hc9 hR) kf)
  · subst hsw2
    exact R_tableIn hC d_sw (off := 262) (by omega) (by omega) rfl (tgt := 302) (by decide) (bk_3 hC hX hrm hNc h0 h1 hkw (s3 M X c hc0 hc9 hR _) kf)
  · subst hsw2
    exact R_tableIn hC d_sw (off := 318) (by omega) (by omega) rfl (tgt := 358) (by decide) (bk_4 hC hX hrm hNc h0 h1 hkw (s4 M X c hc0 hc9 hR _ _) kf)
  · subst hsw2
    exact R_tableIn hC d_sw (off := 386) (by omega) (by omega) rfl (tgt := 426) (by decide) (bk_5 hC hX hrm hNc h0 h1 hkw (s5 M X c hc0 hc9 hR _ _) kf)
  · subst hsw2
    exact R_tableIn hC d_sw (off := 454) (by omega) (by omega) rfl (tgt := 494) (by decide) (bk_6 hC hX hrm hNc h0 h1 hkw (s6 M X c hc0 hc9 hR _ _ _) kf)
  · subst hsw2
    exact R_tableIn hC d_sw (off := 534) (by omega) (by omega) rfl (tgt := 574) (by decide) (bk_7 hC hX hrm hNc h0 h1 hkw (s7 M X c hc0 hc9 hR _) kf)
  · subst hsw2
    exact R_tableIn hC d_sw (off := 590) (by omega) (by omega) rfl (tgt := 630) (by decide) (bk_8 hC hX hrm hNc h0 h1 hkw (s8 M X c hc0 hc9 hR _) kf)
  · subst hsw2
    exact R_tableIn hC d_sw (off := 646) (by omega) (by omega) rfl (tgt := 686) (by decide) (bk_9 hC hX hrm hNc h0 h1 hkw (s9 M X c hc0 hc9 hR _ _ _) kf)
  · subst hsw2
    exact R_tableIn hC d_sw (off := 695) (by omega) (by omega) rfl (tgt := 735) (by decide) (bk_10 hC hX hrm hNc h0 h1 hkw (s10 M X c hc0 hc9 hR _ _ _ _) kf)
  · subst hsw2
    exact R_tableIn hC d_sw (off := 756) (by omega) (by omega) rfl (tgt := 796) (by decide) (bk_11 hC hX hrm hNc h0 h1 hkw (s11 M X c hc0 hc9 hR _ _) kf)
  · subst hsw2
    exact R_tableIn hC d_sw (off := 793) (by omega) (by omega) rfl (tgt := 833) (by decide) (bk_12 hC hX hrm hNc h0 h1 hkw (s12 M X c hc0 hc9 hR _ _ _) kf)
  · subst hsw2
    exact R_tableIn hC d_sw (off := 842) (by omega) (by omega) rfl (tgt := 882) (by decide) (bk_13 hC hX hrm hNc h0 h1 hkw (s13 M X c hc0 hc9 hR _ _) kf)
  · subst hsw2
    exact R_tableIn hC d_sw (off := 879) (by omega) (by omega) rfl (tgt := 919) (by decide) (bk_14 hC hX hrm hNc h0 h1 hkw (s14 M X c hc0 hc9 hR _ _ _) kf)
  · subst hsw2
    exact R_tableIn hC d_sw (off := 928) (by omega) (by omega) rfl (tgt := 968) (by decide) (bk_15 hC hX hrm hNc h0 h1 hkw (s15 M X c hc0 hc9 hR _ _) kf)
  · subst hsw2
    exact R_tableIn hC d_sw (off := 965) (by omega) (by omega) rfl (tgt := 1005) (by decide) (bk_16 hC hX hrm hNc h0 h1 hkw (s16 M X c hc0 hc9 hR) kf)
  · subst hsw2
    exact R_tableIn hC d_sw (off := 978) (by omega) (by omega) rfl (tgt := 1018) (by decide) (bk_17 hC hX hrm hNc h0 h1 hkw (s17 M X c hc0 hc9 hR _) kf)
  · subst hsw2
    exact R_tableIn hC d_sw (off := 1003) (by omega) (by omega) rfl (tgt := 1043) (by decide) (bk_18 hC hX hrm hNc h0 h1 hkw (s18 M X c hc0 hc9 hR) kf)
  · subst hsw2
    exact R_tableIn hC d_sw (off := 1016) (by omega) (by omega) rfl (tgt := 1056) (by decide) (bk_19 hC hX hrm hNc h0 h1 hkw (s19 M X c hc0 hc9 hR _) kf)
  · subst hsw2
    exact R_tableIn hC d_sw (off := 1041) (by omega) (by omega) rfl (tgt := 1081) (by decide) (bk_20 hC hX hrm hNc h0 h1 hkw (s20 M X c hc0 hc9 hR _) kf)
  · subst hsw2
    exact R_tableIn hC d_sw (off := 1097) (by omega) (by omega) rfl (tgt := 1137) (by decide) (bk_21 hC hX hrm hNc h0 h1 hkw (s21 M X c hc0 hc9 hR _) kf)
  · subst hsw2
    exact R_tableIn hC d_sw (off := 1153) (by omega) (by omega) rfl (tgt := 1193) (by decide) (bk_22 hC hX hrm hNc h0 h1 hkw (s22 M X c hc0 hc9 hR) kf)
  · subst hsw2
    exact R_tableIn hC d_sw (off := 1164) (by omega) (by omega) rfl (tgt := 1204) (by decide) (bk_23 hC hX hrm hNc h0 h1 hkw (s23 M X c hc0 hc9 hR _ _ _) kf)
  · subst hsw2
    exact R_tableIn hC d_sw (off := 1244) (by omega) (by omega) rfl (tgt := 1284) (by decide) (bk_24 hC hX hrm hNc h0 h1 hkw (s24 M X c hc0 hc9 hR) kf)
  · subst hsw2
    exact R_tableIn hC d_sw (off := 1255) (by omega) (by omega) rfl (tgt := 1295) (by decide) (bk_25 hC hX hrm hNc h0 h1 hkw (s25 M X c hc0 hc9 hR) kf)
theorem law_loop {G : Gl} {C : Cx} {Z : State → Prop} {k0 w0 L : Nat} {xs : Nat → Int32} (hC : CxOK G mL_law C) (hX : SCR G C xs L) (hrm : C.2.2.2.1 = room_1) (hNc : va_Nc eI eN C.2.2.2.2.1) (hk0 : k0 ≤ 1000) (hw0 : w0 ≤ 100000) (hst : STEPS G C.2.1)
    (hend : ∀ (k w : Nat) (ls : List (Option V)) (M : Mem), k ≤ 601024 → w ≤ 7293034 → RZ G LY C Z k w 82 1314 ls [] M) : ∀ (f c : Nat) (M : Mem) (X : GX), L ≤ 6 * c + 6 * f → 6 * c ≤ 3072 → REL M X c → RZ G LY C Z (k0 + c) (w0 + 6 * c) 82 23 [some (vR 1030), some (vR 0), some (vR 57), some (vR 81), some (vI (6 * (c : Int))), none, none] [] M
  | 0, c, M, X, hf, h6, hR => law_head (c := (c : Int)) (i := 6 * (c : Int)) hC hX hrm hNc (by omega) (by omega) rfl (by omega) ⟨by omega, by omega⟩ hst hR (hend _ _ _ _ (by omega) (by omega)) (fun h => absurd h (by omega))
  | f + 1, c, M, X, hf, h6, hR => law_head (c := (c : Int)) (i := 6 * (c : Int)) hC hX hrm hNc (by omega) (by omega) rfl (by omega) ⟨by omega, by omega⟩ hst hR (hend _ _ _ _ (by omega) (by omega)) (fun h M2 X' h2 => by
      have hL := hX.2.2.2
      have z := law_loop hC hX hrm hNc hk0 hw0 hst hend f (c + 1) M2 X' (by omega) (by omega) h2
      have e : 6 * ((c + 1 : Nat) : Int) = 6 * (c : Int) + 6 := by omega
      rw [e] at z
      exact z)

