/-! what the law asks -/
theorem k_count_2 {G : Gl} {l : Launch} {M M0 : Mem} {d : Int → Int}  (hI : WI M0 d M) (hS : SP d)  : Ct G LY 57 l 9 m11_count [vR 0, vI 2] M (RP (fun v M' => WI M0 d M' ∧ v = d 118)) := (c11_count (w := 2) ⟨by decide, by decide⟩ hI.2.1 hI.2.2.2 hS hI.2.2.1).mono (fun o M' h => by
  obtain ⟨v, rfl, -, hF, ⟨hG, hP⟩, hv⟩ := h
  exact ⟨v, rfl, hI.ak hF hG hP, (hv.2.2.1) rfl⟩)
theorem k_count_3 {G : Gl} {l : Launch} {M M0 : Mem} {d : Int → Int}  (hI : WI M0 d M) (hS : SP d)  : Ct G LY 57 l 9 m11_count [vR 0, vI 3] M (RP (fun v M' => WI M0 d M' ∧ v = heldAll d)) := (c11_count (w := 3) ⟨by decide, by decide⟩ hI.2.1 hI.2.2.2 hS hI.2.2.1).mono (fun o M' h => by
  obtain ⟨v, rfl, -, hF, ⟨hG, hP⟩, hv⟩ := h
  exact ⟨v, rfl, hI.ak hF hG hP, (hv.2.2.2.1) rfl⟩)
theorem k_count_4 {G : Gl} {l : Launch} {M M0 : Mem} {d : Int → Int}  (hI : WI M0 d M) (hS : SP d)  : Ct G LY 57 l 9 m11_count [vR 0, vI 4] M (RP (fun v M' => WI M0 d M' ∧ v = d 119)) := (c11_count (w := 4) ⟨by decide, by decide⟩ hI.2.1 hI.2.2.2 hS hI.2.2.1).mono (fun o M' h => by
  obtain ⟨v, rfl, -, hF, ⟨hG, hP⟩, hv⟩ := h
  exact ⟨v, rfl, hI.ak hF hG hP, (hv.2.2.2.2.1) rfl⟩)
theorem k_count_5 {G : Gl} {l : Launch} {M M0 : Mem} {d : Int → Int}  (hI : WI M0 d M) (hS : SP d)  : Ct G LY 57 l 9 m11_count [vR 0, vI 5] M (RP (fun v M' => WI M0 d M' ∧ v = bP (planI (insOf d)))) := (c11_count (w := 5) ⟨by decide, by decide⟩ hI.2.1 hI.2.2.2 hS hI.2.2.1).mono (fun o M' h => by
  obtain ⟨v, rfl, -, hF, ⟨hG, hP⟩, hv⟩ := h
  exact ⟨v, rfl, hI.ak hF hG hP, (hv.2.2.2.2.2.1) rfl⟩)
theorem k_count_6 {G : Gl} {l : Launch} {M M0 : Mem} {d : Int → Int}  (hI : WI M0 d M) (hS : SP d)  : Ct G LY 57 l 9 m11_count [vR 0, vI 6] M (RP (fun v M' => WI M0 d M' ∧ v = SPC (insOf d))) := (c11_count (w := 6) ⟨by decide, by decide⟩ hI.2.1 hI.2.2.2 hS hI.2.2.1).mono (fun o M' h => by
  obtain ⟨v, rfl, -, hF, ⟨hG, hP⟩, hv⟩ := h
  exact ⟨v, rfl, hI.ak hF hG hP, (hv.2.2.2.2.2.2.1) rfl⟩)
theorem k_count_7 {G : Gl} {l : Launch} {M M0 : Mem} {d : Int → Int}  (hI : WI M0 d M) (hS : SP d)  : Ct G LY 57 l 9 m11_count [vR 0, vI 7] M (RP (fun v M' => WI M0 d M' ∧ v = (if SPC (insOf d) = -1 then -1 else if iW (insOf d) = 0 then 0 else MC (insOf d) 1))) := (c11_count (w := 7) ⟨by decide, by decide⟩ hI.2.1 hI.2.2.2 hS hI.2.2.1).mono (fun o M' h => by
  obtain ⟨v, rfl, -, hF, ⟨hG, hP⟩, hv⟩ := h
  exact ⟨v, rfl, hI.ak hF hG hP, (hv.2.2.2.2.2.2.2.1) rfl⟩)
theorem k_count_8 {G : Gl} {l : Launch} {M M0 : Mem} {d : Int → Int}  (hI : WI M0 d M) (hS : SP d)  : Ct G LY 57 l 9 m11_count [vR 0, vI 8] M (RP (fun v M' => WI M0 d M' ∧ v = itc (planI (insOf d)) (chgs (plT (insOf d)) d) (-1))) := (c11_count (w := 8) ⟨by decide, by decide⟩ hI.2.1 hI.2.2.2 hS hI.2.2.1).mono (fun o M' h => by
  obtain ⟨v, rfl, -, hF, ⟨hG, hP⟩, hv⟩ := h
  exact ⟨v, rfl, hI.ak hF hG hP, (hv.2.2.2.2.2.2.2.2.1) rfl⟩)
theorem k_count_9 {G : Gl} {l : Launch} {M M0 : Mem} {d : Int → Int}  (hI : WI M0 d M) (hS : SP d)  : Ct G LY 57 l 9 m11_count [vR 0, vI 9] M (RP (fun v M' => WI M0 d M' ∧ v = lackI (insOf d) (worst (insOf d)))) := (c11_count (w := 9) ⟨by decide, by decide⟩ hI.2.1 hI.2.2.2 hS hI.2.2.1).mono (fun o M' h => by
  obtain ⟨v, rfl, -, hF, ⟨hG, hP⟩, hv⟩ := h
  exact ⟨v, rfl, hI.ak hF hG hP, (hv.2.2.2.2.2.2.2.2.2.1) rfl⟩)
theorem k_count_10 {G : Gl} {l : Launch} {M M0 : Mem} {d : Int → Int}  (hI : WI M0 d M) (hS : SP d)  : Ct G LY 57 l 9 m11_count [vR 0, vI 10] M (RP (fun v M' => WI M0 d M' ∧ v = worst (insOf d))) := (c11_count (w := 10) ⟨by decide, by decide⟩ hI.2.1 hI.2.2.2 hS hI.2.2.1).mono (fun o M' h => by
  obtain ⟨v, rfl, -, hF, ⟨hG, hP⟩, hv⟩ := h
  exact ⟨v, rfl, hI.ak hF hG hP, (hv.2.2.2.2.2.2.2.2.2.2.1) rfl⟩)
theorem k_count_12 {G : Gl} {l : Launch} {M M0 : Mem} {d : Int → Int}  (hI : WI M0 d M) (hS : SP d)  : Ct G LY 57 l 9 m11_count [vR 0, vI 12] M (RP (fun v M' => WI M0 d M' ∧ LateV d v)) := (c11_count (w := 12) ⟨by decide, by decide⟩ hI.2.1 hI.2.2.2 hS hI.2.2.1).mono (fun o M' h => by
  obtain ⟨v, rfl, -, hF, ⟨hG, hP⟩, hv⟩ := h
  exact ⟨v, rfl, hI.ak hF hG hP, (hv.2.2.2.2.2.2.2.2.2.2.2.2.1) rfl⟩)
theorem k_count_15 {G : Gl} {l : Launch} {M M0 : Mem} {d : Int → Int}  (hI : WI M0 d M) (hS : SP d)  : Ct G LY 57 l 9 m11_count [vR 0, vI 15] M (RP (fun v M' => WI M0 d M' ∧ v = bits (d 122).toNat (fun k => allOf d k = 1))) := (c11_count (w := 15) ⟨by decide, by decide⟩ hI.2.1 hI.2.2.2 hS hI.2.2.1).mono (fun o M' h => by
  obtain ⟨v, rfl, -, hF, ⟨hG, hP⟩, hv⟩ := h
  exact ⟨v, rfl, hI.ak hF hG hP, (hv.2.2.2.2.2.2.2.2.2.2.2.2.2.2.2.1) rfl⟩)
theorem k_count_16 {G : Gl} {l : Launch} {M M0 : Mem} {d : Int → Int}  (hI : WI M0 d M) (hS : SP d)  : Ct G LY 57 l 9 m11_count [vR 0, vI 16] M (RP (fun v M' => WI M0 d M' ∧ v = bits (d 122).toNat (fun k => 0 < shrt d k))) := (c11_count (w := 16) ⟨by decide, by decide⟩ hI.2.1 hI.2.2.2 hS hI.2.2.1).mono (fun o M' h => by
  obtain ⟨v, rfl, -, hF, ⟨hG, hP⟩, hv⟩ := h
  exact ⟨v, rfl, hI.ak hF hG hP, (hv.2.2.2.2.2.2.2.2.2.2.2.2.2.2.2.2.1) rfl⟩)
theorem k_count_23 {G : Gl} {l : Launch} {M M0 : Mem} {d : Int → Int}  (hI : WI M0 d M) (hS : SP d)  : Ct G LY 57 l 9 m11_count [vR 0, vI 23] M (RP (fun v M' => WI M0 d M' ∧ ∃ f, HelpC d v f)) := (c11_count (w := 23) ⟨by decide, by decide⟩ hI.2.1 hI.2.2.2 hS hI.2.2.1).mono (fun o M' h => by
  obtain ⟨v, rfl, -, hF, ⟨hG, hP⟩, hv⟩ := h
  exact ⟨v, rfl, hI.ak hF hG hP, (hv.2.2.2.2.2.2.2.2.2.2.2.2.2.2.2.2.2.2.2.2.2.2.2.1) rfl⟩)
theorem k_count_24 {G : Gl} {l : Launch} {M M0 : Mem} {d : Int → Int}  (hI : WI M0 d M) (hS : SP d)  : Ct G LY 57 l 9 m11_count [vR 0, vI 24] M (RP (fun v M' => WI M0 d M' ∧ ∃ f, HelpC d f v)) := (c11_count (w := 24) ⟨by decide, by decide⟩ hI.2.1 hI.2.2.2 hS hI.2.2.1).mono (fun o M' h => by
  obtain ⟨v, rfl, -, hF, ⟨hG, hP⟩, hv⟩ := h
  exact ⟨v, rfl, hI.ak hF hG hP, (hv.2.2.2.2.2.2.2.2.2.2.2.2.2.2.2.2.2.2.2.2.2.2.2.2.1) rfl⟩)
theorem k_count_25 {G : Gl} {l : Launch} {M M0 : Mem} {d : Int → Int}  (hI : WI M0 d M) (hS : SP d)  : Ct G LY 57 l 9 m11_count [vR 0, vI 25] M (RP (fun v M' => WI M0 d M' ∧ v = d 120)) := (c11_count (w := 25) ⟨by decide, by decide⟩ hI.2.1 hI.2.2.2 hS hI.2.2.1).mono (fun o M' h => by
  obtain ⟨v, rfl, -, hF, ⟨hG, hP⟩, hv⟩ := h
  exact ⟨v, rfl, hI.ak hF hG hP, (hv.2.2.2.2.2.2.2.2.2.2.2.2.2.2.2.2.2.2.2.2.2.2.2.2.2.1) rfl⟩)
theorem k_count_26 {G : Gl} {l : Launch} {M M0 : Mem} {d : Int → Int}  (hI : WI M0 d M) (hS : SP d)  : Ct G LY 57 l 9 m11_count [vR 0, vI 26] M (RP (fun v M' => WI M0 d M' ∧ v = stor d)) := (c11_count (w := 26) ⟨by decide, by decide⟩ hI.2.1 hI.2.2.2 hS hI.2.2.1).mono (fun o M' h => by
  obtain ⟨v, rfl, -, hF, ⟨hG, hP⟩, hv⟩ := h
  exact ⟨v, rfl, hI.ak hF hG hP, (hv.2.2.2.2.2.2.2.2.2.2.2.2.2.2.2.2.2.2.2.2.2.2.2.2.2.2.1) rfl⟩)
theorem k_library_0 {G : Gl} {l : Launch} {M M0 : Mem} {d : Int → Int} {x : Int} (hI : WI M0 d M) (hS : SP d) (x0 : 0 ≤ x) (x1 : x < d 121) : Ct G LY 57 l 6 m11_library [vR 0, vI x, vI 0] M (RP (fun v M' => WI M0 d M' ∧ v = d x)) := (c11_library (w := 0) ⟨⟨x0, x1⟩, by decide, by decide⟩ hI.2.1 hI.2.2.2 hS hI.2.2.1).mono (fun o M' h => by
  obtain ⟨v, rfl, -, hF, ⟨hG, hP⟩, hv⟩ := h
  exact ⟨v, rfl, hI.ak hF hG hP, (hv.1) rfl⟩)
theorem k_library_1 {G : Gl} {l : Launch} {M M0 : Mem} {d : Int → Int} {x : Int} (hI : WI M0 d M) (hS : SP d) (x0 : 0 ≤ x) (x1 : x < d 121) : Ct G LY 57 l 6 m11_library [vR 0, vI x, vI 1] M (RP (fun v M' => WI M0 d M' ∧ v = d (5 + x))) := (c11_library (w := 1) ⟨⟨x0, x1⟩, by decide, by decide⟩ hI.2.1 hI.2.2.2 hS hI.2.2.1).mono (fun o M' h => by
  obtain ⟨v, rfl, -, hF, ⟨hG, hP⟩, hv⟩ := h
  exact ⟨v, rfl, hI.ak hF hG hP, (hv.2.1) rfl⟩)
theorem k_library_3 {G : Gl} {l : Launch} {M M0 : Mem} {d : Int → Int} {x : Int} (hI : WI M0 d M) (hS : SP d) (x0 : 0 ≤ x) (x1 : x < d 121) : Ct G LY 57 l 6 m11_library [vR 0, vI x, vI 3] M (RP (fun v M' => WI M0 d M' ∧ v = nee d x)) := (c11_library (w := 3) ⟨⟨x0, x1⟩, by decide, by decide⟩ hI.2.1 hI.2.2.2 hS hI.2.2.1).mono (fun o M' h => by
  obtain ⟨v, rfl, -, hF, ⟨hG, hP⟩, hv⟩ := h
  exact ⟨v, rfl, hI.ak hF hG hP, (hv.2.2.2.1) rfl⟩)
theorem k_library_4 {G : Gl} {l : Launch} {M M0 : Mem} {d : Int → Int} {x : Int} (hI : WI M0 d M) (hS : SP d) (x0 : 0 ≤ x) (x1 : x < d 121) : Ct G LY 57 l 6 m11_library [vR 0, vI x, vI 4] M (RP (fun v M' => WI M0 d M' ∧ v = itc (planI (insOf d)) (sm 6 (fun w => (plT (insOf d)) (x * 6 + w))) (-1))) := (c11_library (w := 4) ⟨⟨x0, x1⟩, by decide, by decide⟩ hI.2.1 hI.2.2.2 hS hI.2.2.1).mono (fun o M' h => by
  obtain ⟨v, rfl, -, hF, ⟨hG, hP⟩, hv⟩ := h
  exact ⟨v, rfl, hI.ak hF hG hP, (hv.2.2.2.2.1) rfl⟩)
theorem k_library_5 {G : Gl} {l : Launch} {M M0 : Mem} {d : Int → Int} {x : Int} (hI : WI M0 d M) (hS : SP d) (x0 : 0 ≤ x) (x1 : x < d 121) : Ct G LY 57 l 6 m11_library [vR 0, vI x, vI 5] M (RP (fun v M' => WI M0 d M' ∧ v = itc (planI (insOf d)) (sm 6 (fun w => d (10 + w) * (plT (insOf d)) (x * 6 + w))) (-1))) := (c11_library (w := 5) ⟨⟨x0, x1⟩, by decide, by decide⟩ hI.2.1 hI.2.2.2 hS hI.2.2.1).mono (fun o M' h => by
  obtain ⟨v, rfl, -, hF, ⟨hG, hP⟩, hv⟩ := h
  exact ⟨v, rfl, hI.ak hF hG hP, (hv.2.2.2.2.2.1) rfl⟩)
theorem k_library_6 {G : Gl} {l : Launch} {M M0 : Mem} {d : Int → Int} {x : Int} (hI : WI M0 d M) (hS : SP d) (x0 : 0 ≤ x) (x1 : x < d 121) : Ct G LY 57 l 6 m11_library [vR 0, vI x, vI 6] M (RP (fun v M' => WI M0 d M' ∧ (¬ planI (insOf d) → v = -1))) := (c11_library (w := 6) ⟨⟨x0, x1⟩, by decide, by decide⟩ hI.2.1 hI.2.2.2 hS hI.2.2.1).mono (fun o M' h => by
  obtain ⟨v, rfl, -, hF, ⟨hG, hP⟩, hv⟩ := h
  refine ⟨v, rfl, hI.ak hF hG hP, fun hn => ?_⟩
  rcases (hv.2.2.2.2.2.2.1) rfl with z | z
  · exact z.1
  · exact absurd z.1 hn)
theorem k_library_9 {G : Gl} {l : Launch} {M M0 : Mem} {d : Int → Int} {x : Int} (hI : WI M0 d M) (hS : SP d) (x0 : 0 ≤ x) (x1 : x < d 121) : Ct G LY 57 l 6 m11_library [vR 0, vI x, vI 9] M (RP (fun v M' => WI M0 d M' ∧ (∃ b, RK (d 122) (fun w => d (10 + w)) b ∧ v = sm (d 121).toNat (fun k => wnn (insOf d) b (lib (d 121) x k) (gS (insOf d) b x k.toNat))))) := (c11_library (w := 9) ⟨⟨x0, x1⟩, by decide, by decide⟩ hI.2.1 hI.2.2.2 hS hI.2.2.1).mono (fun o M' h => by
  obtain ⟨v, rfl, -, hF, ⟨hG, hP⟩, hv⟩ := h
  exact ⟨v, rfl, hI.ak hF hG hP, (hv.2.2.2.2.2.2.2.2.2.1) rfl⟩)
theorem k_library_11 {G : Gl} {l : Launch} {M M0 : Mem} {d : Int → Int} {x : Int} (hI : WI M0 d M) (hS : SP d) (x0 : 0 ≤ x) (x1 : x < d 121) : Ct G LY 57 l 6 m11_library [vR 0, vI x, vI 11] M (RP (fun v M' => WI M0 d M' ∧ v = SPC (setNM (insOf d) x 0 0))) := (c11_library (w := 11) ⟨⟨x0, x1⟩, by decide, by decide⟩ hI.2.1 hI.2.2.2 hS hI.2.2.1).mono (fun o M' h => by
  obtain ⟨v, rfl, -, hF, ⟨hG, hP⟩, hv⟩ := h
  exact ⟨v, rfl, hI.ak hF hG hP, (hv.2.2.2.2.2.2.2.2.2.2.2.1) rfl⟩)
theorem k_work_0 {G : Gl} {l : Launch} {M M0 : Mem} {d : Int → Int} {w : Int} (hI : WI M0 d M) (hS : SP d) (w0 : 0 ≤ w) (w1 : w < d 122) : Ct G LY 57 l 6 m11_work [vR 0, vI w, vI 0] M (RP (fun v M' => WI M0 d M' ∧ v = d (10 + w))) := (c11_work (z := 0) ⟨⟨w0, w1⟩, by decide, by decide⟩ hI.2.1 hI.2.2.2 hS hI.2.2.1).mono (fun o M' h => by
  obtain ⟨v, rfl, -, hF, ⟨hG, hP⟩, hv⟩ := h
  exact ⟨v, rfl, hI.ak hF hG hP, (hv.1) rfl⟩)
theorem k_work_1 {G : Gl} {l : Launch} {M M0 : Mem} {d : Int → Int} {w : Int} (hI : WI M0 d M) (hS : SP d) (w0 : 0 ≤ w) (w1 : w < d 122) : Ct G LY 57 l 6 m11_work [vR 0, vI w, vI 1] M (RP (fun v M' => WI M0 d M' ∧ v = d (16 + w))) := (c11_work (z := 1) ⟨⟨w0, w1⟩, by decide, by decide⟩ hI.2.1 hI.2.2.2 hS hI.2.2.1).mono (fun o M' h => by
  obtain ⟨v, rfl, -, hF, ⟨hG, hP⟩, hv⟩ := h
  exact ⟨v, rfl, hI.ak hF hG hP, (hv.2.1) rfl⟩)
theorem k_work_2 {G : Gl} {l : Launch} {M M0 : Mem} {d : Int → Int} {w : Int} (hI : WI M0 d M) (hS : SP d) (w0 : 0 ≤ w) (w1 : w < d 122) : Ct G LY 57 l 6 m11_work [vR 0, vI w, vI 2] M (RP (fun v M' => WI M0 d M' ∧ v = allOf d w)) := (c11_work (z := 2) ⟨⟨w0, w1⟩, by decide, by decide⟩ hI.2.1 hI.2.2.2 hS hI.2.2.1).mono (fun o M' h => by
  obtain ⟨v, rfl, -, hF, ⟨hG, hP⟩, hv⟩ := h
  exact ⟨v, rfl, hI.ak hF hG hP, (hv.2.2.1) rfl⟩)
theorem k_work_3 {G : Gl} {l : Launch} {M M0 : Mem} {d : Int → Int} {w : Int} (hI : WI M0 d M) (hS : SP d) (w0 : 0 ≤ w) (w1 : w < d 122) : Ct G LY 57 l 6 m11_work [vR 0, vI w, vI 3] M (RP (fun v M' => WI M0 d M' ∧ v = spr d w)) := (c11_work (z := 3) ⟨⟨w0, w1⟩, by decide, by decide⟩ hI.2.1 hI.2.2.2 hS hI.2.2.1).mono (fun o M' h => by
  obtain ⟨v, rfl, -, hF, ⟨hG, hP⟩, hv⟩ := h
  exact ⟨v, rfl, hI.ak hF hG hP, (hv.2.2.2.1) rfl⟩)
theorem k_work_4 {G : Gl} {l : Launch} {M M0 : Mem} {d : Int → Int} {w : Int} (hI : WI M0 d M) (hS : SP d) (w0 : 0 ≤ w) (w1 : w < d 122) : Ct G LY 57 l 6 m11_work [vR 0, vI w, vI 4] M (RP (fun v M' => WI M0 d M' ∧ v = shrt d w)) := (c11_work (z := 4) ⟨⟨w0, w1⟩, by decide, by decide⟩ hI.2.1 hI.2.2.2 hS hI.2.2.1).mono (fun o M' h => by
  obtain ⟨v, rfl, -, hF, ⟨hG, hP⟩, hv⟩ := h
  exact ⟨v, rfl, hI.ak hF hG hP, (hv.2.2.2.2.1) rfl⟩)
theorem k_work_5 {G : Gl} {l : Launch} {M M0 : Mem} {d : Int → Int} {w : Int} (hI : WI M0 d M) (hS : SP d) (w0 : 0 ≤ w) (w1 : w < d 122) : Ct G LY 57 l 6 m11_work [vR 0, vI w, vI 5] M (RP (fun v M' => WI M0 d M' ∧ v = itc (planI (insOf d)) (sm 5 (fun x => (plT (insOf d)) (x * 6 + w))) (-1))) := (c11_work (z := 5) ⟨⟨w0, w1⟩, by decide, by decide⟩ hI.2.1 hI.2.2.2 hS hI.2.2.1).mono (fun o M' h => by
  obtain ⟨v, rfl, -, hF, ⟨hG, hP⟩, hv⟩ := h
  exact ⟨v, rfl, hI.ak hF hG hP, (hv.2.2.2.2.2.1) rfl⟩)
theorem k_work_7 {G : Gl} {l : Launch} {M M0 : Mem} {d : Int → Int} {w : Int} (hI : WI M0 d M) (hS : SP d) (w0 : 0 ≤ w) (w1 : w < d 122) : Ct G LY 57 l 6 m11_work [vR 0, vI w, vI 7] M (RP (fun v M' => WI M0 d M' ∧ v = bits (d 121).toNat (fun k => 0 < d (28 + k * 6 + w)))) := (c11_work (z := 7) ⟨⟨w0, w1⟩, by decide, by decide⟩ hI.2.1 hI.2.2.2 hS hI.2.2.1).mono (fun o M' h => by
  obtain ⟨v, rfl, -, hF, ⟨hG, hP⟩, hv⟩ := h
  exact ⟨v, rfl, hI.ak hF hG hP, (hv.2.2.2.2.2.2.2.1) rfl⟩)
theorem k_work_8 {G : Gl} {l : Launch} {M M0 : Mem} {d : Int → Int} {w : Int} (hI : WI M0 d M) (hS : SP d) (w0 : 0 ≤ w) (w1 : w < d 122) : Ct G LY 57 l 6 m11_work [vR 0, vI w, vI 8] M (RP (fun v M' => WI M0 d M' ∧ v = d (22 + w))) := (c11_work (z := 8) ⟨⟨w0, w1⟩, by decide, by decide⟩ hI.2.1 hI.2.2.2 hS hI.2.2.1).mono (fun o M' h => by
  obtain ⟨v, rfl, -, hF, ⟨hG, hP⟩, hv⟩ := h
  exact ⟨v, rfl, hI.ak hF hG hP, (hv.2.2.2.2.2.2.2.2.1) rfl⟩)
theorem k_held_0 {G : Gl} {l : Launch} {M M0 : Mem} {d : Int → Int} {x w : Int} (hI : WI M0 d M) (hS : SP d) (x0 : 0 ≤ x) (x1 : x < d 121) (w0 : 0 ≤ w) (w1 : w < d 122) : Ct G LY 57 l 6 m11_held [vR 0, vI x, vI w, vI 0] M (RP (fun v M' => WI M0 d M' ∧ v = d (28 + x * 6 + w))) := (c11_held (z := 0) ⟨⟨⟨x0, x1⟩, w0, w1⟩, by decide, by decide⟩ hI.2.1 hI.2.2.2 hS hI.2.2.1).mono (fun o M' h => by
  obtain ⟨v, rfl, -, hF, ⟨hG, hP⟩, hv⟩ := h
  exact ⟨v, rfl, hI.ak hF hG hP, (hv.1) rfl⟩)
theorem k_held_1 {G : Gl} {l : Launch} {M M0 : Mem} {d : Int → Int} {x w : Int} (hI : WI M0 d M) (hS : SP d) (x0 : 0 ≤ x) (x1 : x < d 121) (w0 : 0 ≤ w) (w1 : w < d 122) : Ct G LY 57 l 6 m11_held [vR 0, vI x, vI w, vI 1] M (RP (fun v M' => WI M0 d M' ∧ v = d (58 + x * 6 + w))) := (c11_held (z := 1) ⟨⟨⟨x0, x1⟩, w0, w1⟩, by decide, by decide⟩ hI.2.1 hI.2.2.2 hS hI.2.2.1).mono (fun o M' h => by
  obtain ⟨v, rfl, -, hF, ⟨hG, hP⟩, hv⟩ := h
  exact ⟨v, rfl, hI.ak hF hG hP, (hv.2.1) rfl⟩)
theorem k_held_2 {G : Gl} {l : Launch} {M M0 : Mem} {d : Int → Int} {x w : Int} (hI : WI M0 d M) (hS : SP d) (x0 : 0 ≤ x) (x1 : x < d 121) (w0 : 0 ≤ w) (w1 : w < d 122) : Ct G LY 57 l 6 m11_held [vR 0, vI x, vI w, vI 2] M (RP (fun v M' => WI M0 d M' ∧ v = (if d (58 + x * 6 + w) = 0 then -1 else d (88 + x * 6 + w)))) := (c11_held (z := 2) ⟨⟨⟨x0, x1⟩, w0, w1⟩, by decide, by decide⟩ hI.2.1 hI.2.2.2 hS hI.2.2.1).mono (fun o M' h => by
  obtain ⟨v, rfl, -, hF, ⟨hG, hP⟩, hv⟩ := h
  exact ⟨v, rfl, hI.ak hF hG hP, (hv.2.2.1) rfl⟩)
theorem k_held_3 {G : Gl} {l : Launch} {M M0 : Mem} {d : Int → Int} {x w : Int} (hI : WI M0 d M) (hS : SP d) (x0 : 0 ≤ x) (x1 : x < d 121) (w0 : 0 ≤ w) (w1 : w < d 122) : Ct G LY 57 l 6 m11_held [vR 0, vI x, vI w, vI 3] M (RP (fun v M' => WI M0 d M' ∧ v = bP (0 < d (58 + x * 6 + w) ∧ d 118 ≤ d (88 + x * 6 + w)))) := (c11_held (z := 3) ⟨⟨⟨x0, x1⟩, w0, w1⟩, by decide, by decide⟩ hI.2.1 hI.2.2.2 hS hI.2.2.1).mono (fun o M' h => by
  obtain ⟨v, rfl, -, hF, ⟨hG, hP⟩, hv⟩ := h
  exact ⟨v, rfl, hI.ak hF hG hP, (hv.2.2.2.1) rfl⟩)
theorem k_held_4 {G : Gl} {l : Launch} {M M0 : Mem} {d : Int → Int} {x w : Int} (hI : WI M0 d M) (hS : SP d) (x0 : 0 ≤ x) (x1 : x < d 121) (w0 : 0 ≤ w) (w1 : w < d 122) : Ct G LY 57 l 6 m11_held [vR 0, vI x, vI w, vI 4] M (RP (fun v M' => WI M0 d M' ∧ v = offr d x w)) := (c11_held (z := 4) ⟨⟨⟨x0, x1⟩, w0, w1⟩, by decide, by decide⟩ hI.2.1 hI.2.2.2 hS hI.2.2.1).mono (fun o M' h => by
  obtain ⟨v, rfl, -, hF, ⟨hG, hP⟩, hv⟩ := h
  exact ⟨v, rfl, hI.ak hF hG hP, (hv.2.2.2.2.1) rfl⟩)
theorem k_held_5 {G : Gl} {l : Launch} {M M0 : Mem} {d : Int → Int} {x w : Int} (hI : WI M0 d M) (hS : SP d) (x0 : 0 ≤ x) (x1 : x < d 121) (w0 : 0 ≤ w) (w1 : w < d 122) : Ct G LY 57 l 6 m11_held [vR 0, vI x, vI w, vI 5] M (RP (fun v M' => WI M0 d M' ∧ v = itc (planI (insOf d)) ((plT (insOf d)) (x * 6 + w)) (-1))) := (c11_held (z := 5) ⟨⟨⟨x0, x1⟩, w0, w1⟩, by decide, by decide⟩ hI.2.1 hI.2.2.2 hS hI.2.2.1).mono (fun o M' h => by
  obtain ⟨v, rfl, -, hF, ⟨hG, hP⟩, hv⟩ := h
  exact ⟨v, rfl, hI.ak hF hG hP, (hv.2.2.2.2.2.1) rfl⟩)
theorem k_held_6 {G : Gl} {l : Launch} {M M0 : Mem} {d : Int → Int} {x w : Int} (hI : WI M0 d M) (hS : SP d) (x0 : 0 ≤ x) (x1 : x < d 121) (w0 : 0 ≤ w) (w1 : w < d 122) : Ct G LY 57 l 6 m11_held [vR 0, vI x, vI w, vI 6] M (RP (fun v M' => WI M0 d M' ∧ v = whyN d x w)) := (c11_held (z := 6) ⟨⟨⟨x0, x1⟩, w0, w1⟩, by decide, by decide⟩ hI.2.1 hI.2.2.2 hS hI.2.2.1).mono (fun o M' h => by
  obtain ⟨v, rfl, -, hF, ⟨hG, hP⟩, hv⟩ := h
  exact ⟨v, rfl, hI.ak hF hG hP, (hv.2.2.2.2.2.2) rfl⟩)
def hv3 (d : Int → Int) (x w f : Int) : Int := if f = 0 then d (28 + x * 6 + w) else if f = 1 then d (58 + x * 6 + w) else if d (58 + x * 6 + w) = 0 then -1 else d (88 + x * 6 + w)
theorem k_held_f {G : Gl} {l : Launch} {M M0 : Mem} {d : Int → Int} {x w f : Int} (hI : WI M0 d M) (hS : SP d) (x0 : 0 ≤ x) (x1 : x < d 121) (w0 : 0 ≤ w) (w1 : w < d 122) (f0 : 0 ≤ f) (f1 : f < 3) : Ct G LY 57 l 6 m11_held [vR 0, vI x, vI w, vI f] M (RP (fun v M' => WI M0 d M' ∧ v = hv3 d x w f)) := by
  have e : f = 0 ∨ f = 1 ∨ f = 2 := by omega
  rcases e with rfl | rfl | rfl
  · exact k_held_0 hI hS x0 x1 w0 w1
  · exact k_held_1 hI hS x0 x1 w0 w1
  · exact k_held_2 hI hS x0 x1 w0 w1
theorem k_lack {G : Gl} {l : Launch} {M M0 : Mem} {d : Int → Int} {w : Int} (hI : WI M0 d M) (hS : SP d) (w0 : 0 ≤ w) (w1 : w < 2 ^ (d 121).toNat) : Ct G LY 57 l 6 m11_lack [vR 0, vI w] M (RP (fun v M' => WI M0 d M' ∧ v = lackI (insOf d) w)) := (c11_lack ⟨w0, w1⟩ hI.2.1 hI.2.2.2 hS hI.2.2.1).mono (fun o M' h => by
  obtain ⟨v, rfl, -, hF, ⟨hG, hP⟩, hv⟩ := h
  exact ⟨v, rfl, hI.ak hF hG hP, hv⟩)
/-! the print -/
def bm (x : Int) : Int := x.bmod 4294967296
def prH (d : Int → Int) (x w v : Int) : Nat → Int
  | 0 => v
  | f + 1 => bm (bm (31 * prH d x w v f) + hv3 d x w f)
def prW (d : Int → Int) (x v : Int) : Nat → Int
  | 0 => v
  | w + 1 => prH d x w (prW d x v w) 3
def prL (d : Int → Int) (W : Nat) (v : Int) : Nat → Int
  | 0 => v
  | x + 1 => prW d x (bm (bm (31 * bm (bm (31 * prL d W v x) + d x)) + d (5 + x))) W
def prK (d : Int → Int) (v : Int) : Nat → Int
  | 0 => v
  | w + 1 => bm (bm (31 * bm (bm (31 * prK d v w) + d (16 + w))) + d (22 + w))
def prF (d : Int → Int) (L W : Nat) : Int := prK d (prL d W (bm (d 118 + bm (61 * d 119))) L) W
theorem prH_s {d : Int → Int} {x w v f : Int} (h : 0 ≤ f) : prH d x w v (f + 1).toNat = bm (bm (31 * prH d x w v f.toNat) + hv3 d x w f) := by
  rw [show (f + 1).toNat = f.toNat + 1 by omega, prH, Int.toNat_of_nonneg h]
theorem prW_s {d : Int → Int} {x w v : Int} (h : 0 ≤ w) : prW d x v (w + 1).toNat = prH d x w (prW d x v w.toNat) 3 := by
  rw [show (w + 1).toNat = w.toNat + 1 by omega, prW, Int.toNat_of_nonneg h]
theorem prL_s {d : Int → Int} {W : Nat} {x v : Int} (h : 0 ≤ x) : prL d W v (x + 1).toNat = prW d x (bm (bm (31 * bm (bm (31 * prL d W v x.toNat) + d x)) + d (5 + x))) W := by
  rw [show (x + 1).toNat = x.toNat + 1 by omega, prL, Int.toNat_of_nonneg h]
theorem prK_s {d : Int → Int} {w v : Int} (h : 0 ≤ w) : prK d v (w + 1).toNat = bm (bm (31 * bm (bm (31 * prK d v w.toNat) + d (16 + w))) + d (22 + w)) := by
  rw [show (w + 1).toNat = w.toNat + 1 by omega, prK, Int.toNat_of_nonneg h]

abbrev mW_print : Mt := (yL_print, cL_print, 6, (some FieldType.int))
theorem mlW_123 : Cond.methodLink RL 123 m11_library.1 ∈ Ts := Ts_in (in_t6 _ (List.mem_of_getElem? (i := 166) rfl)) rfl
theorem mlW_120 : Cond.methodLink RL 120 m11_work.1 ∈ Ts := Ts_in (in_t6 _ (List.mem_of_getElem? (i := 135) rfl)) rfl
theorem mlW_117 : Cond.methodLink RL 117 m11_held.1 ∈ Ts := Ts_in (in_t6 _ (List.mem_of_getElem? (i := 121) rfl)) rfl
theorem mlW_111 : Cond.methodLink RL 111 m11_count.1 ∈ Ts := Ts_in (in_t2 _ (List.mem_of_getElem? (i := 174) rfl)) rfl
theorem dX14_print_0 : decode cL_print 0 = .ok (.aload_n 1, 1) := by decide +kernel
theorem dX14_print_1 : decode cL_print 1 = .ok (.iconst 2, 1) := by decide +kernel
theorem dX14_print_2 : decode cL_print 2 = .ok (.invokevirtual 111, 3) := by decide +kernel
theorem dX14_print_5 : decode cL_print 5 = .ok (.bipush 61, 2) := by decide +kernel
theorem dX14_print_7 : decode cL_print 7 = .ok (.aload_n 1, 1) := by decide +kernel
theorem dX14_print_8 : decode cL_print 8 = .ok (.iconst 4, 1) := by decide +kernel
theorem dX14_print_9 : decode cL_print 9 = .ok (.invokevirtual 111, 3) := by decide +kernel
theorem dX14_print_12 : decode cL_print 12 = .ok (.imul, 1) := by decide +kernel
theorem dX14_print_13 : decode cL_print 13 = .ok (.iadd, 1) := by decide +kernel
theorem dX14_print_14 : decode cL_print 14 = .ok (.istore_n 2, 1) := by decide +kernel
theorem dX14_print_15 : decode cL_print 15 = .ok (.iconst 0, 1) := by decide +kernel
theorem dX14_print_16 : decode cL_print 16 = .ok (.istore_n 3, 1) := by decide +kernel
theorem dX14_print_17 : decode cL_print 17 = .ok (.iload_n 3, 1) := by decide +kernel
theorem dX14_print_18 : decode cL_print 18 = .ok (.aload_n 0, 1) := by decide +kernel
theorem dX14_print_19 : decode cL_print 19 = .ok (.invokestatic 40, 3) := by decide +kernel
theorem dX14_print_22 : decode cL_print 22 = .ok (.if_icmp .ge 79, 3) := by decide +kernel
theorem dX14_print_25 : decode cL_print 25 = .ok (.bipush 31, 2) := by decide +kernel
theorem dX14_print_27 : decode cL_print 27 = .ok (.bipush 31, 2) := by decide +kernel
theorem dX14_print_29 : decode cL_print 29 = .ok (.iload_n 2, 1) := by decide +kernel
theorem dX14_print_30 : decode cL_print 30 = .ok (.imul, 1) := by decide +kernel
theorem dX14_print_31 : decode cL_print 31 = .ok (.aload_n 1, 1) := by decide +kernel
theorem dX14_print_32 : decode cL_print 32 = .ok (.iload_n 3, 1) := by decide +kernel
theorem dX14_print_33 : decode cL_print 33 = .ok (.iconst 0, 1) := by decide +kernel
theorem dX14_print_34 : decode cL_print 34 = .ok (.invokevirtual 123, 3) := by decide +kernel
theorem dX14_print_37 : decode cL_print 37 = .ok (.iadd, 1) := by decide +kernel
theorem dX14_print_38 : decode cL_print 38 = .ok (.imul, 1) := by decide +kernel
theorem dX14_print_39 : decode cL_print 39 = .ok (.aload_n 1, 1) := by decide +kernel
theorem dX14_print_40 : decode cL_print 40 = .ok (.iload_n 3, 1) := by decide +kernel
theorem dX14_print_41 : decode cL_print 41 = .ok (.iconst 1, 1) := by decide +kernel
theorem dX14_print_42 : decode cL_print 42 = .ok (.invokevirtual 123, 3) := by decide +kernel
theorem dX14_print_45 : decode cL_print 45 = .ok (.iadd, 1) := by decide +kernel
theorem dX14_print_46 : decode cL_print 46 = .ok (.istore_n 2, 1) := by decide +kernel
theorem dX14_print_47 : decode cL_print 47 = .ok (.iconst 0, 1) := by decide +kernel
theorem dX14_print_48 : decode cL_print 48 = .ok (.istore 4, 2) := by decide +kernel
theorem dX14_print_50 : decode cL_print 50 = .ok (.iload 4, 2) := by decide +kernel
theorem dX14_print_52 : decode cL_print 52 = .ok (.aload_n 0, 1) := by decide +kernel
theorem dX14_print_53 : decode cL_print 53 = .ok (.invokestatic 66, 3) := by decide +kernel
theorem dX14_print_56 : decode cL_print 56 = .ok (.if_icmp .ge 39, 3) := by decide +kernel
theorem dX14_print_59 : decode cL_print 59 = .ok (.iconst 0, 1) := by decide +kernel
theorem dX14_print_60 : decode cL_print 60 = .ok (.istore 5, 2) := by decide +kernel
theorem dX14_print_62 : decode cL_print 62 = .ok (.iload 5, 2) := by decide +kernel
theorem dX14_print_64 : decode cL_print 64 = .ok (.iconst 3, 1) := by decide +kernel
theorem dX14_print_65 : decode cL_print 65 = .ok (.if_icmp .ge 24, 3) := by decide +kernel
theorem dX14_print_68 : decode cL_print 68 = .ok (.bipush 31, 2) := by decide +kernel
theorem dX14_print_70 : decode cL_print 70 = .ok (.iload_n 2, 1) := by decide +kernel
theorem dX14_print_71 : decode cL_print 71 = .ok (.imul, 1) := by decide +kernel
theorem dX14_print_72 : decode cL_print 72 = .ok (.aload_n 1, 1) := by decide +kernel
theorem dX14_print_73 : decode cL_print 73 = .ok (.iload_n 3, 1) := by decide +kernel
theorem dX14_print_74 : decode cL_print 74 = .ok (.iload 4, 2) := by decide +kernel
theorem dX14_print_76 : decode cL_print 76 = .ok (.iload 5, 2) := by decide +kernel
theorem dX14_print_78 : decode cL_print 78 = .ok (.invokevirtual 117, 3) := by decide +kernel
theorem dX14_print_81 : decode cL_print 81 = .ok (.iadd, 1) := by decide +kernel
theorem dX14_print_82 : decode cL_print 82 = .ok (.istore_n 2, 1) := by decide +kernel
theorem dX14_print_83 : decode cL_print 83 = .ok (.iinc 5 1, 3) := by decide +kernel
theorem dX14_print_86 : decode cL_print 86 = .ok (.goto (-24), 3) := by decide +kernel
theorem dX14_print_89 : decode cL_print 89 = .ok (.iinc 4 1, 3) := by decide +kernel
theorem dX14_print_92 : decode cL_print 92 = .ok (.goto (-42), 3) := by decide +kernel
theorem dX14_print_95 : decode cL_print 95 = .ok (.iinc 3 1, 3) := by decide +kernel
theorem dX14_print_98 : decode cL_print 98 = .ok (.goto (-81), 3) := by decide +kernel
theorem dX14_print_101 : decode cL_print 101 = .ok (.iconst 0, 1) := by decide +kernel
theorem dX14_print_102 : decode cL_print 102 = .ok (.istore_n 3, 1) := by decide +kernel
theorem dX14_print_103 : decode cL_print 103 = .ok (.iload_n 3, 1) := by decide +kernel
theorem dX14_print_104 : decode cL_print 104 = .ok (.aload_n 0, 1) := by decide +kernel
theorem dX14_print_105 : decode cL_print 105 = .ok (.invokestatic 66, 3) := by decide +kernel
theorem dX14_print_108 : decode cL_print 108 = .ok (.if_icmp .ge 32, 3) := by decide +kernel
theorem dX14_print_111 : decode cL_print 111 = .ok (.bipush 31, 2) := by decide +kernel
theorem dX14_print_113 : decode cL_print 113 = .ok (.bipush 31, 2) := by decide +kernel
theorem dX14_print_115 : decode cL_print 115 = .ok (.iload_n 2, 1) := by decide +kernel
theorem dX14_print_116 : decode cL_print 116 = .ok (.imul, 1) := by decide +kernel
theorem dX14_print_117 : decode cL_print 117 = .ok (.aload_n 1, 1) := by decide +kernel
theorem dX14_print_118 : decode cL_print 118 = .ok (.iload_n 3, 1) := by decide +kernel
theorem dX14_print_119 : decode cL_print 119 = .ok (.iconst 1, 1) := by decide +kernel
theorem dX14_print_120 : decode cL_print 120 = .ok (.invokevirtual 120, 3) := by decide +kernel
theorem dX14_print_123 : decode cL_print 123 = .ok (.iadd, 1) := by decide +kernel
theorem dX14_print_124 : decode cL_print 124 = .ok (.imul, 1) := by decide +kernel
theorem dX14_print_125 : decode cL_print 125 = .ok (.aload_n 1, 1) := by decide +kernel
theorem dX14_print_126 : decode cL_print 126 = .ok (.iload_n 3, 1) := by decide +kernel
theorem dX14_print_127 : decode cL_print 127 = .ok (.bipush 8, 2) := by decide +kernel
theorem dX14_print_129 : decode cL_print 129 = .ok (.invokevirtual 120, 3) := by decide +kernel
theorem dX14_print_132 : decode cL_print 132 = .ok (.iadd, 1) := by decide +kernel
theorem dX14_print_133 : decode cL_print 133 = .ok (.istore_n 2, 1) := by decide +kernel
theorem dX14_print_134 : decode cL_print 134 = .ok (.iinc 3 1, 3) := by decide +kernel
theorem dX14_print_137 : decode cL_print 137 = .ok (.goto (-34), 3) := by decide +kernel
theorem dX14_print_140 : decode cL_print 140 = .ok (.iload_n 2, 1) := by decide +kernel
theorem dX14_print_141 : decode cL_print 141 = .ok (.ireturn, 1) := by decide +kernel
set_option maxHeartbeats 400000 in
theorem c14_print {G : Gl} {l : Launch}  {g0 : Nat → Nat} {M M0 : Mem} {d : Int → Int} (ga : KA g0 G.1) (hI : WI M0 d M) (hS : SP d) (hL : d 121 = libsN g0) (hW : d 122 = worksN g0) : Ct G LY 57 l 10 mW_print [vR 1030, vR 0] M (RP (fun v M' => WI M0 d M' ∧ v = prF d (libsN g0).toNat (worksN g0).toNat)) := by
  refine R_start (by decide +kernel) (Nat.le_of_ble_eq_true rfl) (fun C hC hRm hlau => ?_)
  show RZ G LY C (Zn G LY 57 C (RP (fun v M' => WI M0 d M' ∧ v = prF d (libsN g0).toNat (worksN g0).toNat))) 0 0 57 0 [some (vR 1030), some (vR 0), none, none, none, none] [] M
  have hlb := libsN_b g0
  have hwb := worksN_b g0
  refine R_aload_1 hC dX14_print_0 ?_
  refine R_iconst hC dX14_print_1 ⟨by decide, by decide⟩ ?_
  refine R_callVp (as := [vI _]) hC dX14_print_2 mo_11_count mlW_111 (by decide) rfl rfl (k_count_2  hI hS) rfl rfl hRm (by decide) (by decide) (Nat.le_of_ble_eq_true rfl) (fun v3 Mc1 hq2 => ?_)
  obtain ⟨hI4, rfl⟩ := hq2
  refine R_bipush hC dX14_print_5 (by decide +kernel) ⟨by decide, by decide⟩ ?_
  refine R_aload_1 hC dX14_print_7 ?_
  refine R_iconst hC dX14_print_8 ⟨by decide, by decide⟩ ?_
  refine R_callVp (as := [vI _]) hC dX14_print_9 mo_11_count mlW_111 (by decide) rfl rfl (k_count_4  hI4 hS) rfl rfl hRm (by decide) (by decide) (Nat.le_of_ble_eq_true rfl) (fun v7 Mc5 hq6 => ?_)
  obtain ⟨hI8, rfl⟩ := hq6
  refine R_imulw hC dX14_print_12 ?_
  refine R_iaddw hC dX14_print_13 ?_
  refine R_istore_2 hC dX14_print_14 rfl ?_
  refine R_iconst hC dX14_print_15 ⟨by decide, by decide⟩ ?_
  refine R_istore_3 hC dX14_print_16 rfl ?_
  have L17 : ∀ (mq : Nat) (x : Int) (v : Int) (M1 : Mem), (0 ≤ x) → (x ≤ libsN g0) → (WI M0 d M1) → (v = prL d (worksN g0).toNat (bm (d 118 + bm (61 * d 119))) x.toNat) → (libsN g0 - x).toNat < mq → RZ G LY C (Zn G LY 57 C (RP (fun v M' => WI M0 d M' ∧ v = prF d (libsN g0).toNat (worksN g0).toNat))) 0 0 57 17 [some (vR 1030), some (vR 0), some (vI v), some (vI x), none, none] [] M1 := by
    intro mq
    induction mq with
    | zero =>
      intro x v M1 x0 x1 hI hv hm
      exact absurd hm (Nat.not_lt_zero _)
    | succ mq ih17 =>
      intro x v M1 x0 x1 hI hv hm17
      refine R_iload_3 hC dX14_print_17 ?_
      refine R_aload_0 hC dX14_print_18 ?_
      refine R_callSq (as := [vR _]) hC dX14_print_19 momW_libraries mlW_40 (l_libs  ga) rfl rfl hRm (by decide) (by decide) (Nat.le_of_ble_eq_true rfl) ?_
      refine R_icmp_ge hC dX14_print_22 (tgt := 101) (by decide) (fun hb22 => ?_) (fun hb22 => ?_)
      · skip
        have ex : x = libsN g0 := by omega
        rw [ex] at hv
        refine R_iconst hC dX14_print_101 ⟨by decide, by decide⟩ ?_
        refine R_istore_3 hC dX14_print_102 rfl ?_
        have L103 : ∀ (mq : Nat) (w : Int) (v4 : Int) (M4 : Mem), (0 ≤ w) → (w ≤ worksN g0) → (WI M0 d M4) → (v4 = prK d (prL d (worksN g0).toNat (bm (d 118 + bm (61 * d 119))) (libsN g0).toNat) w.toNat) → (worksN g0 - w).toNat < mq → RZ G LY C (Zn G LY 57 C (RP (fun v M' => WI M0 d M' ∧ v = prF d (libsN g0).toNat (worksN g0).toNat))) 0 0 57 103 [some (vR 1030), some (vR 0), some (vI v4), some (vI w), none, none] [] M4 := by
          intro mq
          induction mq with
          | zero =>
            intro w v4 M4 w0 w1 hI hv4 hm
            exact absurd hm (Nat.not_lt_zero _)
          | succ mq ih103 =>
            intro w v4 M4 w0 w1 hI hv4 hm103
            refine R_iload_3 hC dX14_print_103 ?_
            refine R_aload_0 hC dX14_print_104 ?_
            refine R_callSq (as := [vR _]) hC dX14_print_105 momW_works mlW_66 (l_works  ga) rfl rfl hRm (by decide) (by decide) (Nat.le_of_ble_eq_true rfl) ?_
            refine R_icmp_ge hC dX14_print_108 (tgt := 140) (by decide) (fun hb108 => ?_) (fun hb108 => ?_)
            · skip
              have ew : w = worksN g0 := by omega
              rw [ew] at hv4
              refine R_iload_2 hC dX14_print_140 ?_
              exact R_ireturn hC dX14_print_141 rfl (ret_P ⟨hI, hv4⟩)
            · skip
              refine R_bipush hC dX14_print_111 (by decide +kernel) ⟨by decide, by decide⟩ ?_
              refine R_bipush hC dX14_print_113 (by decide +kernel) ⟨by decide, by decide⟩ ?_
              refine R_iload_2 hC dX14_print_115 ?_
              refine R_imulw hC dX14_print_116 ?_
              refine R_aload_1 hC dX14_print_117 ?_
              refine R_iload_3 hC dX14_print_118 ?_
              refine R_iconst hC dX14_print_119 ⟨by decide, by decide⟩ ?_
              refine R_callVp (as := [vI _, vI _]) hC dX14_print_120 mo_11_work mlW_120 (by decide) rfl rfl (k_work_1  hI hS (by omega) (by omega)) rfl rfl hRm (by decide) (by decide) (Nat.le_of_ble_eq_true rfl) (fun v11 Mc9 hq10 => ?_)
              obtain ⟨hI12, rfl⟩ := hq10
              refine R_iaddw hC dX14_print_123 ?_
              refine R_imulw hC dX14_print_124 ?_
              refine R_aload_1 hC dX14_print_125 ?_
              refine R_iload_3 hC dX14_print_126 ?_
              refine R_bipush hC dX14_print_127 (by decide +kernel) ⟨by decide, by decide⟩ ?_
              refine R_callVp (as := [vI _, vI _]) hC dX14_print_129 mo_11_work mlW_120 (by decide) rfl rfl (k_work_8  hI12 hS (by omega) (by omega)) rfl rfl hRm (by decide) (by decide) (Nat.le_of_ble_eq_true rfl) (fun v15 Mc13 hq14 => ?_)
              obtain ⟨hI16, rfl⟩ := hq14
              refine R_iaddw hC dX14_print_132 ?_
              refine R_istore_2 hC dX14_print_133 rfl ?_
              refine R_iinc_3 hC dX14_print_134 rfl ⟨by omega, by omega⟩ ?_
              refine R_goto hC dX14_print_137 (tgt := 103) (by decide) ?_
              exact ih103 _ _ _ (by omega) (by omega) hI16 (by rw [prK_s w0, hv4]; rfl) (by omega)
        exact L103 _ 0 _ _ (by omega) (by omega) hI hv (Nat.lt_succ_self _)
      · skip
        refine R_bipush hC dX14_print_25 (by decide +kernel) ⟨by decide, by decide⟩ ?_
        refine R_bipush hC dX14_print_27 (by decide +kernel) ⟨by decide, by decide⟩ ?_
        refine R_iload_2 hC dX14_print_29 ?_
        refine R_imulw hC dX14_print_30 ?_
        refine R_aload_1 hC dX14_print_31 ?_
        refine R_iload_3 hC dX14_print_32 ?_
        refine R_iconst hC dX14_print_33 ⟨by decide, by decide⟩ ?_
        refine R_callVp (as := [vI _, vI _]) hC dX14_print_34 mo_11_library mlW_123 (by decide) rfl rfl (k_library_0  hI hS (by omega) (by omega)) rfl rfl hRm (by decide) (by decide) (Nat.le_of_ble_eq_true rfl) (fun v19 Mc17 hq18 => ?_)
        obtain ⟨hI20, rfl⟩ := hq18
        refine R_iaddw hC dX14_print_37 ?_
        refine R_imulw hC dX14_print_38 ?_
        refine R_aload_1 hC dX14_print_39 ?_
        refine R_iload_3 hC dX14_print_40 ?_
        refine R_iconst hC dX14_print_41 ⟨by decide, by decide⟩ ?_
        refine R_callVp (as := [vI _, vI _]) hC dX14_print_42 mo_11_library mlW_123 (by decide) rfl rfl (k_library_1  hI20 hS (by omega) (by omega)) rfl rfl hRm (by decide) (by decide) (Nat.le_of_ble_eq_true rfl) (fun v23 Mc21 hq22 => ?_)
        obtain ⟨hI24, rfl⟩ := hq22
        refine R_iaddw hC dX14_print_45 ?_
        refine R_istore_2 hC dX14_print_46 rfl ?_
        refine R_iconst hC dX14_print_47 ⟨by decide, by decide⟩ ?_
        refine R_istore_4 hC dX14_print_48 rfl ?_
        have L50 : ∀ (mq : Nat) (y : Int) (v2 : Int) (M2 : Mem), (0 ≤ y) → (y ≤ worksN g0) → (WI M0 d M2) → (v2 = prW d x (bm (bm (31 * bm (bm (31 * v) + d x)) + d (5 + x))) y.toNat) → (worksN g0 - y).toNat < mq → RZ G LY C (Zn G LY 57 C (RP (fun v M' => WI M0 d M' ∧ v = prF d (libsN g0).toNat (worksN g0).toNat))) 0 0 57 50 [some (vR 1030), some (vR 0), some (vI v2), some (vI x), some (vI y), none] [] M2 := by
          intro mq
          induction mq with
          | zero =>
            intro y v2 M2 y0 y1 hI hv2 hm
            exact absurd hm (Nat.not_lt_zero _)
          | succ mq ih50 =>
            intro y v2 M2 y0 y1 hI hv2 hm50
            refine R_iload_4 hC dX14_print_50 ?_
            refine R_aload_0 hC dX14_print_52 ?_
            refine R_callSq (as := [vR _]) hC dX14_print_53 momW_works mlW_66 (l_works  ga) rfl rfl hRm (by decide) (by decide) (Nat.le_of_ble_eq_true rfl) ?_
            refine R_icmp_ge hC dX14_print_56 (tgt := 95) (by decide) (fun hb56 => ?_) (fun hb56 => ?_)
            · skip
              have ey : y = worksN g0 := by omega
              rw [ey] at hv2
              refine R_iinc_3 hC dX14_print_95 rfl ⟨by omega, by omega⟩ ?_
              refine R_goto hC dX14_print_98 (tgt := 17) (by decide) ?_
              refine R_weak (subL_c (subL_c (subL_c (subL_c (subL_d (subL_c subL_n)))))) ?_
              exact ih17 _ _ _ (by omega) (by omega) hI (by rw [prL_s x0, ← hv]; exact hv2) (by omega)
            · skip
              refine R_iconst hC dX14_print_59 ⟨by decide, by decide⟩ ?_
              refine R_istore_5 hC dX14_print_60 rfl ?_
              have L62 : ∀ (mq : Nat) (f : Int) (v3 : Int) (M3 : Mem), (0 ≤ f) → (f ≤ 3) → (WI M0 d M3) → (v3 = prH d x y v2 f.toNat) → (3 - f).toNat < mq → RZ G LY C (Zn G LY 57 C (RP (fun v M' => WI M0 d M' ∧ v = prF d (libsN g0).toNat (worksN g0).toNat))) 0 0 57 62 [some (vR 1030), some (vR 0), some (vI v3), some (vI x), some (vI y), some (vI f)] [] M3 := by
                intro mq
                induction mq with
                | zero =>
                  intro f v3 M3 f0 f1 hI hv3 hm
                  exact absurd hm (Nat.not_lt_zero _)
                | succ mq ih62 =>
                  intro f v3 M3 f0 f1 hI hv3 hm62
                  refine R_iload_5 hC dX14_print_62 ?_
                  refine R_iconst hC dX14_print_64 ⟨by decide, by decide⟩ ?_
                  refine R_icmp_ge hC dX14_print_65 (tgt := 89) (by decide) (fun hb65 => ?_) (fun hb65 => ?_)
                  · skip
                    have ef : f = 3 := by omega
                    rw [ef] at hv3
                    replace hv3 : v3 = prH d x y v2 3 := hv3
                    refine R_iinc_4 hC dX14_print_89 rfl ⟨by omega, by omega⟩ ?_
                    refine R_goto hC dX14_print_92 (tgt := 50) (by decide) ?_
                    refine R_weak (subL_c (subL_c (subL_c (subL_c (subL_c (subL_d subL_n)))))) ?_
                    exact ih50 _ _ _ (by omega) (by omega) hI (by rw [prW_s y0, ← hv2]; exact hv3) (by omega)
                  · skip
                    refine R_bipush hC dX14_print_68 (by decide +kernel) ⟨by decide, by decide⟩ ?_
                    refine R_iload_2 hC dX14_print_70 ?_
                    refine R_imulw hC dX14_print_71 ?_
                    refine R_aload_1 hC dX14_print_72 ?_
                    refine R_iload_3 hC dX14_print_73 ?_
                    refine R_iload_4 hC dX14_print_74 ?_
                    refine R_iload_5 hC dX14_print_76 ?_
                    refine R_callVp (as := [vI _, vI _, vI _]) hC dX14_print_78 mo_11_held mlW_117 (by decide) rfl rfl (k_held_f  hI hS (by omega) (by omega) (by omega) (by omega) (by omega) (by omega)) rfl rfl hRm (by decide) (by decide) (Nat.le_of_ble_eq_true rfl) (fun v27 Mc25 hq26 => ?_)
                    obtain ⟨hI28, rfl⟩ := hq26
                    refine R_iaddw hC dX14_print_81 ?_
                    refine R_istore_2 hC dX14_print_82 rfl ?_
                    refine R_iinc_5 hC dX14_print_83 rfl ⟨by omega, by omega⟩ ?_
                    refine R_goto hC dX14_print_86 (tgt := 62) (by decide) ?_
                    exact ih62 _ _ _ (by omega) (by omega) hI28 (by rw [prH_s f0, hv3]; rfl) (by omega)
              exact L62 _ 0 _ _ (by omega) (by omega) hI rfl (Nat.lt_succ_self _)
        exact L50 _ 0 _ _ (by omega) (by omega) hI24 rfl (Nat.lt_succ_self _)
  exact L17 _ 0 _ _ (by omega) (by omega) hI8 rfl (Nat.lt_succ_self _)
