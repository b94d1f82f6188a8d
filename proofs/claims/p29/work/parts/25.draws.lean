/-! Draws: YEARS by a seed -/
def nxS (s : Int) : Int := ((s * 1103515245).bmod 4294967296 + 12345).bmod 4294967296
def drV (s m : Int) : Int := if 0 < m then (nxS s % 4294967296 / 2 ^ Int.toNat 16).bmod 4294967296 % 2 ^ 15 % m else 0
theorem drV_bd {s m : Int} (h : 0 < m) : 0 ≤ drV s m ∧ drV s m < m := by
  unfold drV
  rw [if_pos h]
  exact ⟨Int.emod_nonneg _ (by omega), Int.emod_lt_of_pos _ h⟩
noncomputable def mcG (d : Int → Int) (w x t k s2 s3 : Int) : (Int → Int) × Int :=
  if k < 2 then (upd1 d (28 + (x * 6 + w)) (min 3 (d (28 + (x * 6 + w)) + 1)), s2)
  else if k = 2 then (@ite (Int → Int) (mayGo d x w) (Classical.propDecidable _) (upd1 (upd1 d (28 + (x * 6 + w)) (d (28 + (x * 6 + w)) - 1)) 119 (d 119 + 1)) d, s2)
  else (@ite (Int → Int) (mayGive d x t w) (Classical.propDecidable _) (mvR d x t w) d, s3)
noncomputable def mcF (d : Int → Int) (s k : Int) : (Int → Int) × Int := mcG d (drV s (d 122)) (drV (nxS s) (d 121)) (drV (nxS (nxS s)) (d 121)) k (nxS (nxS s)) (nxS (nxS (nxS s)))
theorem mcG_0 {d : Int → Int} {w x t k s2 s3 : Int} (h : k < 2) : mcG d w x t k s2 s3 = (upd1 d (28 + (x * 6 + w)) (min 3 (d (28 + (x * 6 + w)) + 1)), s2) := by
  unfold mcG
  rw [if_pos h]
theorem mcG_2t {d : Int → Int} {w x t k s2 s3 : Int} (h : k = 2) (g : mayGo d x w) : mcG d w x t k s2 s3 = (upd1 (upd1 d (28 + (x * 6 + w)) (d (28 + (x * 6 + w)) - 1)) 119 (d 119 + 1), s2) := by
  unfold mcG
  rw [if_neg (by omega), if_pos h, if_pos g]
theorem mcG_2f {d : Int → Int} {w x t k s2 s3 : Int} (h : k = 2) (g : ¬ mayGo d x w) : mcG d w x t k s2 s3 = (d, s2) := by
  unfold mcG
  rw [if_neg (by omega), if_pos h, if_neg g]
theorem mcG_3t {d : Int → Int} {w x t k s2 s3 : Int} (h : 2 < k) (g : mayGive d x t w) : mcG d w x t k s2 s3 = (mvR d x t w, s3) := by
  unfold mcG
  rw [if_neg (by omega), if_neg (by omega), if_pos g]
theorem mcG_3f {d : Int → Int} {w x t k s2 s3 : Int} (h : 2 < k) (g : ¬ mayGive d x t w) : mcG d w x t k s2 s3 = (d, s3) := by
  unfold mcG
  rw [if_neg (by omega), if_neg (by omega), if_neg g]
