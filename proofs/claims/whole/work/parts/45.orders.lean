/-! ORDERS: by codes, and by trying on -/
def dg (L code k : Int) : Int := code / 5 ^ (L - 1 - k).toNat % 5
def okO (I : Ins) (b od : Int → Int) : Prop := oR (iL I) od ∧ ∀ k, 0 ≤ k → k < iL I → ¬ wdw I b (od k) (oS I b od k.toNat) < iN I (od k)
noncomputable def stepO (I : Ins) (b od : Int → Int) (a : AC) : AC := itc (okO I b od) (a.1 + 1, if a.2.1 < oP I b od (iL I).toNat then oP I b od (iL I).toNat else a.2.1, if a.2.1 < oP I b od (iL I).toNat then od else a.2.2) a
noncomputable def cdF (I : Ins) (b : Int → Int) : Nat → Int → (Int → Int) → AC → AC
  | 0, _, od, a => stepO I b od a
  | n + 1, t, od, a => fl (fun x a => cdF I b n (t + 1) (up od t x) a) 5 a
def AE (L : Int) (a a' : AC) : Prop := a.1 = a'.1 ∧ a.2.1 = a'.2.1 ∧ (0 < a.1 → ∀ j, 0 ≤ j → j < L → a.2.2 j = a'.2.2 j) ∧ 0 ≤ a.1 ∧ (a.1 = 0 → a.2.1 = -1)
section OC
variable {I : Ins} {b od od' : Int → Int}
theorem oS_c : ∀ k : Nat, (∀ j, 0 ≤ j → j < (k : Int) → od j = od' j) → oS I b od k = oS I b od' k
  | 0, _ => rfl
  | k + 1, h => by rw [oS, oS, oS_c k (fun j a c => h j a (by omega)), h k (by omega) (by omega)]
theorem oP_c (k : Nat) (h : ∀ j, 0 ≤ j → j < (k : Int) → od j = od' j) : oP I b od k = oP I b od' k := by
  refine sm_congr k (fun j a c => ?_)
  rw [oS_c j.toNat (fun i p q => h i p (by omega)), h j a c]
theorem okO_c (h : ∀ j, 0 ≤ j → j < iL I → od j = od' j) : okO I b od → okO I b od' := by
  rintro ⟨⟨r, d⟩, l⟩
  refine ⟨⟨fun k a c => by rw [← h k a c]; exact r k a c, fun j k a c e => by rw [← h j a (by omega), ← h k (by omega) e]; exact d j k a c e⟩, fun k a c => ?_⟩
  rw [← h k a c, ← oS_c k.toNat (fun i p q => h i p (by omega))]
  exact l k a c
theorem stepO_AE (hI : IB I) (hb : RK (iW I) (iZ I) b) {a a' : AC} (h : ∀ j, 0 ≤ j → j < iL I → od j = od' j) (g : AE (iL I) a a') : AE (iL I) (stepO I b od a) (stepO I b od' a') := by
  have hL := hI.1
  by_cases q : okO I b od
  · have q' := okO_c h q
    have p0 := (oP_bd hI hb q.1.1 hL.1 (Int.le_refl _)).1
    have e := oP_c (I := I) (b := b) (iL I).toNat (fun j a c => h j a (by omega))
    unfold stepO
    rw [itc_t q, itc_t q', ← e, ← g.2.1]
    refine ⟨by show a.1 + 1 = a'.1 + 1; rw [g.1], rfl, fun _ j j0 j1 => ?_, by show 0 ≤ a.1 + 1; have := g.2.2.2.1; omega, fun z => by have : a.1 + 1 = 0 := z; have := g.2.2.2.1; omega⟩
    show (if _ then od else a.2.2) j = (if _ then od' else a'.2.2) j
    by_cases r : a.2.1 < oP I b od (iL I).toNat
    · rw [if_pos r, if_pos r]; exact h j j0 j1
    · rw [if_neg r, if_neg r]
      refine g.2.2.1 ?_ j j0 j1
      have := g.2.2.2.1
      have := g.2.2.2.2
      omega
  · have q' : ¬ okO I b od' := fun z => q (okO_c (fun j a c => (h j a c).symm) z)
    unfold stepO
    rw [itc_f q, itc_f q']
    exact g
theorem fl_AE {L : Int} {g g' : Int → AC → AC} : ∀ n : Nat, (∀ x : Int, 0 ≤ x → x < n → ∀ a a', AE L a a' → AE L (g x a) (g' x a')) → ∀ a a', AE L a a' → AE L (fl g n a) (fl g' n a')
  | 0, _, _, _, h => h
  | n + 1, hg, a, a', h => hg n (by omega) (by omega) _ _ (fl_AE n (fun x x0 x1 => hg x x0 (by omega)) a a' h)
theorem fl_id {g : Int → AC → AC} : ∀ n : Nat, (∀ x : Int, 0 ≤ x → x < n → ∀ a, g x a = a) → ∀ a, fl g n a = a
  | 0, _, _ => rfl
  | n + 1, hg, a => by rw [fl, fl_id n (fun x x0 x1 => hg x x0 (by omega)) a, hg n (by omega) (by omega)]
theorem fl_add {g : Int → AC → AC} (n : Nat) : ∀ m : Nat, ∀ a, fl g (n + m) a = fl (fun j => g (n + j)) m (fl g n a)
  | 0, _ => rfl
  | m + 1, a => by
    show g ((n + m : Nat) : Int) (fl g (n + m) a) = g (n + (m : Int)) (fl (fun j => g (n + j)) m (fl g n a))
    rw [fl_add n m a, Int.natCast_add]
theorem fl_mul {g : Int → AC → AC} (m : Nat) : ∀ n : Nat, ∀ a, fl g (n * m) a = fl (fun x a => fl (fun j a => g (x * m + j) a) m a) n a
  | 0, a => by rw [Nat.zero_mul]; rfl
  | n + 1, a => by
    rw [Nat.succ_mul, fl_add, fl_mul m n a, fl, Int.natCast_mul]
theorem cd_bad : ∀ (n : Nat) (t : Int) (od : Int → Int) (a : AC), (∀ od', (∀ k, 0 ≤ k → k < t → od' k = od k) → ¬ okO I b od') → cdF I b n t od a = a
  | 0, t, od, a, h => itc_f (h od (fun _ _ _ => rfl))
  | n + 1, t, od, a, h => fl_id 5 (fun x _ _ a => cd_bad n (t + 1) (up od t x) a (fun od' e => h od' (fun k a c => (e k a (by omega)).trans (up_ne (by omega))))) a
/-- trying on: the same as all codes -/
theorem lu_cd (hI : IB I) (hb : RK (iW I) (iZ I) b) : ∀ (n : Nat) (t dn sp : Int) (s od : Int → Int) (a a' : AC), 0 ≤ t → t + n = iL I → (∀ k, 0 ≤ k → k < t → 0 ≤ od k ∧ od k < iL I) → (∀ j k, 0 ≤ j → j < k → k < t → od j ≠ od k) → (∀ k, 0 ≤ k → k < t → ¬ wdw I b (od k) (oS I b od k.toNat) < iN I (od k)) →
    s = oS I b od t.toNat → sp = oP I b od t.toNat → (0 ≤ dn ∧ dn < 32 ∧ ∀ x, 0 ≤ x → x < 5 → (dn / 2 ^ x.toNat % 2 = 0 ↔ ∀ k, 0 ≤ k → k < t → od k ≠ x)) → AE (iL I) a a' → AE (iL I) (luF I b n t dn sp s od a) (cdF I b n t od a')
  | 0, t, dn, sp, s, od, a, a', t0, tn, hr, hd, hl, hs, hp, hdn, g => by
    have hL := hI.1
    have tL : t = iL I := by omega
    subst tL
    have ok : okO I b od := ⟨⟨hr, hd⟩, hl⟩
    have p0 := (oP_bd hI hb hr hL.1 (Int.le_refl _)).1
    show AE (iL I) (a.1 + 1, if a.2.1 < sp then sp else a.2.1, if a.2.1 < sp then od else a.2.2) (stepO I b od a')
    unfold stepO
    rw [itc_t ok, ← hp, ← g.2.1]
    refine ⟨by show a.1 + 1 = a'.1 + 1; rw [g.1], rfl, fun _ j j0 j1 => ?_, by show 0 ≤ a.1 + 1; have := g.2.2.2.1; omega, fun z => by have : a.1 + 1 = 0 := z; have := g.2.2.2.1; omega⟩
    show (if _ then od else a.2.2) j = (if _ then od else a'.2.2) j
    by_cases r : a.2.1 < sp
    · rw [if_pos r, if_pos r]
    · rw [if_neg r, if_neg r]
      refine g.2.2.1 ?_ j j0 j1
      have := g.2.2.2.1
      have := g.2.2.2.2
      omega
  | n + 1, t, dn, sp, s, od, a, a', t0, tn, hr, hd, hl, hs, hp, hdn, g => by
    have hL := hI.1
    have e5 : ∀ a', cdF I b (n + 1) t od a' = fl (fun x a => cdF I b n (t + 1) (up od t x) a) (iL I).toNat a' := fun a' => by
      show fl _ 5 a' = _
      rw [show (5 : Nat) = (iL I).toNat + (5 - (iL I).toNat) by omega, fl_add]
      exact fl_id _ (fun x x0 x1 a => cd_bad n (t + 1) _ a (fun od' e z => by
        have h1 := e t t0 (by omega)
        rw [up_same] at h1
        have := z.1.1 t t0 (by omega)
        omega)) _
    rw [e5, luF]
    refine fl_AE _ (fun x x0 x1 a a' g => ?_) a a' g
    have ho : ∀ k, k < t → up od t x k = od k := fun k hk => up_ne (by omega)
    have hso : oS I b (up od t x) t.toNat = s := by rw [hs]; exact oS_c _ (fun j a c => ho j (by omega))
    by_cases c : dn / 2 ^ x.toNat % 2 = 0 ∧ iN I x ≤ wdw I b x s
    · rw [if_pos c]
      have hx := (hdn.2.2 x x0 (by omega)).mp c.1
      have hor := done_or hdn.1 hdn.2.1 x0 (by omega) c.1
      refine lu_cd hI hb n (t + 1) _ _ _ _ a a' (by omega) (by omega) (fun k a c => ?_) (fun j k a c e => ?_) (fun k a e => ?_) ?_ ?_ ⟨by have := pw_le6 x0 (show x ≤ 5 by omega); omega, hor.2, fun y y0 y1 => ?_⟩ g
      · by_cases q : k = t
        · rw [q, up_same]; omega
        · rw [ho k (by omega)]; exact hr k a (by omega)
      · by_cases q : k = t
        · rw [q, up_same, ho j (by omega)]; exact hx j a (by omega)
        · rw [ho j (by omega), ho k (by omega)]; exact hd j k a c (by omega)
      · by_cases q : k = t
        · rw [q, up_same, hso]; omega
        · rw [ho k (by omega), oS_c (od' := od) k.toNat (fun j a c => ho j (by omega))]; exact hl k a (by omega)
      · rw [oS_s t0 rfl, up_same, hso]
      · unfold oP
        rw [sm_to t0 rfl, up_same, hso, hp]
        congr 1
        refine sm_congr _ (fun j a c => ?_)
        rw [ho j (by omega), oS_c (od := up od t x) (od' := od) j.toNat (fun i p q => ho i (by omega))]
      · have key : ∀ a : Nat, a < 32 → ∀ k : Nat, k < 5 → ∀ m : Nat, m < 5 → (a : Int) / 2 ^ k % 2 = 0 → (((a : Int) + 2 ^ k) / 2 ^ m % 2 = if m = k then 1 else (a : Int) / 2 ^ m % 2) := by decide +kernel
        have := key dn.toNat (by omega) x.toNat (by omega) y.toNat (by omega)
        rw [Int.toNat_of_nonneg hdn.1] at this
        rw [this c.1]
        by_cases q : y = x
        · rw [if_pos (by omega)]
          exact ⟨fun z => absurd z (by decide), fun z => absurd (by rw [up_same, q]) (z t t0 (by omega))⟩
        · rw [if_neg (by omega), hdn.2.2 y y0 y1]
          constructor
          · intro z k a c
            by_cases r : k = t
            · rw [r, up_same]; exact Ne.symm q
            · rw [ho k (by omega)]; exact z k a (by omega)
          · intro z k a c
            have := z k a (by omega)
            rw [ho k c] at this
            exact this
    · rw [if_neg c, cd_bad n (t + 1) (up od t x) a' (fun od' e z => ?_)]
      · exact g
      · have h1 := e t t0 (by omega)
        rw [up_same] at h1
        refine c ⟨(hdn.2.2 x x0 (by omega)).mpr (fun k a c y => ?_), ?_⟩
        · refine z.1.2 k t a c (by omega) ?_
          rw [h1, e k a (by omega), ho k c]
          exact y
        · have := z.2 t t0 (by omega)
          rw [h1, oS_c (od' := up od t x) t.toNat (fun j a c => e j a (by omega)), hso] at this
          omega
def mixO (t : Int) (n : Nat) (od : Int → Int) (j : Int) : Int → Int := fun k => if k < t then od k else j / 5 ^ (t + n - 1 - k).toNat % 5
theorem p5 (n : Nat) : (0 : Int) < 5 ^ n := Int.pow_pos (by decide)
theorem code_cd (hI : IB I) (hb : RK (iW I) (iZ I) b) : ∀ (n : Nat) (t : Int) (od : Int → Int) (a a' : AC), 0 ≤ t → t + n = iL I → AE (iL I) a a' → AE (iL I) (fl (fun j a => stepO I b (mixO t n od j) a) (5 ^ n) a) (cdF I b n t od a')
  | 0, t, od, a, a', t0, tn, g => stepO_AE hI hb (fun j j0 j1 => if_pos (by omega)) g
  | n + 1, t, od, a, a', t0, tn, g => by
    rw [Nat.pow_succ, Nat.mul_comm, fl_mul]
    refine fl_AE 5 (fun x x0 x1 a a' g => ?_) a a' g
    have r := code_cd hI hb n (t + 1) (up od t x) a a' (by omega) (by omega) g
    have e := fl_AE (L := iL I) (g := fun j a => stepO I b (mixO t (n + 1) od (x * ((5 ^ n : Nat) : Int) + j)) a) (g' := fun j a => stepO I b (mixO (t + 1) n (up od t x) j) a) (5 ^ n) (fun j j0 j1 a a' g => stepO_AE hI hb (fun k k0 k1 => ?_) g) a a ⟨rfl, rfl, fun _ _ _ _ => rfl, g.2.2.2⟩
    · exact ⟨e.1.trans r.1, e.2.1.trans r.2.1, fun z i p q => (e.2.2.1 z i p q).trans (r.2.2.1 (by rw [← e.1]; exact z) i p q), e.2.2.2⟩
    · have pn := p5 n
      have c5 : ((5 ^ n : Nat) : Int) = 5 ^ n := by rw [Int.natCast_pow]; rfl
      rw [c5] at j1 ⊢
      unfold mixO
      by_cases q : k < t
      · rw [if_pos q, if_pos (by omega), up_ne (by omega)]
      rw [if_neg q]
      by_cases p : k = t
      · rw [if_pos (by omega), p, up_same, show (t + ((n + 1 : Nat) : Int) - 1 - t).toNat = n by omega, Int.add_comm, Int.add_mul_ediv_right _ _ (Int.ne_of_gt pn), Int.ediv_eq_zero_of_lt j0 j1, Int.zero_add, Int.emod_eq_of_lt x0 (by omega)]
      · rw [if_neg (by omega), show t + 1 + (n : Int) - 1 - k = t + ((n + 1 : Nat) : Int) - 1 - k by omega]
        obtain ⟨m, hm, hmn⟩ : ∃ m : Nat, (t + ((n + 1 : Nat) : Int) - 1 - k).toNat = m ∧ m < n := ⟨_, rfl, by omega⟩
        rw [hm]
        obtain ⟨i, rfl⟩ : ∃ i, n = i + 1 + m := ⟨n - m - 1, by omega⟩
        have pm := p5 m
        rw [show x * 5 ^ (i + 1 + m) = x * 5 ^ i * 5 * 5 ^ m by rw [Int.pow_add, Int.pow_succ, ← Int.mul_assoc, ← Int.mul_assoc], Int.add_comm, Int.add_mul_ediv_right _ _ (Int.ne_of_gt pm), Int.add_mul_emod_self_right]
end OC
noncomputable def ordF (I : Ins) (b : Int → Int) (n : Nat) : AC := fl (fun k a => stepO I b (dg (iL I) k) a) n (0, -1, fun _ => 0)
theorem ord_eq {I : Ins} {b : Int → Int} (hI : IB I) (hb : RK (iW I) (iZ I) b) (o e : Int → Int) : AE (iL I) (luF I b (iL I).toNat 0 0 0 (iS I) o (0, -1, e)) (ordF I b (5 ^ (iL I).toNat)) := by
  have hL := hI.1
  have a0 : AE (iL I) (0, -1, e) (0, -1, fun _ => 0) := ⟨rfl, rfl, fun z => absurd z (by show ¬ (0 : Int) < 0; decide), Int.le_refl 0, fun _ => rfl⟩
  have h1 := lu_cd hI hb (iL I).toNat 0 0 0 (iS I) o (0, -1, e) (0, -1, e) (Int.le_refl 0) (by omega) (fun k _ _ => by omega) (fun j k _ _ _ => by omega) (fun k _ _ => by omega) rfl rfl ⟨Int.le_refl 0, by decide, fun x x0 x1 => ⟨fun _ k _ _ => by omega, fun _ => by simp⟩⟩ ⟨rfl, rfl, fun _ _ _ _ => rfl, Int.le_refl 0, fun _ => rfl⟩
  have h2 := code_cd hI hb (iL I).toNat 0 o (0, -1, fun _ => 0) (0, -1, e) (Int.le_refl 0) (by omega) ⟨rfl, rfl, fun z => absurd z (by show ¬ (0 : Int) < 0; decide), Int.le_refl 0, fun _ => rfl⟩
  have h3 : AE (iL I) (ordF I b (5 ^ (iL I).toNat)) (fl (fun j a => stepO I b (mixO 0 (iL I).toNat o j) a) (5 ^ (iL I).toNat) (0, -1, fun _ => 0)) :=
    fl_AE _ (fun x x0 x1 a a' g => stepO_AE hI hb (fun k k0 k1 => by
      unfold dg mixO
      rw [if_neg (by omega), show 0 + ((iL I).toNat : Int) - 1 - k = iL I - 1 - k by omega]) g) _ _ ⟨rfl, rfl, fun z => absurd z (by show ¬ (0 : Int) < 0; decide), Int.le_refl 0, fun _ => rfl⟩
  have e1 : (luF I b (iL I).toNat 0 0 0 (iS I) o (0, -1, e)).1 = (ordF I b (5 ^ (iL I).toNat)).1 := h1.1.trans (h2.1.symm.trans h3.1.symm)
  refine ⟨e1, h1.2.1.trans (h2.2.1.symm.trans h3.2.1.symm), fun z j j0 j1 => (h1.2.2.1 z j j0 j1).trans ?_, h1.2.2.2⟩
  have z3 : 0 < (ordF I b (5 ^ (iL I).toNat)).1 := by rw [← e1]; exact z
  rw [h3.2.2.1 z3 j j0 j1]
  exact (h2.2.2.1 (by rw [← h3.1]; exact z3) j j0 j1).symm
theorem div5 {a : Int} (h : 0 ≤ a) (m : Nat) : a / 5 ^ m / 5 = a / 5 ^ (m + 1) := by
  obtain ⟨c, rfl⟩ := Int.eq_ofNat_of_zero_le h
  have e : ∀ k : Nat, (5 : Int) ^ k = ((5 ^ k : Nat) : Int) := fun k => by rw [Int.natCast_pow]; rfl
  rw [e, e, ← Int.natCast_ediv, show (5 : Int) = ((5 : Nat) : Int) from rfl, ← Int.natCast_ediv, ← Int.natCast_ediv, Nat.div_div_eq_div_mul, Nat.pow_succ]
theorem eq32 {a b : Int} (a0 : 0 ≤ a) (a1 : a < 32) (b0 : 0 ≤ b) (b1 : b < 32) (h : ∀ y : Int, 0 ≤ y → y < 5 → a / 2 ^ y.toNat % 2 = b / 2 ^ y.toNat % 2) : a = b := by
  have h0 : a / 1 % 2 = b / 1 % 2 := h 0 (by decide) (by decide)
  have h1 : a / 2 % 2 = b / 2 % 2 := h 1 (by decide) (by decide)
  have h2 : a / 4 % 2 = b / 4 % 2 := h 2 (by decide) (by decide)
  have h3 : a / 8 % 2 = b / 8 % 2 := h 3 (by decide) (by decide)
  have h4 : a / 16 % 2 = b / 16 % 2 := h 4 (by decide) (by decide)
  omega
theorem full_bt {L y : Int} (h0 : 0 ≤ L) (h1 : L ≤ 5) (y0 : 0 ≤ y) (y1 : y < 5) : ((2 : Int) ^ L.toNat - 1) / 2 ^ y.toNat % 2 = if y < L then 1 else 0 := by
  by_cases q : y < L
  · rw [if_pos q]; exact full_bit h0 h1 y0 q
  · rw [if_neg q]
    have := pw_le (i := L) (j := y) h0 (by omega)
    have := pw_le6 h0 h1
    rw [Int.ediv_eq_zero_of_lt (by omega) (by omega)]
    rfl
theorem perm_iff {L set : Int} {od : Int → Int} (h0 : 0 ≤ L) (h1 : L ≤ 5) (ho : ∀ k, 0 ≤ k → k < L → 0 ≤ od k ∧ od k < 5) (s0 : 0 ≤ set) (s1 : set < 32) (hb : ∀ y : Int, 0 ≤ y → y < 5 → set / 2 ^ y.toNat % 2 = bP (∃ k, 0 ≤ k ∧ k < L ∧ od k = y)) : set = 2 ^ L.toNat - 1 ↔ oR L od := by
  have hp := pw_le6 h0 h1
  have tot : (∀ k, 0 ≤ k → k < L → od k < L) → sm L.toNat (fun x => sm L.toNat (fun k => bP (od k = x))) = sm L.toNat (fun _ => 1) := fun hl => by
    rw [sm_swap]
    refine sm_congr _ (fun k k0 k1 => ?_)
    rw [sm_one (i := od k) _ (ho k k0 (by omega)).1 (by have := hl k k0 (by omega); omega) (fun x _ _ ne => bP_neg (fun z => ne z.symm))]
    exact bP_pos rfl
  constructor
  · intro e
    have hbit : ∀ y, 0 ≤ y → y < 5 → bP (∃ k, 0 ≤ k ∧ k < L ∧ od k = y) = if y < L then 1 else 0 := fun y y0 y1 => by rw [← hb y y0 y1, e, full_bt h0 h1 y0 y1]
    have hl : ∀ k, 0 ≤ k → k < L → od k < L := fun k k0 k1 => Classical.byContradiction (fun z => by
      have b := hbit (od k) (ho k k0 k1).1 (ho k k0 k1).2
      rw [if_neg z, bP_pos ⟨k, k0, k1, rfl⟩] at b
      cases b)
    have hs : ∀ x, 0 ≤ x → x < L → ∃ k, 0 ≤ k ∧ k < L ∧ od k = x := fun x x0 x1 => bP_nz (by
      rw [hbit x x0 (by omega), if_pos x1]; decide)
    have ge : ∀ x : Int, 0 ≤ x → x < L.toNat → (1 : Int) ≤ sm L.toNat (fun k => bP (od k = x)) := fun x x0 x1 => by
      obtain ⟨k, k0, k1, kx⟩ := hs x x0 (by omega)
      have := sm_ge (f := fun k => bP (od k = x)) (i := k) (n := L.toNat) (fun j _ _ => (bP_b _).1) k0 (by omega)
      rw [bP_pos kx] at this
      exact this
    have ea := sm_each (f := fun _ => 1) (g := fun x => sm L.toNat (fun k => bP (od k = x))) L.toNat ge (Int.le_of_eq (tot hl))
    refine ⟨fun k k0 k1 => ⟨(ho k k0 k1).1, hl k k0 k1⟩, fun j k j0 jk k1 z => ?_⟩
    have t := sm_two (f := fun i => bP (od i = od k)) (i := j) (j := k) L.toNat (fun i _ _ => (bP_b _).1) j0 jk (by omega)
    have e1 := ea (od k) (ho k (by omega) k1).1 (by have := hl k (by omega) k1; omega)
    rw [bP_pos z, bP_pos rfl] at t
    omega
  · intro r
    have le : ∀ x : Int, 0 ≤ x → x < L.toNat → sm L.toNat (fun k => bP (od k = x)) ≤ 1 := fun x x0 x1 => by
      by_cases q : ∃ k, 0 ≤ k ∧ k < L ∧ od k = x
      · obtain ⟨k, k0, k1, kx⟩ := q
        rw [sm_one (i := k) _ k0 (by omega) (fun j j0 j1 ne => bP_neg (fun z => by
          rcases Int.lt_or_gt_of_ne ne with y | y
          · exact r.2 j k j0 y k1 (z.trans kx.symm)
          · exact r.2 k j k0 y (by omega) (kx.trans z.symm)))]
        exact (bP_b _).2
      · rw [sm_zero _ (fun k k0 k1 => bP_neg (fun z => q ⟨k, k0, by omega, z⟩))]
        decide
    have ea := sm_each (f := fun x => sm L.toNat (fun k => bP (od k = x))) (g := fun _ => 1) L.toNat le (Int.le_of_eq (tot (fun k k0 k1 => (r.1 k k0 k1).2)).symm)
    refine eq32 s0 s1 (by omega) (by omega) (fun y y0 y1 => ?_)
    rw [hb y y0 y1, full_bt h0 h1 y0 y1]
    by_cases q : y < L
    · rw [if_pos q]
      refine bP_pos (Classical.byContradiction (fun z => ?_))
      have e := ea y y0 (by omega)
      rw [sm_zero _ (fun k k0 k1 => bP_neg (fun w => z ⟨k, k0, by omega, w⟩))] at e
      cases e
    · rw [if_neg q]
      exact bP_neg (fun ⟨k, k0, k1, e⟩ => by have := (r.1 k k0 k1).2; omega)
theorem or_bit {a d : Int} (a0 : 0 ≤ a) (a1 : a < 32) (d0 : 0 ≤ d) (d1 : d < 5) : (0 ≤ ((a.toNat ||| ((2 : Int) ^ d.toNat).toNat : Nat) : Int) ∧ ((a.toNat ||| ((2 : Int) ^ d.toNat).toNat : Nat) : Int) < 32) ∧ ∀ y : Int, 0 ≤ y → y < 5 → ((a.toNat ||| ((2 : Int) ^ d.toNat).toNat : Nat) : Int) / 2 ^ y.toNat % 2 = if y = d then 1 else a / 2 ^ y.toNat % 2 := by
  have key : ∀ a : Nat, a < 32 → ∀ d : Nat, d < 5 → (((a ||| ((2 : Int) ^ d).toNat : Nat) : Int) < 32) ∧ ∀ y : Nat, y < 5 → ((a ||| ((2 : Int) ^ d).toNat : Nat) : Int) / 2 ^ y % 2 = if y = d then 1 else (a : Int) / 2 ^ y % 2 := by decide +kernel
  have k := key a.toNat (by omega) d.toNat (by omega)
  refine ⟨⟨by omega, k.1⟩, fun y y0 y1 => ?_⟩
  rw [k.2 y.toNat (by omega), Int.toNat_of_nonneg a0]
  by_cases q : y = d
  · rw [if_pos q, if_pos (by omega)]
  · rw [if_neg q, if_neg (by omega)]
theorem bits_0 {p : Int → Prop} {n : Nat} : bits n p = 0 ↔ ∀ k : Int, 0 ≤ k → k < n → ¬ p k := by
  constructor
  · intro h k k0 k1 hp
    have b := bits_at p n k.toNat (by omega)
    rw [h, Int.toNat_of_nonneg k0, bP_pos hp] at b
    simp at b
  · exact bits_none
theorem oL_none {I : Ins} {b od : Int → Int} (hL : 0 ≤ iL I) (hR : oR (iL I) od) : bits (iL I).toNat (oL I b od (iL I)) = 0 ↔ okO I b od := by
  rw [bits_0]
  constructor
  · intro h
    refine ⟨hR, fun k k0 k1 z => ?_⟩
    have r := hR.1 k k0 k1
    exact h (od k) r.1 (by omega) ⟨k, k0, k1, rfl, z⟩
  · rintro ⟨_, h⟩ x x0 x1 ⟨j, j0, j1, e, z⟩
    rw [← e] at z
    exact h j j0 j1 z
theorem ordF_s {I : Ins} {b : Int → Int} {k j : Int} (h : 0 ≤ k) (hj : j = k + 1) : ordF I b j.toNat = stepO I b (dg (iL I) k) (ordF I b k.toNat) := fl_s h hj
theorem ordF_ok {I : Ins} (hI : IB I) {b : Int → Int} (hb : RK (iW I) (iZ I) b) : ∀ n : Nat, (0 ≤ (ordF I b n).1 ∧ (ordF I b n).1 ≤ n) ∧ (-1 ≤ (ordF I b n).2.1 ∧ (ordF I b n).2.1 ≤ 900) ∧ ((ordF I b n).1 = 0 → (ordF I b n).2.1 = -1)
  | 0 => ⟨⟨Int.le_refl _, Int.le_refl _⟩, ⟨Int.le_refl (-1), by show (-1 : Int) ≤ 900; decide⟩, fun _ => rfl⟩
  | n + 1 => by
    have r := ordF_ok hI hb n
    have e : ordF I b (n + 1) = stepO I b (dg (iL I) n) (ordF I b n) := rfl
    rw [e]
    by_cases q : okO I b (dg (iL I) n)
    · have p := oP_bd hI hb q.1.1 hI.1.1 (Int.le_refl _)
      unfold stepO
      rw [itc_t q]
      refine ⟨by dsimp only; omega, ?_, fun z => by dsimp only at z; omega⟩
      dsimp only
      split <;> omega
    · unfold stepO
      rw [itc_f q]
      omega

theorem dX12_laysOrder_0 : decode cX12_laysOrder 0 = .ok (.iload_n 1, 1) := by decide +kernel
theorem dX12_laysOrder_1 : decode cX12_laysOrder 1 = .ok (.istore_n 2, 1) := by decide +kernel
theorem dX12_laysOrder_2 : decode cX12_laysOrder 2 = .ok (.iconst 0, 1) := by decide +kernel
theorem dX12_laysOrder_3 : decode cX12_laysOrder 3 = .ok (.istore_n 3, 1) := by decide +kernel
theorem dX12_laysOrder_4 : decode cX12_laysOrder 4 = .ok (.aload_n 0, 1) := by decide +kernel
theorem dX12_laysOrder_5 : decode cX12_laysOrder 5 = .ok (.getfield 105, 3) := by decide +kernel
theorem dX12_laysOrder_8 : decode cX12_laysOrder 8 = .ok (.iconst 1, 1) := by decide +kernel
theorem dX12_laysOrder_9 : decode cX12_laysOrder 9 = .ok (.isub, 1) := by decide +kernel
theorem dX12_laysOrder_10 : decode cX12_laysOrder 10 = .ok (.istore 4, 2) := by decide +kernel
theorem dX12_laysOrder_12 : decode cX12_laysOrder 12 = .ok (.iload 4, 2) := by decide +kernel
theorem dX12_laysOrder_14 : decode cX12_laysOrder 14 = .ok (.ifCond .lt 35, 3) := by decide +kernel
theorem dX12_laysOrder_17 : decode cX12_laysOrder 17 = .ok (.aload_n 0, 1) := by decide +kernel
theorem dX12_laysOrder_18 : decode cX12_laysOrder 18 = .ok (.getfield 72, 3) := by decide +kernel
theorem dX12_laysOrder_21 : decode cX12_laysOrder 21 = .ok (.iload 4, 2) := by decide +kernel
theorem dX12_laysOrder_23 : decode cX12_laysOrder 23 = .ok (.iload_n 2, 1) := by decide +kernel
theorem dX12_laysOrder_24 : decode cX12_laysOrder 24 = .ok (.iconst 5, 1) := by decide +kernel
theorem dX12_laysOrder_25 : decode cX12_laysOrder 25 = .ok (.irem, 1) := by decide +kernel
theorem dX12_laysOrder_26 : decode cX12_laysOrder 26 = .ok (.iastore, 1) := by decide +kernel
theorem dX12_laysOrder_27 : decode cX12_laysOrder 27 = .ok (.iload_n 2, 1) := by decide +kernel
theorem dX12_laysOrder_28 : decode cX12_laysOrder 28 = .ok (.iconst 5, 1) := by decide +kernel
theorem dX12_laysOrder_29 : decode cX12_laysOrder 29 = .ok (.idiv, 1) := by decide +kernel
theorem dX12_laysOrder_30 : decode cX12_laysOrder 30 = .ok (.istore_n 2, 1) := by decide +kernel
theorem dX12_laysOrder_31 : decode cX12_laysOrder 31 = .ok (.iload_n 3, 1) := by decide +kernel
theorem dX12_laysOrder_32 : decode cX12_laysOrder 32 = .ok (.iconst 1, 1) := by decide +kernel
theorem dX12_laysOrder_33 : decode cX12_laysOrder 33 = .ok (.aload_n 0, 1) := by decide +kernel
theorem dX12_laysOrder_34 : decode cX12_laysOrder 34 = .ok (.getfield 72, 3) := by decide +kernel
theorem dX12_laysOrder_37 : decode cX12_laysOrder 37 = .ok (.iload 4, 2) := by decide +kernel
theorem dX12_laysOrder_39 : decode cX12_laysOrder 39 = .ok (.iaload, 1) := by decide +kernel
theorem dX12_laysOrder_40 : decode cX12_laysOrder 40 = .ok (.ishl, 1) := by decide +kernel
theorem dX12_laysOrder_41 : decode cX12_laysOrder 41 = .ok (.ior, 1) := by decide +kernel
theorem dX12_laysOrder_42 : decode cX12_laysOrder 42 = .ok (.istore_n 3, 1) := by decide +kernel
theorem dX12_laysOrder_43 : decode cX12_laysOrder 43 = .ok (.iinc 4 (-1), 3) := by decide +kernel
theorem dX12_laysOrder_46 : decode cX12_laysOrder 46 = .ok (.goto (-34), 3) := by decide +kernel
theorem dX12_laysOrder_49 : decode cX12_laysOrder 49 = .ok (.iload_n 3, 1) := by decide +kernel
theorem dX12_laysOrder_50 : decode cX12_laysOrder 50 = .ok (.iconst 1, 1) := by decide +kernel
theorem dX12_laysOrder_51 : decode cX12_laysOrder 51 = .ok (.aload_n 0, 1) := by decide +kernel
theorem dX12_laysOrder_52 : decode cX12_laysOrder 52 = .ok (.getfield 105, 3) := by decide +kernel
theorem dX12_laysOrder_55 : decode cX12_laysOrder 55 = .ok (.ishl, 1) := by decide +kernel
theorem dX12_laysOrder_56 : decode cX12_laysOrder 56 = .ok (.iconst 1, 1) := by decide +kernel
theorem dX12_laysOrder_57 : decode cX12_laysOrder 57 = .ok (.isub, 1) := by decide +kernel
theorem dX12_laysOrder_58 : decode cX12_laysOrder 58 = .ok (.if_icmp .ne 7, 3) := by decide +kernel
theorem dX12_laysOrder_61 : decode cX12_laysOrder 61 = .ok (.iconst 1, 1) := by decide +kernel
theorem dX12_laysOrder_62 : decode cX12_laysOrder 62 = .ok (.goto 4, 3) := by decide +kernel
theorem dX12_laysOrder_65 : decode cX12_laysOrder 65 = .ok (.iconst 0, 1) := by decide +kernel
theorem dX12_laysOrder_66 : decode cX12_laysOrder 66 = .ok (.ireturn, 1) := by decide +kernel
set_option maxHeartbeats 400000 in
theorem c12_laysOrder {G : Gl} {l : Launch}  {M : Mem} {c : Int → Int} {q : Int} (hG : GR M) (hK : RW M 0 c) (hS : SP c) (hq0 : 0 ≤ q) (hq1 : q ≤ 3125) : Ct G LY 82 l 0 m12_laysOrder [vR 57, vI q] M (RP (fun v M' => Fr [77] [] M M' ∧ (∀ k, 0 ≤ k → k < c 121 → M' 77 k = dg (c 121) q k) ∧ v = bP (oR (c 121) (dg (c 121) q)))) := by
  refine R_start (by decide +kernel) (Nat.le_of_ble_eq_true rfl) (fun C hC hRm hlau => ?_)
  show RZ G LY C (Zn G LY 82 C (RP (fun v M' => Fr [77] [] M M' ∧ (∀ k, 0 ≤ k → k < c 121 → M' 77 k = dg (c 121) q k) ∧ v = bP (oR (c 121) (dg (c 121) q))))) 0 0 82 0 [some (vR 57), some (vI q), none, none, none] [] M
  have hM := hS.m
  have hI := hM.I
  have hL := hM.1.1
  have hW := hM.1.2
  refine R_iload_1 hC dX12_laysOrder_0 ?_
  refine R_istore_2 hC dX12_laysOrder_1 rfl ?_
  refine R_iconst hC dX12_laysOrder_2 ⟨by decide, by decide⟩ ?_
  refine R_istore_3 hC dX12_laysOrder_3 rfl ?_
  refine R_aload_0 hC dX12_laysOrder_4 ?_
  refine R_getIE hC dX12_laysOrder_5 fl_12_105 (by decide) rfl (by decide) (by decide) (fi := 5) rfl hK.l ?_
  refine R_iconst hC dX12_laysOrder_8 ⟨by decide, by decide⟩ ?_
  refine R_isub hC dX12_laysOrder_9 ⟨by omega, by omega⟩ ?_
  refine R_istore_4 hC dX12_laysOrder_10 rfl ?_
  have L12 : ∀ (mq : Nat) (a : Int) (s : Int) (k : Int) (M1 : Mem), (-1 ≤ k) → (k < c 121) → (GR M1) → (RW M1 0 c) → (Fr [77] [] M M1) → (a = q / 5 ^ (c 121 - 1 - k).toNat) → (0 ≤ a) → (a ≤ 3125) → (0 ≤ s) → (s < 32) → (∀ y : Int, 0 ≤ y → y < 5 → s / 2 ^ y.toNat % 2 = bP (∃ j, k < j ∧ j < c 121 ∧ dg (c 121) q j = y)) → (∀ j, k < j → j < c 121 → M1 77 j = dg (c 121) q j) → (k + 1).toNat < mq → RZ G LY C (Zn G LY 82 C (RP (fun v M' => Fr [77] [] M M' ∧ (∀ k, 0 ≤ k → k < c 121 → M' 77 k = dg (c 121) q k) ∧ v = bP (oR (c 121) (dg (c 121) q))))) 0 0 82 12 [some (vR 57), some (vI q), some (vI a), some (vI s), some (vI k)] [] M1 := by
    intro mq
    induction mq with
    | zero =>
      intro a s k M1 hk0 hkL hg hk1 hF ha ha0 ha1 hs0 hs1 hsb h77 hm
      exact absurd hm (Nat.not_lt_zero _)
    | succ mq ih12 =>
      intro a s k M1 hk0 hkL hg hk1 hF ha ha0 ha1 hs0 hs1 hsb h77 hm12
      refine R_iload_4 hC dX12_laysOrder_12 ?_
      refine R_if_lt hC dX12_laysOrder_14 (tgt := 49) (by decide) (fun hb14 => ?_) (fun hb14 => ?_)
      · skip
        refine R_iload_3 hC dX12_laysOrder_49 ?_
        refine R_iconst hC dX12_laysOrder_50 ⟨by decide, by decide⟩ ?_
        refine R_aload_0 hC dX12_laysOrder_51 ?_
        refine R_getIE hC dX12_laysOrder_52 fl_12_105 (by decide) rfl (by decide) (by decide) (fi := 5) rfl hk1.l ?_
        refine R_shl1 hC dX12_laysOrder_55 (by omega) (by omega) ?_
        refine R_iconst hC dX12_laysOrder_56 ⟨by decide, by decide⟩ ?_
        refine R_isub hC dX12_laysOrder_57 (⟨by have := pw_le6 hL.1 hL.2; omega, by have := pw_le6 hL.1 hL.2; omega⟩) ?_
        have hpm := perm_iff (L := c 121) (od := dg (c 121) q) hL.1 hL.2 (fun j a b => by unfold dg; omega) hs0 hs1 (fun y y0 y1 => (hsb y y0 y1).trans (bP_iff ⟨fun ⟨j, a, b, z⟩ => ⟨j, by omega, b, z⟩, fun ⟨j, a, b, z⟩ => ⟨j, by omega, b, z⟩⟩))
        have hpw := pw_le6 hL.1 hL.2
        refine R_icmp_ne hC dX12_laysOrder_58 (tgt := 65) (by decide) (fun hb58 => ?_) (fun hb58 => ?_)
        · skip
          refine R_iconst hC dX12_laysOrder_65 ⟨by decide, by decide⟩ ?_
          exact R_zreturn hC dX12_laysOrder_66 rfl (.inl rfl) (ret_P ⟨hF, fun j a b => h77 j (by omega) b, by first | exact (bP_pos (hpm.mp hb58)).symm | exact (bP_neg (fun z => hb58 (hpm.mpr z))).symm⟩)
        · skip
          refine R_iconst hC dX12_laysOrder_61 ⟨by decide, by decide⟩ ?_
          refine R_goto hC dX12_laysOrder_62 (tgt := 66) (by decide) ?_
          exact R_zreturn hC dX12_laysOrder_66 rfl (.inr rfl) (ret_P ⟨hF, fun j a b => h77 j (by omega) b, by first | exact (bP_pos (hpm.mp hb58)).symm | exact (bP_neg (fun z => hb58 (hpm.mpr z))).symm⟩)
      · skip
        refine R_aload_0 hC dX12_laysOrder_17 ?_
        refine R_getR hC dX12_laysOrder_18 fl_12_72 (by decide) rfl (by decide) (by decide) (fi := 45) rfl (r := 77) (gr_57_45 hg) ?_
        refine R_iload_4 hC dX12_laysOrder_21 ?_
        refine R_iload_2 hC dX12_laysOrder_23 ?_
        refine R_iconst hC dX12_laysOrder_24 ⟨by decide, by decide⟩ ?_
        refine R_irem hC dX12_laysOrder_25 (by omega) (by omega) ?_
        have hdk : a % 5 = dg (c 121) q k := by (unfold dg; rw [ha])
        have bm : 0 ≤ a % 5 ∧ a % 5 < 5 := by omega
        refine R_iastore hC dX12_laysOrder_26 (by decide) rfl (by omega) (by omega) ?_
        refine R_iload_2 hC dX12_laysOrder_27 ?_
        refine R_iconst hC dX12_laysOrder_28 ⟨by decide, by decide⟩ ?_
        refine R_idiv hC dX12_laysOrder_29 (by omega) (by omega) ?_
        refine R_istore_2 hC dX12_laysOrder_30 rfl ?_
        refine R_iload_3 hC dX12_laysOrder_31 ?_
        refine R_iconst hC dX12_laysOrder_32 ⟨by decide, by decide⟩ ?_
        refine R_aload_0 hC dX12_laysOrder_33 ?_
        have hG1 : GR (uM M1 77 k (a % 5)) := (GR.uA hg (by decide +kernel) (.inl (by decide)))
        refine R_getR hC dX12_laysOrder_34 fl_12_72 (by decide) rfl (by decide) (by decide) (fi := 45) rfl (r := 77) (gr_57_45 hG1) ?_
        refine R_iload_4 hC dX12_laysOrder_37 ?_
        refine R_ialoadE hC dX12_laysOrder_39 (by decide) rfl (by omega) (by omega) uM_same ?_
        refine R_shl1 hC dX12_laysOrder_40 (by omega) (by omega) ?_
        have hor := or_bit hs0 hs1 bm.1 bm.2
        have bpw := pw_bd bm.1 (show a % 5 < 10 by omega)
        have hsbN : ∀ y : Int, 0 ≤ y → y < 5 → (((s.toNat ||| ((2 : Int) ^ (a % 5).toNat).toNat : Nat) : Int)) / 2 ^ y.toNat % 2 = bP (∃ j, (k + -1) < j ∧ j < c 121 ∧ dg (c 121) q j = y) := fun y y0 y1 => by
          rw [hor.2 y y0 y1]
          by_cases e : y = a % 5
          · rw [if_pos e]
            exact (bP_pos ⟨k, by omega, by omega, by rw [e, hdk]⟩).symm
          · rw [if_neg e, hsb y y0 y1]
            refine bP_iff ⟨fun ⟨j, p, r, z⟩ => ⟨j, by omega, r, z⟩, fun ⟨j, p, r, z⟩ => ?_⟩
            by_cases w : j = k
            · rw [w, ← hdk] at z
              exact absurd z.symm e
            · exact ⟨j, by omega, r, z⟩
        refine R_ior hC dX12_laysOrder_41 (by omega) (by omega) ?_
        refine R_istore_3 hC dX12_laysOrder_42 rfl ?_
        refine R_iinc_4 hC dX12_laysOrder_43 rfl ⟨by omega, by omega⟩ ?_
        refine R_goto hC dX12_laysOrder_46 (tgt := 12) (by decide) ?_
        have hk2 : RW (uM M1 77 k (a % 5)) 0 c := (RW.u hk1 (by decide))
        exact ih12 _ _ _ _ (by omega) (by omega) hG1 hk2 (Fr.uA hF (by decide)) (by (rw [ha, div5 hq0, show (c 121 - 1 - (k + -1)).toNat = (c 121 - 1 - k).toNat + 1 by omega])) (by omega) (by omega) hor.1.1 hor.1.2 hsbN (fun j a b => by
          by_cases e : j = k
          · rw [e, uM_same]; exact hdk
          · exact (uM_k e).trans (h77 j (by omega) b)) (by omega)
  exact L12 _ _ _ _ _ (by omega) (by omega) hG hK Fr.rf (by (rw [show c 121 - 1 - (c 121 - 1) = 0 by omega]; simp)) (by omega) (by omega) (by omega) (by omega) (fun y y0 y1 => by (rw [bP_neg (fun ⟨j, a, b, _⟩ => by omega)]; simp)) (fun j a b => by omega) (Nat.lt_succ_self _)
theorem dX12_laysOrders_0 : decode cX12_laysOrders 0 = .ok (.aload_n 0, 1) := by decide +kernel
theorem dX12_laysOrders_1 : decode cX12_laysOrders 1 = .ok (.iconst 0, 1) := by decide +kernel
theorem dX12_laysOrders_2 : decode cX12_laysOrders 2 = .ok (.putfield 323, 3) := by decide +kernel
theorem dX12_laysOrders_5 : decode cX12_laysOrders 5 = .ok (.aload_n 0, 1) := by decide +kernel
theorem dX12_laysOrders_6 : decode cX12_laysOrders 6 = .ok (.iconst (-1), 1) := by decide +kernel
theorem dX12_laysOrders_7 : decode cX12_laysOrders 7 = .ok (.putfield 326, 3) := by decide +kernel
theorem dX12_laysOrders_10 : decode cX12_laysOrders 10 = .ok (.iconst 1, 1) := by decide +kernel
theorem dX12_laysOrders_11 : decode cX12_laysOrders 11 = .ok (.istore_n 1, 1) := by decide +kernel
theorem dX12_laysOrders_12 : decode cX12_laysOrders 12 = .ok (.iconst 0, 1) := by decide +kernel
theorem dX12_laysOrders_13 : decode cX12_laysOrders 13 = .ok (.istore_n 2, 1) := by decide +kernel
theorem dX12_laysOrders_14 : decode cX12_laysOrders 14 = .ok (.iload_n 2, 1) := by decide +kernel
theorem dX12_laysOrders_15 : decode cX12_laysOrders 15 = .ok (.aload_n 0, 1) := by decide +kernel
theorem dX12_laysOrders_16 : decode cX12_laysOrders 16 = .ok (.getfield 105, 3) := by decide +kernel
theorem dX12_laysOrders_19 : decode cX12_laysOrders 19 = .ok (.if_icmp .ge 13, 3) := by decide +kernel
theorem dX12_laysOrders_22 : decode cX12_laysOrders 22 = .ok (.iload_n 1, 1) := by decide +kernel
theorem dX12_laysOrders_23 : decode cX12_laysOrders 23 = .ok (.iconst 5, 1) := by decide +kernel
theorem dX12_laysOrders_24 : decode cX12_laysOrders 24 = .ok (.imul, 1) := by decide +kernel
theorem dX12_laysOrders_25 : decode cX12_laysOrders 25 = .ok (.istore_n 1, 1) := by decide +kernel
theorem dX12_laysOrders_26 : decode cX12_laysOrders 26 = .ok (.iinc 2 1, 3) := by decide +kernel
theorem dX12_laysOrders_29 : decode cX12_laysOrders 29 = .ok (.goto (-15), 3) := by decide +kernel
theorem dX12_laysOrders_32 : decode cX12_laysOrders 32 = .ok (.iconst 0, 1) := by decide +kernel
theorem dX12_laysOrders_33 : decode cX12_laysOrders 33 = .ok (.istore_n 2, 1) := by decide +kernel
theorem dX12_laysOrders_34 : decode cX12_laysOrders 34 = .ok (.iload_n 2, 1) := by decide +kernel
theorem dX12_laysOrders_35 : decode cX12_laysOrders 35 = .ok (.iload_n 1, 1) := by decide +kernel
theorem dX12_laysOrders_36 : decode cX12_laysOrders 36 = .ok (.if_icmp .ge 93, 3) := by decide +kernel
theorem dX12_laysOrders_39 : decode cX12_laysOrders 39 = .ok (.aload_n 0, 1) := by decide +kernel
theorem dX12_laysOrders_40 : decode cX12_laysOrders 40 = .ok (.iload_n 2, 1) := by decide +kernel
theorem dX12_laysOrders_41 : decode cX12_laysOrders 41 = .ok (.invokevirtual 329, 3) := by decide +kernel
theorem dX12_laysOrders_44 : decode cX12_laysOrders 44 = .ok (.ifCond .ne 6, 3) := by decide +kernel
theorem dX12_laysOrders_47 : decode cX12_laysOrders 47 = .ok (.goto 76, 3) := by decide +kernel
theorem dX12_laysOrders_50 : decode cX12_laysOrders 50 = .ok (.aload_n 0, 1) := by decide +kernel
theorem dX12_laysOrders_51 : decode cX12_laysOrders 51 = .ok (.invokevirtual 320, 3) := by decide +kernel
theorem dX12_laysOrders_54 : decode cX12_laysOrders 54 = .ok (.istore_n 3, 1) := by decide +kernel
theorem dX12_laysOrders_55 : decode cX12_laysOrders 55 = .ok (.aload_n 0, 1) := by decide +kernel
theorem dX12_laysOrders_56 : decode cX12_laysOrders 56 = .ok (.getfield 314, 3) := by decide +kernel
theorem dX12_laysOrders_59 : decode cX12_laysOrders 59 = .ok (.ifCond .eq 6, 3) := by decide +kernel
theorem dX12_laysOrders_62 : decode cX12_laysOrders 62 = .ok (.goto 61, 3) := by decide +kernel
theorem dX12_laysOrders_65 : decode cX12_laysOrders 65 = .ok (.aload_n 0, 1) := by decide +kernel
theorem dX12_laysOrders_66 : decode cX12_laysOrders 66 = .ok (.dup, 1) := by decide +kernel
theorem dX12_laysOrders_67 : decode cX12_laysOrders 67 = .ok (.getfield 323, 3) := by decide +kernel
theorem dX12_laysOrders_70 : decode cX12_laysOrders 70 = .ok (.iconst 1, 1) := by decide +kernel
theorem dX12_laysOrders_71 : decode cX12_laysOrders 71 = .ok (.iadd, 1) := by decide +kernel
theorem dX12_laysOrders_72 : decode cX12_laysOrders 72 = .ok (.putfield 323, 3) := by decide +kernel
theorem dX12_laysOrders_75 : decode cX12_laysOrders 75 = .ok (.iload_n 3, 1) := by decide +kernel
theorem dX12_laysOrders_76 : decode cX12_laysOrders 76 = .ok (.aload_n 0, 1) := by decide +kernel
theorem dX12_laysOrders_77 : decode cX12_laysOrders 77 = .ok (.getfield 326, 3) := by decide +kernel
theorem dX12_laysOrders_80 : decode cX12_laysOrders 80 = .ok (.if_icmp .gt 6, 3) := by decide +kernel
theorem dX12_laysOrders_83 : decode cX12_laysOrders 83 = .ok (.goto 40, 3) := by decide +kernel
theorem dX12_laysOrders_86 : decode cX12_laysOrders 86 = .ok (.aload_n 0, 1) := by decide +kernel
theorem dX12_laysOrders_87 : decode cX12_laysOrders 87 = .ok (.iload_n 3, 1) := by decide +kernel
theorem dX12_laysOrders_88 : decode cX12_laysOrders 88 = .ok (.putfield 326, 3) := by decide +kernel
theorem dX12_laysOrders_91 : decode cX12_laysOrders 91 = .ok (.iconst 0, 1) := by decide +kernel
theorem dX12_laysOrders_92 : decode cX12_laysOrders 92 = .ok (.istore 4, 2) := by decide +kernel
theorem dX12_laysOrders_94 : decode cX12_laysOrders 94 = .ok (.iload 4, 2) := by decide +kernel
theorem dX12_laysOrders_96 : decode cX12_laysOrders 96 = .ok (.aload_n 0, 1) := by decide +kernel
theorem dX12_laysOrders_97 : decode cX12_laysOrders 97 = .ok (.getfield 105, 3) := by decide +kernel
theorem dX12_laysOrders_100 : decode cX12_laysOrders 100 = .ok (.if_icmp .ge 23, 3) := by decide +kernel
theorem dX12_laysOrders_103 : decode cX12_laysOrders 103 = .ok (.aload_n 0, 1) := by decide +kernel
theorem dX12_laysOrders_104 : decode cX12_laysOrders 104 = .ok (.getfield 75, 3) := by decide +kernel
theorem dX12_laysOrders_107 : decode cX12_laysOrders 107 = .ok (.iload 4, 2) := by decide +kernel
theorem dX12_laysOrders_109 : decode cX12_laysOrders 109 = .ok (.aload_n 0, 1) := by decide +kernel
theorem dX12_laysOrders_110 : decode cX12_laysOrders 110 = .ok (.getfield 72, 3) := by decide +kernel
theorem dX12_laysOrders_113 : decode cX12_laysOrders 113 = .ok (.iload 4, 2) := by decide +kernel
theorem dX12_laysOrders_115 : decode cX12_laysOrders 115 = .ok (.iaload, 1) := by decide +kernel
theorem dX12_laysOrders_116 : decode cX12_laysOrders 116 = .ok (.iastore, 1) := by decide +kernel
theorem dX12_laysOrders_117 : decode cX12_laysOrders 117 = .ok (.iinc 4 1, 3) := by decide +kernel
theorem dX12_laysOrders_120 : decode cX12_laysOrders 120 = .ok (.goto (-26), 3) := by decide +kernel
theorem dX12_laysOrders_123 : decode cX12_laysOrders 123 = .ok (.iinc 2 1, 3) := by decide +kernel
theorem dX12_laysOrders_126 : decode cX12_laysOrders 126 = .ok (.goto (-92), 3) := by decide +kernel
theorem dX12_laysOrders_129 : decode cX12_laysOrders 129 = .ok (.return_, 1) := by decide +kernel
set_option maxHeartbeats 2000000 in
theorem c12_laysOrders {G : Gl} {l : Launch}  {M : Mem} {c : Int → Int} {b : Int → Int} (hG : GR M) (hK : RW M 0 c) (hS : SP c) (hb : RK (c 122) (fun w => c (10 + w)) b) : Ct G LY 82 l 6 m12_laysOrders [vR 57] M (RV (fun M' => Fr [63, 64, 65, 66, 77, 78] [(57, 47), (57, 48), (57, 49)] M M' ∧ M' 57 48 = (ordF (insOf c) b ((5 : Int) ^ (c 121).toNat).toNat).1 ∧ M' 57 49 = (ordF (insOf c) b ((5 : Int) ^ (c 121).toNat).toNat).2.1 ∧ (0 < (ordF (insOf c) b ((5 : Int) ^ (c 121).toNat).toNat).1 → ∀ j, 0 ≤ j → j < c 121 → M' 78 j = (ordF (insOf c) b ((5 : Int) ^ (c 121).toNat).toNat).2.2 j))) := by
  refine R_start (by decide +kernel) (Nat.le_of_ble_eq_true rfl) (fun C hC hRm hlau => ?_)
  show RZ G LY C (Zn G LY 82 C (RV (fun M' => Fr [63, 64, 65, 66, 77, 78] [(57, 47), (57, 48), (57, 49)] M M' ∧ M' 57 48 = (ordF (insOf c) b ((5 : Int) ^ (c 121).toNat).toNat).1 ∧ M' 57 49 = (ordF (insOf c) b ((5 : Int) ^ (c 121).toNat).toNat).2.1 ∧ (0 < (ordF (insOf c) b ((5 : Int) ^ (c 121).toNat).toNat).1 → ∀ j, 0 ≤ j → j < c 121 → M' 78 j = (ordF (insOf c) b ((5 : Int) ^ (c 121).toNat).toNat).2.2 j)))) 0 0 82 0 [some (vR 57), none, none, none, none] [] M
  have hM := hS.m
  have hI := hM.I
  have hL := hM.1.1
  have hW := hM.1.2
  have hbI : RK (iW (insOf c)) (iZ (insOf c)) b := hb
  have h5 : ∀ n : Nat, n ≤ 5 → (1 : Int) ≤ 5 ^ n ∧ (5 : Int) ^ n ≤ 3125 := by decide
  refine R_aload_0 hC dX12_laysOrders_0 ?_
  refine R_iconst hC dX12_laysOrders_1 ⟨by decide, by decide⟩ ?_
  refine R_putI hC dX12_laysOrders_2 fl_12_323 (by decide) rfl (by decide) (by decide) (fi := 48) rfl ?_
  refine R_aload_0 hC dX12_laysOrders_5 ?_
  refine R_iconst hC dX12_laysOrders_6 ⟨by decide, by decide⟩ ?_
  refine R_putI hC dX12_laysOrders_7 fl_12_326 (by decide) rfl (by decide) (by decide) (fi := 49) rfl ?_
  refine R_iconst hC dX12_laysOrders_10 ⟨by decide, by decide⟩ ?_
  refine R_istore_1 hC dX12_laysOrders_11 rfl ?_
  refine R_iconst hC dX12_laysOrders_12 ⟨by decide, by decide⟩ ?_
  refine R_istore_2 hC dX12_laysOrders_13 rfl ?_
  have L14 : ∀ (mq : Nat) (i : Int) (M1 : Mem), (0 ≤ i) → (i ≤ c 121) → (GR M1) → (RW M1 0 c) → (Fr [63, 64, 65, 66, 77, 78] [(57, 47), (57, 48), (57, 49)] M M1) → (M1 57 48 = 0) → (M1 57 49 = -1) → (c 121 - i).toNat < mq → RZ G LY C (Zn G LY 82 C (RV (fun M' => Fr [63, 64, 65, 66, 77, 78] [(57, 47), (57, 48), (57, 49)] M M' ∧ M' 57 48 = (ordF (insOf c) b ((5 : Int) ^ (c 121).toNat).toNat).1 ∧ M' 57 49 = (ordF (insOf c) b ((5 : Int) ^ (c 121).toNat).toNat).2.1 ∧ (0 < (ordF (insOf c) b ((5 : Int) ^ (c 121).toNat).toNat).1 → ∀ j, 0 ≤ j → j < c 121 → M' 78 j = (ordF (insOf c) b ((5 : Int) ^ (c 121).toNat).toNat).2.2 j)))) 0 0 82 14 [some (vR 57), some (vI ((5 : Int) ^ i.toNat)), some (vI i), none, none] [] M1 := by
    intro mq
    induction mq with
    | zero =>
      intro i M1 hi0 hi1 hg hk1 hF h48 h49 hm
      exact absurd hm (Nat.not_lt_zero _)
    | succ mq ih14 =>
      intro i M1 hi0 hi1 hg hk1 hF h48 h49 hm14
      have b5 := h5 i.toNat (by omega)
      refine R_iload_2 hC dX12_laysOrders_14 ?_
      refine R_aload_0 hC dX12_laysOrders_15 ?_
      refine R_getIE hC dX12_laysOrders_16 fl_12_105 (by decide) rfl (by decide) (by decide) (fi := 5) rfl hk1.l ?_
      refine R_icmp_ge hC dX12_laysOrders_19 (tgt := 32) (by decide) (fun hb19 => ?_) (fun hb19 => ?_)
      · skip
        refine R_iconst hC dX12_laysOrders_32 ⟨by decide, by decide⟩ ?_
        refine R_istore_2 hC dX12_laysOrders_33 rfl ?_
        have L34 : ∀ (mq : Nat) (k : Int) (M2 : Mem), (0 ≤ k) → (k ≤ (5 : Int) ^ (c 121).toNat) → (GR M2) → (RW M2 0 c) → (Fr [63, 64, 65, 66, 77, 78] [(57, 47), (57, 48), (57, 49)] M M2) → (M2 57 48 = (ordF (insOf c) b (k).toNat).1 ∧ M2 57 49 = (ordF (insOf c) b (k).toNat).2.1 ∧ (0 < (ordF (insOf c) b (k).toNat).1 → ∀ j, 0 ≤ j → j < c 121 → M2 78 j = (ordF (insOf c) b (k).toNat).2.2 j)) → ((5 : Int) ^ (c 121).toNat - k).toNat < mq → RZ G LY C (Zn G LY 82 C (RV (fun M' => Fr [63, 64, 65, 66, 77, 78] [(57, 47), (57, 48), (57, 49)] M M' ∧ M' 57 48 = (ordF (insOf c) b ((5 : Int) ^ (c 121).toNat).toNat).1 ∧ M' 57 49 = (ordF (insOf c) b ((5 : Int) ^ (c 121).toNat).toNat).2.1 ∧ (0 < (ordF (insOf c) b ((5 : Int) ^ (c 121).toNat).toNat).1 → ∀ j, 0 ≤ j → j < c 121 → M' 78 j = (ordF (insOf c) b ((5 : Int) ^ (c 121).toNat).toNat).2.2 j)))) 0 0 82 34 [some (vR 57), some (vI ((5 : Int) ^ (c 121).toNat)), some (vI k), none, none] [] M2 := by
          intro mq
          induction mq with
          | zero =>
            intro k M2 hk0 hkL hg2 hk2 hF2 hAE hm
            exact absurd hm (Nat.not_lt_zero _)
          | succ mq ih34 =>
            intro k M2 hk0 hkL hg2 hk2 hF2 hAE hm34
            have b5 := h5 (c 121).toNat (by omega)
            have bo := ordF_ok hI hbI k.toNat
            have s9 := stepO_AE (od := dg (c 121) k) (od' := dg (c 121) k) hI hbI (fun _ _ _ => rfl) ⟨rfl, rfl, fun _ _ _ _ => rfl, bo.1.1, bo.2.2⟩
            refine R_iload_2 hC dX12_laysOrders_34 ?_
            refine R_iload_1 hC dX12_laysOrders_35 ?_
            refine R_icmp_ge hC dX12_laysOrders_36 (tgt := 129) (by decide) (fun hb36 => ?_) (fun hb36 => ?_)
            · skip
              exact R_return hC dX12_laysOrders_129 rfl (ret_V ⟨hF2, by (rw [show k = (5 : Int) ^ (c 121).toNat by omega] at hAE; exact hAE)⟩)
            · skip
              refine R_aload_0 hC dX12_laysOrders_39 ?_
              refine R_iload_2 hC dX12_laysOrders_40 ?_
              refine R_callVp (as := [vI _]) hC dX12_laysOrders_41 mo_12_laysOrder ml_12_329 (by decide) rfl rfl (c12_laysOrder  hg2 hk2 hS (by omega) (by omega)) rfl rfl hRm (by decide) (by decide) (Nat.le_of_ble_eq_true rfl) (fun v3 Mc1 hq2 => ?_)
              have hFa : Fr [63, 64, 65, 66, 77, 78] [(57, 47), (57, 48), (57, 49)] M Mc1 := Fr.tt hF2 (hq2.1.mo (by simp) (by simp))
              have hpa := hq2.2.2
              have h48a : Mc1 57 48 = (ordF (insOf c) b (k).toNat).1 := (hq2.1 57 48 (by decide) (by decide)).trans hAE.1
              have h49a : Mc1 57 49 = (ordF (insOf c) b (k).toNat).2.1 := (hq2.1 57 49 (by decide) (by decide)).trans hAE.2.1
              have h78a : ∀ j, Mc1 78 j = M2 78 j := fun j => hq2.1.at (by decide)
              refine R_if_ne hC dX12_laysOrders_44 (tgt := 50) (by decide) (fun hb44 => ?_) (fun hb44 => ?_)
              · skip
                have hperm : oR (c 121) (dg (c 121) k) := bP_nz (fun z => hb44 (hpa.trans z))
                refine R_aload_0 hC dX12_laysOrders_50 ?_
                have hG4 : GR Mc1 := (GR.fr hg2 hq2.1 (by decide +kernel))
                have hk5 : RW Mc1 0 c := (RW.fr hk2 hq2.1 (by decide +kernel))
                refine R_callVp (as := []) hC dX12_laysOrders_51 mo_12_inOrder ml_12_320 (by decide) rfl rfl (c12_inOrder (od := (dg (c 121) k)) (b := b) hG4 hk5 hS hb hq2.2.1 hperm) rfl rfl hRm (by decide) (by decide) (Nat.le_of_ble_eq_true rfl) (fun v8 Mc6 hq7 => ?_)
                have hFb : Fr [63, 64, 65, 66, 77, 78] [(57, 47), (57, 48), (57, 49)] M Mc6 := Fr.tt hFa (hq7.1.mo (by simp) (by simp))
                have h48b : Mc6 57 48 = (ordF (insOf c) b (k).toNat).1 := (hq7.1 57 48 (by decide) (by decide)).trans h48a
                have h49b : Mc6 57 49 = (ordF (insOf c) b (k).toNat).2.1 := (hq7.1 57 49 (by decide) (by decide)).trans h49a
                have h78b : ∀ j, Mc6 78 j = M2 78 j := fun j => (congrFun (hq7.1.row (by decide) (by decide)) j).trans (h78a j)
                have h77b : ∀ i, 0 ≤ i → i < c 121 → Mc6 77 i = dg (c 121) k i := fun i a b => (congrFun (hq7.1.row (by decide) (by decide)) i).trans (hq2.2.1 i a b)
                have hsp9 := hq7.2.1
                have hlk9 := hq7.2.2
                have hn9 := oL_none (I := insOf c) (b := b) (od := dg (c 121) k) hL.1 hperm
                have bsp9 := oP_bd (od := dg (c 121) k) hI hbI hperm.1 hL.1 (Int.le_refl _)
                refine R_istore_3 hC dX12_laysOrders_54 rfl ?_
                refine R_aload_0 hC dX12_laysOrders_55 ?_
                refine R_getI hC dX12_laysOrders_56 fl_12_314 (by decide) rfl (by decide) (by decide) (fi := 47) rfl ?_
                refine R_if_eq hC dX12_laysOrders_59 (tgt := 65) (by decide) (fun hb59 => ?_) (fun hb59 => ?_)
                · skip
                  have hok9 : okO (insOf c) b (dg (c 121) k) := hn9.mp (hlk9.symm.trans hb59)
                  refine R_aload_0 hC dX12_laysOrders_65 ?_
                  refine R_dup hC dX12_laysOrders_66 rfl ?_
                  refine R_getIE hC dX12_laysOrders_67 fl_12_323 (by decide) rfl (by decide) (by decide) (fi := 48) rfl h48b ?_
                  refine R_iconst hC dX12_laysOrders_70 ⟨by decide, by decide⟩ ?_
                  refine R_iadd hC dX12_laysOrders_71 ⟨by omega, by omega⟩ ?_
                  refine R_putI hC dX12_laysOrders_72 fl_12_323 (by decide) rfl (by decide) (by decide) (fi := 48) rfl ?_
                  refine R_iload_3 hC dX12_laysOrders_75 ?_
                  refine R_aload_0 hC dX12_laysOrders_76 ?_
                  refine R_getIE hC dX12_laysOrders_77 fl_12_326 (by decide) rfl (by decide) (by decide) (fi := 49) rfl ((uM_k (by decide)).trans h49b) ?_
                  refine R_icmp_gt hC dX12_laysOrders_80 (tgt := 86) (by decide) (fun hb80 => ?_) (fun hb80 => ?_)
                  · skip
                    have hgt9 : (ordF (insOf c) b k.toNat).2.1 < oP (insOf c) b (dg (c 121) k) (c 121).toNat := by (rw [← hsp9]; omega)
                    refine R_aload_0 hC dX12_laysOrders_86 ?_
                    refine R_iload_3 hC dX12_laysOrders_87 ?_
                    refine R_putI hC dX12_laysOrders_88 fl_12_326 (by decide) rfl (by decide) (by decide) (fi := 49) rfl ?_
                    refine R_iconst hC dX12_laysOrders_91 ⟨by decide, by decide⟩ ?_
                    refine R_istore_4 hC dX12_laysOrders_92 rfl ?_
                    have L94 : ∀ (mq : Nat) (j : Int) (M3 : Mem), (0 ≤ j) → (j ≤ c 121) → (GR M3) → (RW M3 0 c) → (Fr [63, 64, 65, 66, 77, 78] [(57, 47), (57, 48), (57, 49)] M M3) → (M3 57 48 = (ordF (insOf c) b (k).toNat).1 + 1) → (M3 57 49 = oP (insOf c) b (dg (c 121) k) (c 121).toNat) → (∀ i, 0 ≤ i → i < j → M3 78 i = dg (c 121) k i) → (∀ i, 0 ≤ i → i < c 121 → M3 77 i = dg (c 121) k i) → (c 121 - j).toNat < mq → RZ G LY C (Zn G LY 82 C (RV (fun M' => Fr [63, 64, 65, 66, 77, 78] [(57, 47), (57, 48), (57, 49)] M M' ∧ M' 57 48 = (ordF (insOf c) b ((5 : Int) ^ (c 121).toNat).toNat).1 ∧ M' 57 49 = (ordF (insOf c) b ((5 : Int) ^ (c 121).toNat).toNat).2.1 ∧ (0 < (ordF (insOf c) b ((5 : Int) ^ (c 121).toNat).toNat).1 → ∀ j, 0 ≤ j → j < c 121 → M' 78 j = (ordF (insOf c) b ((5 : Int) ^ (c 121).toNat).toNat).2.2 j)))) 0 0 82 94 [some (vR 57), some (vI ((5 : Int) ^ (c 121).toNat)), some (vI k), some (vI v8), some (vI j)] [] M3 := by
                      intro mq
                      induction mq with
                      | zero =>
                        intro j M3 hj0 hj1 hg3 hk3 hF3 h483 h493 h783 h773 hm
                        exact absurd hm (Nat.not_lt_zero _)
                      | succ mq ih94 =>
                        intro j M3 hj0 hj1 hg3 hk3 hF3 h483 h493 h783 h773 hm94
                        refine R_iload_4 hC dX12_laysOrders_94 ?_
                        refine R_aload_0 hC dX12_laysOrders_96 ?_
                        refine R_getIE hC dX12_laysOrders_97 fl_12_105 (by decide) rfl (by decide) (by decide) (fi := 5) rfl hk3.l ?_
                        refine R_icmp_ge hC dX12_laysOrders_100 (tgt := 123) (by decide) (fun hb100 => ?_) (fun hb100 => ?_)
                        · skip
                          have hFN := hF3
                          have hAEN : M3 57 48 = (ordF (insOf c) b (k + 1).toNat).1 ∧ M3 57 49 = (ordF (insOf c) b (k + 1).toNat).2.1 ∧ (0 < (ordF (insOf c) b (k + 1).toNat).1 → ∀ j, 0 ≤ j → j < c 121 → M3 78 j = (ordF (insOf c) b (k + 1).toNat).2.2 j) := by
                            rw [ordF_s hk0 rfl]
                            unfold stepO
                            rw [itc_t (show okO (insOf c) b (dg (iL (insOf c)) k) from hok9), if_pos (show (ordF (insOf c) b k.toNat).2.1 < oP (insOf c) b (dg (iL (insOf c)) k) (iL (insOf c)).toNat from hgt9), if_pos (show (ordF (insOf c) b k.toNat).2.1 < oP (insOf c) b (dg (iL (insOf c)) k) (iL (insOf c)).toNat from hgt9)]
                            exact ⟨h483, h493, fun z i p r => h783 i p (by omega)⟩
                          refine R_iinc_2 hC dX12_laysOrders_123 rfl ⟨by omega, by omega⟩ ?_
                          refine R_goto hC dX12_laysOrders_126 (tgt := 34) (by decide) ?_
                          refine R_weak (subL_c (subL_c (subL_c (subL_d (subL_d subL_n))))) ?_
                          exact ih34 _ _ (by omega) (by omega) hg3 hk3 hFN hAEN (by omega)
                        · skip
                          refine R_aload_0 hC dX12_laysOrders_103 ?_
                          refine R_getR hC dX12_laysOrders_104 fl_12_75 (by decide) rfl (by decide) (by decide) (fi := 46) rfl (r := 78) (gr_57_46 hg3) ?_
                          refine R_iload_4 hC dX12_laysOrders_107 ?_
                          refine R_aload_0 hC dX12_laysOrders_109 ?_
                          refine R_getR hC dX12_laysOrders_110 fl_12_72 (by decide) rfl (by decide) (by decide) (fi := 45) rfl (r := 77) (gr_57_45 hg3) ?_
                          refine R_iload_4 hC dX12_laysOrders_113 ?_
                          refine R_iaload hC dX12_laysOrders_115 (by decide) rfl (by omega) (by omega) ?_
                          refine R_iastore hC dX12_laysOrders_116 (by decide) rfl (by omega) (by omega) ?_
                          refine R_iinc_4 hC dX12_laysOrders_117 rfl ⟨by omega, by omega⟩ ?_
                          refine R_goto hC dX12_laysOrders_120 (tgt := 94) (by decide) ?_
                          have hG9 : GR (uM M3 78 j (M3 77 j)) := (GR.uA hg3 (by decide +kernel) (.inl (by decide)))
                          have hk10 : RW (uM M3 78 j (M3 77 j)) 0 c := (RW.u hk3 (by decide))
                          exact ih94 _ _ (by omega) (by omega) hG9 hk10 (Fr.uA hF3 (by decide)) ((uM_h (by decide)).trans h483) ((uM_h (by decide)).trans h493) (row_set h783 rfl (h773 j hj0 (by omega))) (fun i a b => (uM_h (by decide)).trans (h773 i a b)) (by omega)
                    have hG11 : GR (uM (uM Mc6 57 48 ((ordF (insOf c) b (k).toNat).1 + 1)) 57 49 v8) := (GR.uF (GR.uF (GR.fr hG4 hq7.1 (by decide +kernel)) (by decide +kernel) (by decide)) (by decide +kernel) (by decide))
                    have hk12 : RW (uM (uM Mc6 57 48 ((ordF (insOf c) b (k).toNat).1 + 1)) 57 49 v8) 0 c := (RW.uf (RW.uf (RW.fr hk5 hq7.1 (by decide +kernel)) (by decide)) (by decide))
                    exact L94 _ _ _ (by omega) (by omega) hG11 hk12 (Fr.uB (Fr.uB hFb (by decide)) (by decide)) ((uM_k (by decide)).trans uM_same) (uM_same.trans hsp9) (fun i a b => by omega) (fun i a b => (uM_h (by decide)).trans ((uM_h (by decide)).trans (h77b i a b))) (Nat.lt_succ_self _)
                  · skip
                    have hlt9 : ¬ (ordF (insOf c) b k.toNat).2.1 < oP (insOf c) b (dg (c 121) k) (c 121).toNat := by (rw [← hsp9]; omega)
                    have hFN : Fr [63, 64, 65, 66, 77, 78] [(57, 47), (57, 48), (57, 49)] M (uM Mc6 57 48 ((ordF (insOf c) b (k).toNat).1 + 1)) := Fr.uB hFb (by decide)
                    have hAEN : (uM Mc6 57 48 ((ordF (insOf c) b (k).toNat).1 + 1)) 57 48 = (ordF (insOf c) b (k + 1).toNat).1 ∧ (uM Mc6 57 48 ((ordF (insOf c) b (k).toNat).1 + 1)) 57 49 = (ordF (insOf c) b (k + 1).toNat).2.1 ∧ (0 < (ordF (insOf c) b (k + 1).toNat).1 → ∀ j, 0 ≤ j → j < c 121 → (uM Mc6 57 48 ((ordF (insOf c) b (k).toNat).1 + 1)) 78 j = (ordF (insOf c) b (k + 1).toNat).2.2 j) := by
                      rw [ordF_s hk0 rfl]
                      unfold stepO
                      rw [itc_t (show okO (insOf c) b (dg (iL (insOf c)) k) from hok9), if_neg (show ¬ (ordF (insOf c) b k.toNat).2.1 < oP (insOf c) b (dg (iL (insOf c)) k) (iL (insOf c)).toNat from hlt9), if_neg (show ¬ (ordF (insOf c) b k.toNat).2.1 < oP (insOf c) b (dg (iL (insOf c)) k) (iL (insOf c)).toNat from hlt9)]
                      refine ⟨uM_same, (uM_k (by decide)).trans h49b, fun z j p r => ((uM_h (by decide)).trans (h78b j)).trans (hAE.2.2 ?_ j p r)⟩
                      have y := bo.2.2
                      have y2 := bo.1.1
                      have y3 := hlt9
                      omega
                    refine R_goto hC dX12_laysOrders_83 (tgt := 123) (by decide) ?_
                    refine R_iinc_2 hC dX12_laysOrders_123 rfl ⟨by omega, by omega⟩ ?_
                    refine R_goto hC dX12_laysOrders_126 (tgt := 34) (by decide) ?_
                    refine R_weak (subL_c (subL_c (subL_c (subL_d (subL_c subL_n))))) ?_
                    have hG13 : GR (uM Mc6 57 48 ((ordF (insOf c) b (k).toNat).1 + 1)) := (GR.uF (GR.fr hG4 hq7.1 (by decide +kernel)) (by decide +kernel) (by decide))
                    have hk14 : RW (uM Mc6 57 48 ((ordF (insOf c) b (k).toNat).1 + 1)) 0 c := (RW.uf (RW.fr hk5 hq7.1 (by decide +kernel)) (by decide))
                    exact ih34 _ _ (by omega) (by omega) hG13 hk14 hFN hAEN (by omega)
                · skip
                  have hFN := hFb
                  have hAEN : Mc6 57 48 = (ordF (insOf c) b (k + 1).toNat).1 ∧ Mc6 57 49 = (ordF (insOf c) b (k + 1).toNat).2.1 ∧ (0 < (ordF (insOf c) b (k + 1).toNat).1 → ∀ j, 0 ≤ j → j < c 121 → Mc6 78 j = (ordF (insOf c) b (k + 1).toNat).2.2 j) := by
                    rw [ordF_s hk0 rfl]
                    unfold stepO
                    rw [itc_f (fun z : okO (insOf c) b (dg (iL (insOf c)) k) => hb59 (hlk9.trans (hn9.mpr z)))]
                    exact ⟨h48b, h49b, fun z j p r => (h78b j).trans (hAE.2.2 z j p r)⟩
                  refine R_goto hC dX12_laysOrders_62 (tgt := 123) (by decide) ?_
                  refine R_iinc_2 hC dX12_laysOrders_123 rfl ⟨by omega, by omega⟩ ?_
                  refine R_goto hC dX12_laysOrders_126 (tgt := 34) (by decide) ?_
                  refine R_weak (subL_c (subL_c (subL_c (subL_d (subL_c subL_n))))) ?_
                  have hG15 : GR Mc6 := (GR.fr hG4 hq7.1 (by decide +kernel))
                  have hk16 : RW Mc6 0 c := (RW.fr hk5 hq7.1 (by decide +kernel))
                  exact ih34 _ _ (by omega) (by omega) hG15 hk16 hFN hAEN (by omega)
              · skip
                have hFN := hFa
                have hAEN : Mc1 57 48 = (ordF (insOf c) b (k + 1).toNat).1 ∧ Mc1 57 49 = (ordF (insOf c) b (k + 1).toNat).2.1 ∧ (0 < (ordF (insOf c) b (k + 1).toNat).1 → ∀ j, 0 ≤ j → j < c 121 → Mc1 78 j = (ordF (insOf c) b (k + 1).toNat).2.2 j) := by
                  rw [ordF_s hk0 rfl]
                  unfold stepO
                  rw [itc_f (fun z : okO (insOf c) b (dg (iL (insOf c)) k) => bP_z (hpa.symm.trans hb44) z.1)]
                  exact ⟨h48a, h49a, fun z j p r => (h78a j).trans (hAE.2.2 z j p r)⟩
                refine R_goto hC dX12_laysOrders_47 (tgt := 123) (by decide) ?_
                refine R_iinc_2 hC dX12_laysOrders_123 rfl ⟨by omega, by omega⟩ ?_
                refine R_goto hC dX12_laysOrders_126 (tgt := 34) (by decide) ?_
                have hG17 : GR Mc1 := (GR.fr hg2 hq2.1 (by decide +kernel))
                have hk18 : RW Mc1 0 c := (RW.fr hk2 hq2.1 (by decide +kernel))
                exact ih34 _ _ (by omega) (by omega) hG17 hk18 hFN hAEN (by omega)
        rw [show i = c 121 by omega]
        have b5 := h5 (c 121).toNat (by omega)
        exact L34 _ _ _ (by omega) (by omega) hg hk1 hF (⟨h48, h49, fun z => absurd z (by show ¬ (0 : Int) < 0; decide)⟩) (Nat.lt_succ_self _)
      · skip
        refine R_iload_1 hC dX12_laysOrders_22 ?_
        refine R_iconst hC dX12_laysOrders_23 ⟨by decide, by decide⟩ ?_
        refine R_imul hC dX12_laysOrders_24 ⟨by omega, by omega⟩ ?_
        refine R_istore_1 hC dX12_laysOrders_25 rfl ?_
        refine R_iinc_2 hC dX12_laysOrders_26 rfl ⟨by omega, by omega⟩ ?_
        refine R_goto hC dX12_laysOrders_29 (tgt := 14) (by decide) ?_
        have e5 : (5 : Int) ^ (i + 1).toNat = 5 ^ i.toNat * 5 := by (rw [show (i + 1).toNat = i.toNat + 1 by omega, Int.pow_succ])
        rw [← e5]
        exact ih14 _ _ (by omega) (by omega) hg hk1 hF h48 h49 (by omega)
  have hG19 : GR (uM (uM M 57 48 0) 57 49 (-1)) := (GR.uF (GR.uF hG (by decide +kernel) (by decide)) (by decide +kernel) (by decide))
  have hk20 : RW (uM (uM M 57 48 0) 57 49 (-1)) 0 c := (RW.uf (RW.uf hK (by decide)) (by decide))
  exact L14 _ 0 _ (by omega) (by omega) hG19 hk20 (Fr.uB (Fr.uB Fr.rf (by decide)) (by decide)) ((uM_k (by decide)).trans uM_same) uM_same (Nat.lt_succ_self _)
