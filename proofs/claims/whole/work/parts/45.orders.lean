/-! ORDERS: by codes, and by trying on -/
def dg (L code k : Int) : Int := code / 5 ^ (L - 1 - k).toNat % 5
def okO (I : Ins) (b od : Int → Int) : Prop := oR (iL I) od ∧ ∀ k, 0 ≤ k → k < iL I → ¬ wdw I b (od k) (oS I b od k.toNat) < iN I (od k)
noncomputable def stepO (I : Ins) (b od : Int → Int) (a : AC) : AC := itc (okO I b od) (a.1 + 1, if a.2.1 < oP I b od (iL I).toNat then oP I b od (iL I).toNat else a.2.1, if a.2.1 < oP I b od (iL I).toNat then od else a.2.2) a
noncomputable def cdF (I : Ins) (b : Int → Int) : Nat → Int → (Int → Int) → AC → AC
  | 0, _, od, a => stepO I b od a
  | n + 1, t, od, a => fl (fun x a => cdF I b n (t + 1) (up od t x) a) 5 a
def AE (L : Int) (a a' : AC) : Prop := a.1 = a'.1 ∧ a.2.1 = a'.2.1 ∧ (0 < a.1 → ∀ j, 0 ≤ j → j < L → a.2.2 j = a'.2.2 j) ∧ 0 ≤ a.1 ∧ (a.1 = 0 → a.2.1 = -1)
section OC
variable {I : Ins} {b od od' : Int → Int}
theorem oS_c : ∀ k : Nat, (∀ j, 0 ≤ j → j < (k : Int) → od j = od' j) → oS I b od k = oS I b od' k
  | 0, _ => rfl
  | k + 1, h => by rw [oS, oS, oS_c k (fun j a c => h j a (by omega)), h k (by omega) (by omega)]
theorem oP_c (k : Nat) (h : ∀ j, 0 ≤ j → j < (k : Int) → od j = od' j) : oP I b od k = oP I b od' k := by
  refine sm_congr k (fun j a c => ?_)
  rw [oS_c j.toNat (fun i p q => h i p (by omega)), h j a c]
theorem okO_c (h : ∀ j, 0 ≤ j → j < iL I → od j = od' j) : okO I b od → okO I b od' := by
  rintro ⟨⟨r, d⟩, l⟩
  refine ⟨⟨fun k a c => by rw [← h k a c]; exact r k a c, fun j k a c e => by rw [← h j a (by omega), ← h k (by omega) e]; exact d j k a c e⟩, fun k a c => ?_⟩
  rw [← h k a c, ← oS_c k.toNat (fun i p q => h i p (by omega))]
  exact l k a c
theorem stepO_AE (hI : IB I) (hb : RK (iW I) (iZ I) b) {a a' : AC} (h : ∀ j, 0 ≤ j → j < iL I → od j = od' j) (g : AE (iL I) a a') : AE (iL I) (stepO I b od a) (stepO I b od' a') := by
  have hL := hI.1
  by_cases q : okO I b od
  · have q' := okO_c h q
    have p0 := (oP_bd hI hb q.1.1 hL.1 (Int.le_refl _)).1
    have e := oP_c (I := I) (b := b) (iL I).toNat (fun j a c => h j a (by omega))
    unfold stepO
    rw [itc_t q, itc_t q', ← e, ← g.2.1]
    refine ⟨by show a.1 + 1 = a'.1 + 1; rw [g.1], rfl, fun _ j j0 j1 => ?_, by show 0 ≤ a.1 + 1; have := g.2.2.2.1; omega, fun z => by have : a.1 + 1 = 0 := z; have := g.2.2.2.1; omega⟩
    show (if _ then od else a.2.2) j = (if _ then od' else a'.2.2) j
    by_cases r : a.2.1 < oP I b od (iL I).toNat
    · rw [if_pos r, if_pos r]; exact h j j0 j1
    · rw [if_neg r, if_neg r]
      refine g.2.2.1 ?_ j j0 j1
      have := g.2.2.2.1
      have := g.2.2.2.2
      omega
  · have q' : ¬ okO I b od' := fun z => q (okO_c (fun j a c => (h j a c).symm) z)
    unfold stepO
    rw [itc_f q, itc_f q']
    exact g
theorem fl_AE {L : Int} {g g' : Int → AC → AC} : ∀ n : Nat, (∀ x : Int, 0 ≤ x → x < n → ∀ a a', AE L a a' → AE L (g x a) (g' x a')) → ∀ a a', AE L a a' → AE L (fl g n a) (fl g' n a')
  | 0, _, _, _, h => h
  | n + 1, hg, a, a', h => hg n (by omega) (by omega) _ _ (fl_AE n (fun x x0 x1 => hg x x0 (by omega)) a a' h)
theorem fl_id {g : Int → AC → AC} : ∀ n : Nat, (∀ x : Int, 0 ≤ x → x < n → ∀ a, g x a = a) → ∀ a, fl g n a = a
  | 0, _, _ => rfl
  | n + 1, hg, a => by rw [fl, fl_id n (fun x x0 x1 => hg x x0 (by omega)) a, hg n (by omega) (by omega)]
theorem fl_add {g : Int → AC → AC} (n : Nat) : ∀ m : Nat, ∀ a, fl g (n + m) a = fl (fun j => g (n + j)) m (fl g n a)
  | 0, _ => rfl
  | m + 1, a => by
    show g ((n + m : Nat) : Int) (fl g (n + m) a) = g (n + (m : Int)) (fl (fun j => g (n + j)) m (fl g n a))
    rw [fl_add n m a, Int.natCast_add]
theorem fl_mul {g : Int → AC → AC} (m : Nat) : ∀ n : Nat, ∀ a, fl g (n * m) a = fl (fun x a => fl (fun j a => g (x * m + j) a) m a) n a
  | 0, a => by rw [Nat.zero_mul]; rfl
  | n + 1, a => by
    rw [Nat.succ_mul, fl_add, fl_mul m n a, fl, Int.natCast_mul]
theorem cd_bad : ∀ (n : Nat) (t : Int) (od : Int → Int) (a : AC), (∀ od', (∀ k, 0 ≤ k → k < t → od' k = od k) → ¬ okO I b od') → cdF I b n t od a = a
  | 0, t, od, a, h => itc_f (h od (fun _ _ _ => rfl))
  | n + 1, t, od, a, h => fl_id 5 (fun x _ _ a => cd_bad n (t + 1) (up od t x) a (fun od' e => h od' (fun k a c => (e k a (by omega)).trans (up_ne (by omega))))) a
/-- trying on: the same as all codes -/
theorem lu_cd (hI : IB I) (hb : RK (iW I) (iZ I) b) : ∀ (n : Nat) (t dn sp : Int) (s od : Int → Int) (a a' : AC), 0 ≤ t → t + n = iL I → (∀ k, 0 ≤ k → k < t → 0 ≤ od k ∧ od k < iL I) → (∀ j k, 0 ≤ j → j < k → k < t → od j ≠ od k) → (∀ k, 0 ≤ k → k < t → ¬ wdw I b (od k) (oS I b od k.toNat) < iN I (od k)) →
    s = oS I b od t.toNat → sp = oP I b od t.toNat → (0 ≤ dn ∧ dn < 32 ∧ ∀ x, 0 ≤ x → x < 5 → (dn / 2 ^ x.toNat % 2 = 0 ↔ ∀ k, 0 ≤ k → k < t → od k ≠ x)) → AE (iL I) a a' → AE (iL I) (luF I b n t dn sp s od a) (cdF I b n t od a')
  | 0, t, dn, sp, s, od, a, a', t0, tn, hr, hd, hl, hs, hp, hdn, g => by
    have hL := hI.1
    have tL : t = iL I := by omega
    subst tL
    have ok : okO I b od := ⟨⟨hr, hd⟩, hl⟩
    have p0 := (oP_bd hI hb hr hL.1 (Int.le_refl _)).1
    show AE (iL I) (a.1 + 1, if a.2.1 < sp then sp else a.2.1, if a.2.1 < sp then od else a.2.2) (stepO I b od a')
    unfold stepO
    rw [itc_t ok, ← hp, ← g.2.1]
    refine ⟨by show a.1 + 1 = a'.1 + 1; rw [g.1], rfl, fun _ j j0 j1 => ?_, by show 0 ≤ a.1 + 1; have := g.2.2.2.1; omega, fun z => by have : a.1 + 1 = 0 := z; have := g.2.2.2.1; omega⟩
    show (if _ then od else a.2.2) j = (if _ then od else a'.2.2) j
    by_cases r : a.2.1 < sp
    · rw [if_pos r, if_pos r]
    · rw [if_neg r, if_neg r]
      refine g.2.2.1 ?_ j j0 j1
      have := g.2.2.2.1
      have := g.2.2.2.2
      omega
  | n + 1, t, dn, sp, s, od, a, a', t0, tn, hr, hd, hl, hs, hp, hdn, g => by
    have hL := hI.1
    have e5 : ∀ a', cdF I b (n + 1) t od a' = fl (fun x a => cdF I b n (t + 1) (up od t x) a) (iL I).toNat a' := fun a' => by
      show fl _ 5 a' = _
      rw [show (5 : Nat) = (iL I).toNat + (5 - (iL I).toNat) by omega, fl_add]
      exact fl_id _ (fun x x0 x1 a => cd_bad n (t + 1) _ a (fun od' e z => by
        have h1 := e t t0 (by omega)
        rw [up_same] at h1
        have := z.1.1 t t0 (by omega)
        omega)) _
    rw [e5, luF]
    refine fl_AE _ (fun x x0 x1 a a' g => ?_) a a' g
    have ho : ∀ k, k < t → up od t x k = od k := fun k hk => up_ne (by omega)
    have hso : oS I b (up od t x) t.toNat = s := by rw [hs]; exact oS_c _ (fun j a c => ho j (by omega))
    by_cases c : dn / 2 ^ x.toNat % 2 = 0 ∧ iN I x ≤ wdw I b x s
    · rw [if_pos c]
      have hx := (hdn.2.2 x x0 (by omega)).mp c.1
      have hor := done_or hdn.1 hdn.2.1 x0 (by omega) c.1
      refine lu_cd hI hb n (t + 1) _ _ _ _ a a' (by omega) (by omega) (fun k a c => ?_) (fun j k a c e => ?_) (fun k a e => ?_) ?_ ?_ ⟨by have := pw_le6 x0 (show x ≤ 5 by omega); omega, hor.2, fun y y0 y1 => ?_⟩ g
      · by_cases q : k = t
        · rw [q, up_same]; omega
        · rw [ho k (by omega)]; exact hr k a (by omega)
      · by_cases q : k = t
        · rw [q, up_same, ho j (by omega)]; exact hx j a (by omega)
        · rw [ho j (by omega), ho k (by omega)]; exact hd j k a c (by omega)
      · by_cases q : k = t
        · rw [q, up_same, hso]; omega
        · rw [ho k (by omega), oS_c (od' := od) k.toNat (fun j a c => ho j (by omega))]; exact hl k a (by omega)
      · rw [oS_s t0 rfl, up_same, hso]
      · unfold oP
        rw [sm_to t0 rfl, up_same, hso, hp]
        congr 1
        refine sm_congr _ (fun j a c => ?_)
        rw [ho j (by omega), oS_c (od := up od t x) (od' := od) j.toNat (fun i p q => ho i (by omega))]
      · have key : ∀ a : Nat, a < 32 → ∀ k : Nat, k < 5 → ∀ m : Nat, m < 5 → (a : Int) / 2 ^ k % 2 = 0 → (((a : Int) + 2 ^ k) / 2 ^ m % 2 = if m = k then 1 else (a : Int) / 2 ^ m % 2) := by decide +kernel
        have := key dn.toNat (by omega) x.toNat (by omega) y.toNat (by omega)
        rw [Int.toNat_of_nonneg hdn.1] at this
        rw [this c.1]
        by_cases q : y = x
        · rw [if_pos (by omega)]
          exact ⟨fun z => absurd z (by decide), fun z => absurd (by rw [up_same, q]) (z t t0 (by omega))⟩
        · rw [if_neg (by omega), hdn.2.2 y y0 y1]
          constructor
          · intro z k a c
            by_cases r : k = t
            · rw [r, up_same]; exact Ne.symm q
            · rw [ho k (by omega)]; exact z k a (by omega)
          · intro z k a c
            have := z k a (by omega)
            rw [ho k c] at this
            exact this
    · rw [if_neg c, cd_bad n (t + 1) (up od t x) a' (fun od' e z => ?_)]
      · exact g
      · have h1 := e t t0 (by omega)
        rw [up_same] at h1
        refine c ⟨(hdn.2.2 x x0 (by omega)).mpr (fun k a c y => ?_), ?_⟩
        · refine z.1.2 k t a c (by omega) ?_
          rw [h1, e k a (by omega), ho k c]
          exact y
        · have := z.2 t t0 (by omega)
          rw [h1, oS_c (od' := up od t x) t.toNat (fun j a c => e j a (by omega)), hso] at this
          omega
def mixO (t : Int) (n : Nat) (od : Int → Int) (j : Int) : Int → Int := fun k => if k < t then od k else j / 5 ^ (t + n - 1 - k).toNat % 5
theorem p5 (n : Nat) : (0 : Int) < 5 ^ n := Int.pow_pos (by decide)
theorem code_cd (hI : IB I) (hb : RK (iW I) (iZ I) b) : ∀ (n : Nat) (t : Int) (od : Int → Int) (a a' : AC), 0 ≤ t → t + n = iL I → AE (iL I) a a' → AE (iL I) (fl (fun j a => stepO I b (mixO t n od j) a) (5 ^ n) a) (cdF I b n t od a')
  | 0, t, od, a, a', t0, tn, g => stepO_AE hI hb (fun j j0 j1 => if_pos (by omega)) g
  | n + 1, t, od, a, a', t0, tn, g => by
    rw [Nat.pow_succ, Nat.mul_comm, fl_mul]
    refine fl_AE 5 (fun x x0 x1 a a' g => ?_) a a' g
    have r := code_cd hI hb n (t + 1) (up od t x) a a' (by omega) (by omega) g
    have e := fl_AE (L := iL I) (g := fun j a => stepO I b (mixO t (n + 1) od (x * ((5 ^ n : Nat) : Int) + j)) a) (g' := fun j a => stepO I b (mixO (t + 1) n (up od t x) j) a) (5 ^ n) (fun j j0 j1 a a' g => stepO_AE hI hb (fun k k0 k1 => ?_) g) a a ⟨rfl, rfl, fun _ _ _ _ => rfl, g.2.2.2⟩
    · exact ⟨e.1.trans r.1, e.2.1.trans r.2.1, fun z i p q => (e.2.2.1 z i p q).trans (r.2.2.1 (by rw [← e.1]; exact z) i p q), e.2.2.2⟩
    · have pn := p5 n
      have c5 : ((5 ^ n : Nat) : Int) = 5 ^ n := by rw [Int.natCast_pow]; rfl
      rw [c5] at j1 ⊢
      unfold mixO
      by_cases q : k < t
      · rw [if_pos q, if_pos (by omega), up_ne (by omega)]
      rw [if_neg q]
      by_cases p : k = t
      · rw [if_pos (by omega), p, up_same, show (t + ((n + 1 : Nat) : Int) - 1 - t).toNat = n by omega, Int.add_comm, Int.add_mul_ediv_right _ _ (Int.ne_of_gt pn), Int.ediv_eq_zero_of_lt j0 j1, Int.zero_add, Int.emod_eq_of_lt x0 (by omega)]
      · rw [if_neg (by omega), show t + 1 + (n : Int) - 1 - k = t + ((n + 1 : Nat) : Int) - 1 - k by omega]
        obtain ⟨m, hm, hmn⟩ : ∃ m : Nat, (t + ((n + 1 : Nat) : Int) - 1 - k).toNat = m ∧ m < n := ⟨_, rfl, by omega⟩
        rw [hm]
        obtain ⟨i, rfl⟩ : ∃ i, n = i + 1 + m := ⟨n - m - 1, by omega⟩
        have pm := p5 m
        rw [show x * 5 ^ (i + 1 + m) = x * 5 ^ i * 5 * 5 ^ m by rw [Int.pow_add, Int.pow_succ, ← Int.mul_assoc, ← Int.mul_assoc], Int.add_comm, Int.add_mul_ediv_right _ _ (Int.ne_of_gt pm), Int.add_mul_emod_self_right]
end OC
noncomputable def ordF (I : Ins) (b : Int → Int) (n : Nat) : AC := fl (fun k a => stepO I b (dg (iL I) k) a) n (0, -1, fun _ => 0)
theorem ord_eq {I : Ins} {b : Int → Int} (hI : IB I) (hb : RK (iW I) (iZ I) b) (o e : Int → Int) : AE (iL I) (luF I b (iL I).toNat 0 0 0 (iS I) o (0, -1, e)) (ordF I b (5 ^ (iL I).toNat)) := by
  have hL := hI.1
  have a0 : AE (iL I) (0, -1, e) (0, -1, fun _ => 0) := ⟨rfl, rfl, fun z => absurd z (by show ¬ (0 : Int) < 0; decide), Int.le_refl 0, fun _ => rfl⟩
  have h1 := lu_cd hI hb (iL I).toNat 0 0 0 (iS I) o (0, -1, e) (0, -1, e) (Int.le_refl 0) (by omega) (fun k _ _ => by omega) (fun j k _ _ _ => by omega) (fun k _ _ => by omega) rfl rfl ⟨Int.le_refl 0, by decide, fun x x0 x1 => ⟨fun _ k _ _ => by omega, fun _ => by simp⟩⟩ ⟨rfl, rfl, fun _ _ _ _ => rfl, Int.le_refl 0, fun _ => rfl⟩
  have h2 := code_cd hI hb (iL I).toNat 0 o (0, -1, fun _ => 0) (0, -1, e) (Int.le_refl 0) (by omega) ⟨rfl, rfl, fun z => absurd z (by show ¬ (0 : Int) < 0; decide), Int.le_refl 0, fun _ => rfl⟩
  have h3 : AE (iL I) (ordF I b (5 ^ (iL I).toNat)) (fl (fun j a => stepO I b (mixO 0 (iL I).toNat o j) a) (5 ^ (iL I).toNat) (0, -1, fun _ => 0)) :=
    fl_AE _ (fun x x0 x1 a a' g => stepO_AE hI hb (fun k k0 k1 => by
      unfold dg mixO
      rw [if_neg (by omega), show 0 + ((iL I).toNat : Int) - 1 - k = iL I - 1 - k by omega]) g) _ _ ⟨rfl, rfl, fun z => absurd z (by show ¬ (0 : Int) < 0; decide), Int.le_refl 0, fun _ => rfl⟩
  have e1 : (luF I b (iL I).toNat 0 0 0 (iS I) o (0, -1, e)).1 = (ordF I b (5 ^ (iL I).toNat)).1 := h1.1.trans (h2.1.symm.trans h3.1.symm)
  refine ⟨e1, h1.2.1.trans (h2.2.1.symm.trans h3.2.1.symm), fun z j j0 j1 => (h1.2.2.1 z j j0 j1).trans ?_, h1.2.2.2⟩
  have z3 : 0 < (ordF I b (5 ^ (iL I).toNat)).1 := by rw [← e1]; exact z
  rw [h3.2.2.1 z3 j j0 j1]
  exact (h2.2.2.1 (by rw [← h3.1]; exact z3) j j0 j1).symm
