/-! sums, truth values, frames of memory, Stocks, a few more rules -/
def sm : Nat → (Int → Int) → Int
  | 0, _ => 0
  | k + 1, f => sm k f + f (k : Int)
theorem sm_to {f : Int → Int} {i j : Int} (h : 0 ≤ i) (hj : j = i + 1) : sm j.toNat f = sm i.toNat f + f i := by
  subst hj
  have e : (i + 1).toNat = i.toNat + 1 := by omega
  rw [e, sm, Int.toNat_of_nonneg h]
theorem sm_0 {f : Int → Int} : sm (0 : Int).toNat f = 0 := rfl
theorem sm_bd {f : Int → Int} {b : Int} : ∀ n : Nat, (∀ k : Int, 0 ≤ k → k < n → 0 ≤ f k ∧ f k ≤ b) → 0 ≤ sm n f ∧ sm n f ≤ n * b
  | 0, _ => by simp [sm]
  | n + 1, h => by
    have h1 := sm_bd n (fun k a c => h k a (by omega))
    have h2 := h n (by omega) (by omega)
    rw [sm]
    have : ((n + 1 : Nat) : Int) * b = n * b + b := by rw [Int.natCast_add, Int.add_mul]; simp
    omega
theorem sm_congr {f g : Int → Int} : ∀ n : Nat, (∀ k : Int, 0 ≤ k → k < n → f k = g k) → sm n f = sm n g
  | 0, _ => rfl
  | n + 1, h => by rw [sm, sm, sm_congr n (fun k a c => h k a (by omega)), h n (by omega) (by omega)]
noncomputable def bP (p : Prop) : Int := @ite Int p (Classical.propDecidable p) 1 0
theorem bP_pos {p : Prop} (h : p) : bP p = 1 := by unfold bP; rw [if_pos h]
theorem bP_neg {p : Prop} (h : ¬ p) : bP p = 0 := by unfold bP; rw [if_neg h]
theorem bP_z {p : Prop} (h : bP p = 0) : ¬ p := fun q => by rw [bP_pos q] at h; cases h
theorem bP_nz {p : Prop} (h : bP p ≠ 0) : p := Classical.byContradiction (fun q => h (bP_neg q))
theorem bP_o {p : Prop} (h : bP p = 1) : p := bP_nz (by rw [h]; decide)
theorem bP_no {p : Prop} (h : bP p ≠ 1) : ¬ p := fun q => h (bP_pos q)
theorem bP_01 (p : Prop) : bP p = 0 ∨ bP p = 1 := by
  by_cases h : p
  · exact .inr (bP_pos h)
  · exact .inl (bP_neg h)
theorem bP_iff {p q : Prop} (h : p ↔ q) : bP p = bP q := by
  by_cases hp : p
  · rw [bP_pos hp, bP_pos (h.mp hp)]
  · rw [bP_neg hp, bP_neg (fun e => hp (h.mpr e))]
theorem ret_I {a b : Int} {M : Mem} (h : a = b) : Ret (vI b) M (some (vI a)) M := by subst h; exact ⟨rfl, rfl⟩
theorem ret_t {p : Prop} {M : Mem} (h : p) : Ret (vI (bP p)) M (some (vI 1)) M := by rw [bP_pos h]; exact ⟨rfl, rfl⟩
theorem ret_f {p : Prop} {M : Mem} (h : ¬ p) : Ret (vI (bP p)) M (some (vI 0)) M := by rw [bP_neg h]; exact ⟨rfl, rfl⟩
theorem ret_V {P : Mem → Prop} {M : Mem} (h : P M) : RV P none M := ⟨rfl, h⟩
theorem ret_P {P : Int → Mem → Prop} {M : Mem} {v : Int} (h : P v M) : RP P (some (vI v)) M := ⟨v, rfl, h⟩
/-! frames: what may differ is rows of A, and cells of B -/
def Fr (A : List Nat) (B : List (Nat × Int)) (M M' : Mem) : Prop := ∀ h k, h ∉ A → (h, k) ∉ B → M' h k = M h k
theorem Fr.rf {A : List Nat} {B : List (Nat × Int)} {M : Mem} : Fr A B M M := fun _ _ _ _ => rfl
theorem Fr.tr {A A' A2 : List Nat} {B B' B2 : List (Nat × Int)} {M M1 M2 : Mem} (h1 : Fr A B M M1) (h2 : Fr A' B' M1 M2) (ha : ∀ x ∈ A, x ∈ A2) (ha' : ∀ x ∈ A', x ∈ A2) (hb : ∀ x ∈ B, x ∈ B2) (hb' : ∀ x ∈ B', x ∈ B2) : Fr A2 B2 M M2 :=
  fun h k p q => (h2 h k (fun e => p (ha' h e)) (fun e => q (hb' _ e))).trans (h1 h k (fun e => p (ha h e)) (fun e => q (hb _ e)))
theorem Fr.mo {A A2 : List Nat} {B B2 : List (Nat × Int)} {M M1 : Mem} (h1 : Fr A B M M1) (ha : ∀ x ∈ A, x ∈ A2) (hb : ∀ x ∈ B, x ∈ B2) : Fr A2 B2 M M1 :=
  fun h k p q => h1 h k (fun e => p (ha h e)) (fun e => q (hb _ e))
theorem Fr.tt {A : List Nat} {B : List (Nat × Int)} {M M1 M2 : Mem} (h1 : Fr A B M M1) (h2 : Fr A B M1 M2) : Fr A B M M2 :=
  fun h k p q => (h2 h k p q).trans (h1 h k p q)
/-- a row that isn't among those -/
theorem Fr.row {A : List Nat} {B : List (Nat × Int)} {M M1 : Mem} (h1 : Fr A B M M1) {h : Nat} (ha : h ∉ A) (hb : ∀ q ∈ B, q.1 ≠ h) : M1 h = M h :=
  funext fun k => h1 h k ha (fun e => hb _ e rfl)
theorem Fr.at {A : List Nat} {M M1 : Mem} (h1 : Fr A [] M M1) {h : Nat} {k : Int} (ha : h ∉ A) : M1 h k = M h k := h1 h k ha List.not_mem_nil
theorem Fr.uA {A : List Nat} {B : List (Nat × Int)} {M M1 : Mem} (h1 : Fr A B M M1) {h : Nat} {k x : Int} (ha : h ∈ A) : Fr A B M (uM M1 h k x) := by
  intro h' k' p q
  unfold uM
  rw [if_neg (fun e => p (by rw [e.1]; exact ha))]
  exact h1 h' k' p q
theorem Fr.uB {A : List Nat} {B : List (Nat × Int)} {M M1 : Mem} (h1 : Fr A B M M1) {h : Nat} {k x : Int} (ha : (h, k) ∈ B) : Fr A B M (uM M1 h k x) := by
  intro h' k' p q
  unfold uM
  rw [if_neg (fun e => q (by rw [e.1, e.2]; exact ha))]
  exact h1 h' k' p q
theorem uM_same {M : Mem} {h : Nat} {k x : Int} : uM M h k x h k = x := if_pos ⟨rfl, rfl⟩
theorem uM_oth {M : Mem} {h h' : Nat} {k k' x : Int} (e : ¬ (h' = h ∧ k' = k)) : uM M h k x h' k' = M h' k' := if_neg e
theorem uM_k {M : Mem} {h : Nat} {k k' x : Int} (e : k' ≠ k) : uM M h k x h k' = M h k' := if_neg (fun q => e q.2)
theorem uM_h {M : Mem} {h h' : Nat} {k k' x : Int} (e : h' ≠ h) : uM M h k x h' k' = M h' k' := if_neg (fun q => e q.1)
theorem uM_at {M : Mem} {h : Nat} {k k' x : Int} (e : k' = k) : uM M h k x h k' = x := if_pos ⟨rfl, e⟩
def cpM (M : Mem) (hd : Nat) (dp : Int) (hs : Nat) (sp n : Int) : Mem := fun a b => if a = hd ∧ dp ≤ b ∧ b < dp + n then M hs (sp + (b - dp)) else M a b
theorem cpM_ne {M : Mem} {hd hs h' : Nat} {dp sp n : Int} (e : h' ≠ hd) : cpM M hd dp hs sp n h' = M h' := by
  funext b
  exact if_neg (fun q => e q.1)
theorem cpM_h {M : Mem} {hd hs h' : Nat} {dp sp n k : Int} (e : h' ≠ hd) : cpM M hd dp hs sp n h' k = M h' k := if_neg (fun q => e q.1)
theorem row_set {M1 : Mem} {h : Nat} {F : Int → Int} {a k j v : Int} (hF : ∀ t, a ≤ t → t < k → M1 h t = F t) (hj : j = k + 1) (hv : v = F k) : ∀ t, a ≤ t → t < j → uM M1 h k v h t = F t := by
  intro t h0 h1
  by_cases e : t = k
  · rw [uM_at e, hv, e]
  · rw [uM_k e]
    exact hF t h0 (by omega)
/-- references stay -/
theorem GR.fr {A : List Nat} {B : List (Nat × Int)} {M M1 : Mem} (hG : GR M) (h1 : Fr A B M M1) (h : (refL.all (fun q => !(A.contains q.1) && !(B.contains (q.1, q.2.1))) && stC.all (fun c => !(A.contains c) && B.all (fun q => !(q.1 == c)))) = true) : GR M1 := by
  rw [Bool.and_eq_true] at h
  refine ⟨fun q hq => ?_, fun c hc k hk => ?_⟩
  · have := List.all_eq_true.mp h.1 q hq
    rw [Bool.and_eq_true, Bool.not_eq_true', Bool.not_eq_true'] at this
    rw [h1 q.1 q.2.1 (fun e => by rw [List.contains_iff_mem.mpr e] at this; cases this.1) (fun e => by rw [List.contains_iff_mem.mpr e] at this; cases this.2)]
    exact hG.1 q hq
  · have := List.all_eq_true.mp h.2 c hc
    rw [Bool.and_eq_true, Bool.not_eq_true'] at this
    rw [h1 c k (fun e => by rw [List.contains_iff_mem.mpr e] at this; cases this.1) (fun e => by
      have z := List.all_eq_true.mp this.2 _ e
      simp at z)]
    exact hG.2 c hc k hk
theorem GR.uA {M : Mem} (hG : GR M) {h : Nat} {k x : Int} (hh : refL.all (fun q => !(q.1 == h)) = true) (hs : h ∉ stC ∨ (0 ≤ k ∧ k < 123)) : GR (uM M h k x) := by
  refine ⟨fun q hq => ?_, fun c hc j hj => ?_⟩
  · have := List.all_eq_true.mp hh q hq
    rw [uM_h (fun e => by rw [e] at this; simp at this)]
    exact hG.1 q hq
  · rw [uM_oth (fun e => by
      rcases hs with z | z
      · exact z (e.1 ▸ hc)
      · omega)]
    exact hG.2 c hc j hj
theorem GR.uF {M : Mem} (hG : GR M) {h : Nat} {k x : Int} (hh : refL.all (fun q => !(q.1 == h && q.2.1 == k)) = true) (hs : h ∉ stC) : GR (uM M h k x) := by
  refine ⟨fun q hq => ?_, fun c hc j hj => ?_⟩
  · have := List.all_eq_true.mp hh q hq
    rw [uM_oth (fun e => by rw [e.1, e.2] at this; simp at this)]
    exact hG.1 q hq
  · rw [uM_h (show c ≠ h from fun e => hs (e ▸ hc))]
    exact hG.2 c hc j hj
theorem GR.cp {M : Mem} (hG : GR M) {hd hs : Nat} {dp sp n : Int} (hh : refL.all (fun q => !(q.1 == hd)) = true) (hz : hd ∉ stC ∨ (0 ≤ dp ∧ dp + n ≤ 123)) : GR (cpM M hd dp hs sp n) := by
  refine ⟨fun q hq => ?_, fun c hc j hj => ?_⟩
  · have := List.all_eq_true.mp hh q hq
    rw [cpM_ne (fun e => by rw [e] at this; simp at this)]
    exact hG.1 q hq
  · unfold cpM
    rw [if_neg (fun e => by
      rcases hz with z | z
      · exact z (e.1 ▸ hc)
      · omega)]
    exact hG.2 c hc j hj
theorem cp_row {M : Mem} {d : Int → Int} (hG : GR M) {hd c2 : Nat} (hc : hd ∈ stC) (hc2 : c2 ∈ stC) (hr : M c2 = d) : (cpM M hd 0 c2 0 123) hd = d := by
  subst hr
  funext k
  unfold cpM
  by_cases e : 0 ≤ k ∧ k < 123
  · rw [if_pos ⟨rfl, e.1, by omega⟩]
    congr 1
    omega
  · rw [if_neg (fun q => e ⟨q.2.1, by omega⟩), hG.2 hd hc k (by omega), hG.2 c2 hc2 k (by omega)]
/-! Stocks -/
def SH (h c : Nat) : Prop := (h = 3 ∧ c = 4) ∨ (h = 12 ∧ c = 13) ∨ (h = 20 ∧ c = 21) ∨ (h = 39 ∧ c = 40) ∨ (h = 46 ∧ c = 47) ∨ (h = 55 ∧ c = 56)
theorem SH.k {h c : Nat} (s : SH h c) : LY.1 h = (8, 1) := by rcases s with ⟨rfl, rfl⟩ | ⟨rfl, rfl⟩ | ⟨rfl, rfl⟩ | ⟨rfl, rfl⟩ | ⟨rfl, rfl⟩ | ⟨rfl, rfl⟩ <;> rfl
theorem SH.a {h c : Nat} (s : SH h c) : LY.1 c = (20, 123) := by rcases s with ⟨rfl, rfl⟩ | ⟨rfl, rfl⟩ | ⟨rfl, rfl⟩ | ⟨rfl, rfl⟩ | ⟨rfl, rfl⟩ | ⟨rfl, rfl⟩ <;> rfl
theorem SH.l {h c : Nat} (s : SH h c) : h < 57 := by rcases s with ⟨rfl, rfl⟩ | ⟨rfl, rfl⟩ | ⟨rfl, rfl⟩ | ⟨rfl, rfl⟩ | ⟨rfl, rfl⟩ | ⟨rfl, rfl⟩ <;> decide
theorem SH.m {h c : Nat} (s : SH h c) : c < 57 := by rcases s with ⟨rfl, rfl⟩ | ⟨rfl, rfl⟩ | ⟨rfl, rfl⟩ | ⟨rfl, rfl⟩ | ⟨rfl, rfl⟩ | ⟨rfl, rfl⟩ <;> decide
theorem SH.r {M : Mem} (hG : GR M) {h c : Nat} (s : SH h c) : M h 0 = (c : Int) := by
  rcases s with ⟨rfl, rfl⟩ | ⟨rfl, rfl⟩ | ⟨rfl, rfl⟩ | ⟨rfl, rfl⟩ | ⟨rfl, rfl⟩ | ⟨rfl, rfl⟩
  · exact gr_3_0 hG
  · exact gr_12_0 hG
  · exact gr_20_0 hG
  · exact gr_39_0 hG
  · exact gr_46_0 hG
  · exact gr_55_0 hG
theorem SH.na {h c : Nat} (s : SH h c) : refL.all (fun q => !(q.1 == c)) = true := by rcases s with ⟨rfl, rfl⟩ | ⟨rfl, rfl⟩ | ⟨rfl, rfl⟩ | ⟨rfl, rfl⟩ | ⟨rfl, rfl⟩ | ⟨rfl, rfl⟩ <;> decide +kernel
theorem SH.mc {h c : Nat} (s : SH h c) : c ∈ stC := by rcases s with ⟨rfl, rfl⟩ | ⟨rfl, rfl⟩ | ⟨rfl, rfl⟩ | ⟨rfl, rfl⟩ | ⟨rfl, rfl⟩ | ⟨rfl, rfl⟩ <;> decide
theorem SH.ne {h c k : Nat} (s : SH h c) (hk : k ∉ stC) : c ≠ k := fun e => hk (e ▸ s.mc)
theorem SH.nin {h c : Nat} (s : SH h c) {A : List Nat} (hA : ∀ k ∈ A, k ∉ stC) : c ∉ A := fun e => hA c e s.mc
theorem SH.nB {h c : Nat} (s : SH h c) {B : List (Nat × Int)} (hB : ∀ q ∈ B, q.1 ∉ stC) : ∀ q ∈ B, q.1 ≠ c := fun q hq e => hB q hq (e ▸ s.mc)
theorem sh_3 : SH 3 4 := (.inl ⟨rfl, rfl⟩)
theorem sh_12 : SH 12 13 := (.inr (.inl ⟨rfl, rfl⟩))
theorem sh_20 : SH 20 21 := (.inr (.inr (.inl ⟨rfl, rfl⟩)))
theorem sh_39 : SH 39 40 := (.inr (.inr (.inr (.inl ⟨rfl, rfl⟩))))
theorem sh_46 : SH 46 47 := (.inr (.inr (.inr (.inr (.inl ⟨rfl, rfl⟩)))))
theorem sh_55 : SH 55 56 := (.inr (.inr (.inr (.inr (.inr ⟨rfl, rfl⟩)))))
/-- a Stock's cells are numbers that no sum of them overflows -/
def SB (c : Int → Int) : Prop := (∀ k, 0 ≤ k → k < 123 → 0 ≤ c k ∧ c k ≤ 100000) ∧ c 121 ≤ 5 ∧ c 122 ≤ 6
def subL : List (Option V) → List (Option V) → Prop
  | [], [] => True
  | a :: as, b :: bs => (b = none ∨ b = a) ∧ subL as bs
  | _, _ => False
theorem subL_n : subL [] [] := trivial
theorem subL_c {a : Option V} {as bs : List (Option V)} (h : subL as bs) : subL (a :: as) (a :: bs) := ⟨.inr rfl, h⟩
theorem subL_d {a : Option V} {as bs : List (Option V)} (h : subL as bs) : subL (a :: as) (none :: bs) := ⟨.inl rfl, h⟩
theorem subL_len : ∀ {a b : List (Option V)}, subL a b → b.length = a.length
  | [], [], _ => rfl
  | _ :: _, _ :: _, h => by rw [List.length_cons, List.length_cons, subL_len h.2]
  | [], _ :: _, h => h.elim
  | _ :: _, [], h => h.elim
theorem subL_at : ∀ {a b : List (Option V)}, subL a b → ∀ (i : Nat) (v : V), b[i]? = some (some v) → a[i]? = some (some v)
  | [], [], _, i, v, e => e
  | x :: a, y :: b, h, 0, v, e => by
    rcases h.1 with q | q
    · subst q; cases e
    · subst q; exact e
  | x :: a, y :: b, h, i + 1, v, e => subL_at h.2 i v e
  | [], _ :: _, h, _, _, _ => h.elim
  | _ :: _, [], h, _, _, _ => h.elim
theorem subL_ok : ∀ {a b : List (Option V)}, subL a b → okLs a → okLs b
  | [], [], _, _ => trivial
  | x :: a, y :: b, h, o => by
    rw [okLs_cons] at o ⊢
    refine ⟨fun v e => ?_, subL_ok h.2 o.2⟩
    rcases h.1 with q | q
    · subst q; cases e
    · subst q; exact o.1 v e
  | [], _ :: _, h, _ => h.elim
  | _ :: _, [], h, _ => h.elim
/-! what a Stock's cells tell -/
def offr (c : Int → Int) (x w : Int) : Int := max 0 (c (28 + x * 6 + w) - (if 0 < c (58 + x * 6 + w) ∧ c 118 ≤ c (88 + x * 6 + w) then c (58 + x * 6 + w) else 0))
def inAll (c : Int → Int) (x : Int) : Int := sm (c 122).toNat (fun w => c (28 + x * 6 + w))
def heldAll (c : Int → Int) : Int := sm (c 121).toNat (fun x => inAll c x)
def stor (c : Int → Int) : Int := sm (c 122).toNat (fun w => c (22 + w))
def allOf (c : Int → Int) (w : Int) : Int := c (22 + w) + sm (c 121).toNat (fun x => c (28 + x * 6 + w))
def spr (c : Int → Int) (w : Int) : Int := max 0 (allOf c w - c (16 + w))
def shrt (c : Int → Int) (w : Int) : Int := max 0 (c (16 + w) - allOf c w)
def nee (c : Int → Int) (x : Int) : Int := max 0 (inAll c x - c x)
def mayGo (c : Int → Int) (x w : Int) : Prop := 0 < offr c x w ∧ 0 < spr c w
def whyN (c : Int → Int) (x w : Int) : Int := if c (28 + x * 6 + w) = 0 then 1 else if offr c x w = 0 then 2 else if spr c w = 0 then 3 else 0
def mayGive (c : Int → Int) (x t w : Int) : Prop := x ≠ t ∧ 0 < offr c x w ∧ c (28 + t * 6 + w) < 3 ∧ inAll c t < c t
def maySend (c : Int → Int) (x w : Int) : Prop := 0 < offr c x w ∧ stor c < c 120
/-- a set of numbers below n, as bits -/
noncomputable def bits (n : Nat) (p : Int → Prop) : Int := sm n (fun k => bP (p k) * 2 ^ k.toNat)
theorem bits_bd (p : Int → Prop) : ∀ n : Nat, 0 ≤ bits n p ∧ bits n p < 2 ^ n
  | 0 => by simp [bits, sm]
  | n + 1 => by
    have h := bits_bd p n
    have e : bits (n + 1) p = bits n p + bP (p n) * 2 ^ n := by show sm n _ + _ = _; simp [bits]
    rw [e, Int.pow_succ]
    have hp : (0 : Int) < 2 ^ n := Int.pow_pos (by decide)
    rcases bP_01 (p n) with q | q <;> rw [q] <;> omega
theorem or_pow {a : Int} {n : Nat} (h0 : 0 ≤ a) (h1 : a < 2 ^ n) : ((a.toNat ||| ((2 : Int) ^ n).toNat : Nat) : Int) = a + 2 ^ n := by
  obtain ⟨m, rfl⟩ := Int.eq_ofNat_of_zero_le h0
  have h1' : m < 2 ^ n := by
    have : ((m : Nat) : Int) < ((2 ^ n : Nat) : Int) := by rw [p2c]; exact h1
    exact Int.ofNat_lt.mp this
  have e : ((2 : Int) ^ n).toNat = 2 ^ n := by rw [← p2c]; rfl
  rw [e, Int.toNat_natCast]
  have e2 : m ||| 2 ^ n = m + 2 ^ n := by
    have := Nat.two_pow_add_eq_or_of_lt h1' 1
    rw [Nat.mul_one] at this
    rw [Nat.or_comm, ← this, Nat.add_comm]
  rw [e2, Int.natCast_add, p2c]
theorem bits_t {p : Int → Prop} {i j : Int} (h : 0 ≤ i) (hj : j = i + 1) (hp : p i) : (((bits i.toNat p).toNat ||| ((2 : Int) ^ i.toNat).toNat : Nat) : Int) = bits j.toNat p := by
  have h2 := bits_bd p i.toNat
  rw [or_pow h2.1 h2.2]
  unfold bits
  rw [sm_to h hj, bP_pos hp, Int.one_mul]
theorem bits_f {p : Int → Prop} {i j : Int} (h : 0 ≤ i) (hj : j = i + 1) (hp : ¬ p i) : bits i.toNat p = bits j.toNat p := by
  unfold bits
  rw [sm_to h hj, bP_neg hp, Int.zero_mul, Int.add_zero]
theorem pw_bd {i : Int} (h : 0 ≤ i) (h1 : i < 10) : (1 : Int) ≤ 2 ^ i.toNat ∧ (2 : Int) ^ i.toNat ≤ 512 := by
  have : ∀ n : Nat, n < 10 → (1 : Int) ≤ 2 ^ n ∧ (2 : Int) ^ n ≤ 512 := by decide
  exact this i.toNat (by omega)
theorem bits_b10 (p : Int → Prop) {i : Int} (h : 0 ≤ i) (h1 : i < 10) : 0 ≤ bits i.toNat p ∧ bits i.toNat p ≤ 511 := by
  have h2 := bits_bd p i.toNat
  have := pw_bd h h1
  omega
theorem SB.L {c : Int → Int} (h : SB c) : 0 ≤ c 121 ∧ c 121 ≤ 5 := ⟨(h.1 121 (by decide) (by decide)).1, h.2.1⟩
theorem SB.W {c : Int → Int} (h : SB c) : 0 ≤ c 122 ∧ c 122 ≤ 6 := ⟨(h.1 122 (by decide) (by decide)).1, h.2.2⟩
theorem sm_bd2 {f : Int → Int} {n : Int} {q : Int} (b : Int) (hq : 0 ≤ n) (h : ∀ k : Int, 0 ≤ k → k < n → 0 ≤ f k ∧ f k ≤ b) (hb : 0 ≤ b) (hn : n ≤ q) : 0 ≤ sm n.toNat f ∧ sm n.toNat f ≤ q * b := by
  have h1 := sm_bd n.toNat (fun k a c => h k a (by omega))
  have : (n.toNat : Int) * b ≤ q * b := Int.mul_le_mul_of_nonneg_right (by omega) hb
  omega
theorem inAll_bd {c : Int → Int} (h : SB c) {x : Int} (h0 : 0 ≤ x) (h1 : x < 5) : 0 ≤ inAll c x ∧ inAll c x ≤ 600000 :=
  sm_bd2 (q := 6) 100000 h.W.1 (fun k a b => h.1 _ (by omega) (by have := h.W.2; omega)) (by decide) h.W.2
theorem heldAll_bd {c : Int → Int} (h : SB c) : 0 ≤ heldAll c ∧ heldAll c ≤ 3000000 :=
  sm_bd2 (q := 5) 600000 h.L.1 (fun k a b => inAll_bd h a (by have := h.L.2; omega)) (by decide) h.L.2
theorem stor_bd {c : Int → Int} (h : SB c) : 0 ≤ stor c ∧ stor c ≤ 600000 :=
  sm_bd2 (q := 6) 100000 h.W.1 (fun k a b => h.1 _ (by omega) (by have := h.W.2; omega)) (by decide) h.W.2
theorem allOf_bd {c : Int → Int} (h : SB c) {w : Int} (h0 : 0 ≤ w) (h1 : w < 6) : 0 ≤ allOf c w ∧ allOf c w ≤ 600000 := by
  have h2 := sm_bd2 (f := fun x => c (28 + x * 6 + w)) (q := 5) 100000 h.L.1 (fun k a b => h.1 _ (by omega) (by have := h.L.2; omega)) (by decide) h.L.2
  have h3 := h.1 (22 + w) (by omega) (by omega)
  unfold allOf
  omega
theorem spr_bd {c : Int → Int} (h : SB c) {w : Int} (h0 : 0 ≤ w) (h1 : w < 6) : 0 ≤ spr c w ∧ spr c w ≤ 600000 := by
  have h2 := allOf_bd h h0 h1
  have h3 := h.1 (16 + w) (by omega) (by omega)
  unfold spr
  omega
theorem shrt_bd {c : Int → Int} (h : SB c) {w : Int} (h0 : 0 ≤ w) (h1 : w < 6) : 0 ≤ shrt c w ∧ shrt c w ≤ 100000 := by
  have h2 := allOf_bd h h0 h1
  have h3 := h.1 (16 + w) (by omega) (by omega)
  unfold shrt
  omega
theorem nee_bd {c : Int → Int} (h : SB c) {x : Int} (h0 : 0 ≤ x) (h1 : x < 5) : 0 ≤ nee c x ∧ nee c x ≤ 600000 := by
  have h2 := inAll_bd h h0 h1
  have h3 := h.1 x (by omega) (by omega)
  unfold nee
  omega
theorem offr_bd {c : Int → Int} (h : SB c) {x w : Int} (h0 : 0 ≤ x) (h1 : x < 5) (h2 : 0 ≤ w) (h3 : w < 6) : 0 ≤ offr c x w ∧ offr c x w ≤ 100000 := by
  have h4 := h.1 (28 + x * 6 + w) (by omega) (by omega)
  have h5 := h.1 (58 + x * 6 + w) (by omega) (by omega)
  unfold offr
  split <;> omega
section RULES2
variable {G : Gl} {S : Sh} {C : Cx} {Z : State → Prop} {k w n : Nat} {pc : Nat} {ls : List (Option V)} {st : List V} {M : Mem} {y : Mt}
theorem i_max {a b : Int} (ha : inI a) (hb : inI b) : (if Int32.ofInt a < Int32.ofInt b then Int32.ofInt b else Int32.ofInt a) = Int32.ofInt (max a b) := by
  by_cases h : a < b
  · rw [if_pos ((i_lt ha hb).mpr h), Int.max_eq_right (Int.le_of_lt h)]
  · rw [if_neg (fun q => h ((i_lt ha hb).mp q)), Int.max_eq_left (Int.not_lt.mp h)]
theorem i_min {a b : Int} (ha : inI a) (hb : inI b) : (if Int32.ofInt b < Int32.ofInt a then Int32.ofInt b else Int32.ofInt a) = Int32.ofInt (min a b) := by
  by_cases h : b < a
  · rw [if_pos ((i_lt hb ha).mpr h), Int.min_eq_right (Int.le_of_lt h)]
  · rw [if_neg (fun q => h ((i_lt hb ha).mp q)), Int.min_eq_left (Int.not_lt.mp h)]

section W_
theorem w_max_s : Cond.static Lib.Math.max.name ∈ Ts := Ts_in (in_t2 _ (List.mem_of_getElem? (i := 219) rfl)) rfl
theorem w_min_s : Cond.static Lib.Math.min.name ∈ Ts := Ts_in (in_t3 _ (List.mem_of_getElem? (i := 7) rfl)) rfl
theorem w_math_i : Cond.initialized "java/lang/Math" ∈ Ts := Ts_in (in_t1 _ (List.mem_of_getElem? (i := 18) rfl)) rfl
theorem w_max_c : Cond.code Lib.Math.max.name Lib.Math.max.code 2 (some .int) ∈ Ts := Ts_in (in_t2 _ (List.mem_of_getElem? (i := 220) rfl)) rfl
theorem w_min_c : Cond.code Lib.Math.min.name Lib.Math.min.code 2 (some .int) ∈ Ts := Ts_in (in_t3 _ (List.mem_of_getElem? (i := 8) rfl)) rfl
theorem w_copy_n : Cond.native arraycopyName ∈ Ts := Ts_in (in_t3 _ (List.mem_of_getElem? (i := 142) rfl)) rfl
theorem w_copy_s : Cond.static arraycopyName ∈ Ts := Ts_in (in_t3 _ (List.mem_of_getElem? (i := 141) rfl)) rfl
theorem w_sys_i : Cond.initialized "java/lang/System" ∈ Ts := Ts_in (in_t1 _ (List.mem_of_getElem? (i := 20) rfl)) rfl
theorem jl_0_29 : Cond.methodLink RX0 29 arraycopyName ∈ Ts := Ts_in (in_t4 _ (List.mem_of_getElem? (i := 91) rfl)) rfl
theorem jl_3_92 : Cond.methodLink RX3 92 Lib.Math.min.name ∈ Ts := Ts_in (in_t3 _ (List.mem_of_getElem? (i := 204) rfl)) rfl
theorem jl_4_96 : Cond.methodLink RX4 96 Lib.Math.max.name ∈ Ts := Ts_in (in_t6 _ (List.mem_of_getElem? (i := 189) rfl)) rfl
theorem jl_4_107 : Cond.methodLink RX4 107 Lib.Math.min.name ∈ Ts := Ts_in (in_t6 _ (List.mem_of_getElem? (i := 212) rfl)) rfl
theorem jl_5_70 : Cond.methodLink RX5 70 Lib.Math.min.name ∈ Ts := Ts_in (in_t3 _ (List.mem_of_getElem? (i := 74) rfl)) rfl
theorem jl_5_79 : Cond.methodLink RX5 79 Lib.Math.max.name ∈ Ts := Ts_in (in_t3 _ (List.mem_of_getElem? (i := 79) rfl)) rfl
theorem jl_6_55 : Cond.methodLink RX6 55 Lib.Math.min.name ∈ Ts := Ts_in (in_t3 _ (List.mem_of_getElem? (i := 6) rfl)) rfl
theorem jl_6_75 : Cond.methodLink RX6 75 Lib.Math.max.name ∈ Ts := Ts_in (in_t3 _ (List.mem_of_getElem? (i := 22) rfl)) rfl
theorem jl_7_43 : Cond.methodLink RX7 43 arraycopyName ∈ Ts := Ts_in (in_t4 _ (List.mem_of_getElem? (i := 92) rfl)) rfl
theorem jl_8_15 : Cond.methodLink RX8 15 arraycopyName ∈ Ts := Ts_in (in_t3 _ (List.mem_of_getElem? (i := 140) rfl)) rfl
theorem jl_8_52 : Cond.methodLink RX8 52 Lib.Math.max.name ∈ Ts := Ts_in (in_t2 _ (List.mem_of_getElem? (i := 218) rfl)) rfl
theorem jl_9_19 : Cond.methodLink RX9 19 Lib.Math.min.name ∈ Ts := Ts_in (in_t4 _ (List.mem_of_getElem? (i := 182) rfl)) rfl
theorem jl_10_68 : Cond.methodLink RX10 68 arraycopyName ∈ Ts := Ts_in (in_t3 _ (List.mem_of_getElem? (i := 229) rfl)) rfl
theorem jl_10_86 : Cond.methodLink RX10 86 Lib.Math.min.name ∈ Ts := Ts_in (in_t3 _ (List.mem_of_getElem? (i := 235) rfl)) rfl
end W_
theorem R_weak {ls' : List (Option V)} (h : subL ls ls') (kk : RZ G S C Z k w n pc ls' st M) : RZ G S C Z k w n pc ls st M :=
  fun H locs ar hp hs hm hl hv ha => kk H locs ar hp hs hm (subL_ok h hl) hv ⟨ha.1, by rw [subL_len h]; exact ha.2.1, ha.2.2.1, fun i v e => ha.2.2.2 i v (subL_at h i v e)⟩
theorem inI_pw {b : Int} (h0 : 0 ≤ b) (h1 : b < 31) : inI (2 ^ b.toNat) := by
  have : ∀ n : Nat, n < 31 → (0 : Int) ≤ 2 ^ n ∧ (2 : Int) ^ n ≤ 2147483647 := by decide +kernel
  have := this b.toNat (by omega)
  exact ⟨by omega, this.2⟩
theorem R_shl1 (hC : CxOK G y C) {b : Int} (hd : decode y.2.1 pc = .ok (.ishl, 1)) (h0 : 0 ≤ b) (h1 : b < 31) (kk : RZ G S C Z k w n (pc + 1) ls (vI (2 ^ b.toNat) :: st) M) : RZ G S C Z k w n pc ls (vI b :: vI 1 :: st) M := by
  refine R_ishl hC hd h0 (by omega) (by rw [Int.one_mul]; exact inI_pw h0 h1) ?_
  rw [Int.one_mul]
  exact kk
theorem R_max (hC : CxOK G y C) {idx : Nat} {a b : Int} (hd : decode y.2.1 pc = .ok (.invokestatic idx, 3)) (hlk : Cond.methodLink y.1.cls idx Lib.Math.max.name ∈ Ts)
    {d' : Nat} (hR : RmOK C d') (hdd : 1 ≤ d') (hcat : (st.map vcat).sum ≤ 8) (kk : RZ G S C Z 0 0 n (pc + 3) ls (vI (max a b) :: st) M) : RZ G S C Z 0 0 n pc ls (vI b :: vI a :: st) M := by
  intro H locs ar hp hs hm hl hv ha
  refine va_mmax hC.1 hC.2.1 ha.1.symm hC.2.2.2.1 (hC.2.2.2.2.1 _ hlk) (hC.2.2.2.2.1 _ w_max_s) (hC.2.2.2.2.1 _ w_math_i) (hC.2.2.2.2.1 _ w_max_c) (Nat.le_trans hdd hR.1) (by rw [enc_cats]; have := hR.2; omega) (Nat.zero_le _) (Nat.zero_le _) hd ?_
  rw [i_max hv.2.1 hv.1]
  exact kk H locs ar hp hs hm hl ⟨by rw [Int.max_def]; split; exact hv.1; exact hv.2.1, hv.2.2⟩ ha
theorem R_min (hC : CxOK G y C) {idx : Nat} {a b : Int} (hd : decode y.2.1 pc = .ok (.invokestatic idx, 3)) (hlk : Cond.methodLink y.1.cls idx Lib.Math.min.name ∈ Ts)
    {d' : Nat} (hR : RmOK C d') (hdd : 1 ≤ d') (hcat : (st.map vcat).sum ≤ 8) (kk : RZ G S C Z 0 0 n (pc + 3) ls (vI (min a b) :: st) M) : RZ G S C Z 0 0 n pc ls (vI b :: vI a :: st) M := by
  intro H locs ar hp hs hm hl hv ha
  refine va_mmin hC.1 hC.2.1 ha.1.symm hC.2.2.2.1 (hC.2.2.2.2.1 _ hlk) (hC.2.2.2.2.1 _ w_min_s) (hC.2.2.2.2.1 _ w_math_i) (hC.2.2.2.2.1 _ w_min_c) (Nat.le_trans hdd hR.1) (by rw [enc_cats]; have := hR.2; omega) (Nat.zero_le _) (Nat.zero_le _) hd ?_
  rw [i_min hv.2.1 hv.1]
  exact kk H locs ar hp hs hm hl ⟨by rw [Int.min_def]; split; exact hv.2.1; exact hv.1, hv.2.2⟩ ha
theorem i_n0 {a : Int} (ha : inI a) (h : 0 ≤ a) : ¬ Int32.ofInt a < 0 := fun q => by
  have := (i_lt (b := 0) ha ⟨by decide, by decide⟩).mp q
  omega
theorem R_copyI (hC : CxOK G y C) {idx hs hd' N0 N1 : Nat} {sp dp m : Int} (hd : decode y.2.1 pc = .ok (.invokestatic idx, 3)) (hlk : Cond.methodLink y.1.cls idx arraycopyName ∈ Ts)
    (hh : hs < n) (hk : S.1 hs = (20, N0)) (hh1 : hd' < n) (hk1 : S.1 hd' = (20, N1)) (h1 : 0 ≤ sp) (h2 : 0 ≤ dp) (h3 : 0 ≤ m) (h4 : sp + m ≤ N0) (h5 : dp + m ≤ N1)
    {d' : Nat} (hR : RmOK C d') (hdd : 1 ≤ d') (hcat : (st.map vcat).sum ≤ 8) (kk : RZ G S C Z 0 0 n (pc + 3) ls st (cpM M hd' dp hs sp m)) : RZ G S C Z 0 0 n pc ls (vI m :: vI dp :: vR hd' :: vI sp :: vR hs :: st) M := by
  intro H locs ar hp hs' hm hl hv ha
  have i1 := hv.2.2.2.1
  have i2 := hv.2.1
  have i3 := hv.1
  have es : (wsM G S n M).set hd' (G.1 hd', .inl (G.2.2.2 20, N1, .inl (va_cpy (fun j => Int32.ofInt (M hs (j : Nat))) (fun j => Int32.ofInt (M hd' (j : Nat))) (Int32.ofInt sp).toNatClampNeg (Int32.ofInt dp).toNatClampNeg (Int32.ofInt m).toNatClampNeg))) = wsM G S n (cpM M hd' dp hs sp m) := by
    have e : ent G S (cpM M hd' dp hs sp m) hd' = .inl (G.2.2.2 20, N1, .inl (va_cpy (fun j => Int32.ofInt (M hs (j : Nat))) (fun j => Int32.ofInt (M hd' (j : Nat))) (Int32.ofInt sp).toNatClampNeg (Int32.ofInt dp).toNatClampNeg (Int32.ofInt m).toNatClampNeg)) := by
      rw [ent_arr hk1 (by decide) (by decide), i_cl i1, i_cl i2, i_cl i3]
      refine congrArg (fun f => (Sum.inl (G.2.2.2 20, N1, Sum.inl f) : va_E)) (funext fun j => ?_)
      unfold va_cpy cpM
      by_cases e : dp.toNat ≤ j ∧ j < dp.toNat + m.toNat
      · rw [if_pos e, if_pos ⟨rfl, by omega, by omega⟩]
        congr 2
        omega
      · rw [if_neg e, if_neg (fun q => e ⟨by omega, by omega⟩)]
    rw [← e]
    refine wsM_set (fun h' e => ?_)
    unfold ent
    rw [cpM_ne e]
  refine va_copyi (D := G.2.2.1) (cl := vwCl) (tys := tysG G) hC.1 hC.2.1 ha.1.symm hC.2.2.2.1 (hC.2.2.2.2.1 _ hlk) (hC.2.2.2.2.1 _ w_copy_n) (hC.2.2.2.2.1 _ w_copy_s) (hC.2.2.2.2.1 _ w_sys_i) hC.2.2.2.2.2.1.1 hp.1 hp.2 hs' hs hd' 0 0
    ((wsM_at hh).trans (by rw [ent_arr hk (by decide) (by decide)])) ((wsM_at hh1).trans (by rw [ent_arr hk1 (by decide) (by decide)])) rfl rfl rfl (i_n0 i1 h1) (i_n0 i2 h2) (i_n0 i3 h3) (by rw [i_cl i1, i_cl i3]; omega) (by rw [i_cl i2, i_cl i3]; omega) (fun _ _ => rfl)
    (Nat.le_trans hdd hR.1) (by rw [enc_cats]; have := hR.2; show _ + (5 + 11 + 0) ≤ _; omega) hd (fun H1 l1 e1 e2 e3 => ?_)
  rw [es] at e1 e2
  refine kk H1 l1 ar ⟨e1, e2⟩ e3 ?_ hl hv.2.2.2.2.2 ha
  intro h' k'
  unfold cpM
  by_cases e : h' = hd' ∧ dp ≤ k' ∧ k' < dp + m
  · rw [if_pos e, e.1, hk1, if_neg (show ¬ (20 = 21) by decide)]
    exact okM_I hm _ hk (by decide)
  · rw [if_neg e]
    exact hm h' k'
theorem R_copyL (hC : CxOK G y C) {idx hs hd' N0 N1 : Nat} {sp dp m : Int} (hd : decode y.2.1 pc = .ok (.invokestatic idx, 3)) (hlk : Cond.methodLink y.1.cls idx arraycopyName ∈ Ts)
    (hh : hs < n) (hk : S.1 hs = (21, N0)) (hh1 : hd' < n) (hk1 : S.1 hd' = (21, N1)) (h1 : 0 ≤ sp) (h2 : 0 ≤ dp) (h3 : 0 ≤ m) (h4 : sp + m ≤ N0) (h5 : dp + m ≤ N1)
    {d' : Nat} (hR : RmOK C d') (hdd : 1 ≤ d') (hcat : (st.map vcat).sum ≤ 8) (kk : RZ G S C Z 0 0 n (pc + 3) ls st (cpM M hd' dp hs sp m)) : RZ G S C Z 0 0 n pc ls (vI m :: vI dp :: vR hd' :: vI sp :: vR hs :: st) M := by
  intro H locs ar hp hs' hm hl hv ha
  have i1 := hv.2.2.2.1
  have i2 := hv.2.1
  have i3 := hv.1
  have es : (wsM G S n M).set hd' (G.1 hd', .inl (G.2.2.2 21, N1, .inr (.inl (va_cpy (fun j => Int64.ofInt (M hs (j : Nat))) (fun j => Int64.ofInt (M hd' (j : Nat))) (Int32.ofInt sp).toNatClampNeg (Int32.ofInt dp).toNatClampNeg (Int32.ofInt m).toNatClampNeg)))) = wsM G S n (cpM M hd' dp hs sp m) := by
    have e : ent G S (cpM M hd' dp hs sp m) hd' = .inl (G.2.2.2 21, N1, .inr (.inl (va_cpy (fun j => Int64.ofInt (M hs (j : Nat))) (fun j => Int64.ofInt (M hd' (j : Nat))) (Int32.ofInt sp).toNatClampNeg (Int32.ofInt dp).toNatClampNeg (Int32.ofInt m).toNatClampNeg))) := by
      rw [ent_arrL hk1, i_cl i1, i_cl i2, i_cl i3]
      refine congrArg (fun f => (Sum.inl (G.2.2.2 21, N1, Sum.inr (Sum.inl f)) : va_E)) (funext fun j => ?_)
      unfold va_cpy cpM
      by_cases e : dp.toNat ≤ j ∧ j < dp.toNat + m.toNat
      · rw [if_pos e, if_pos ⟨rfl, by omega, by omega⟩]
        congr 2
        omega
      · rw [if_neg e, if_neg (fun q => e ⟨by omega, by omega⟩)]
    rw [← e]
    refine wsM_set (fun h' e => ?_)
    unfold ent
    rw [cpM_ne e]
  refine va_copyl (D := G.2.2.1) (cl := vwCl) (tys := tysG G) hC.1 hC.2.1 ha.1.symm hC.2.2.2.1 (hC.2.2.2.2.1 _ hlk) (hC.2.2.2.2.1 _ w_copy_n) (hC.2.2.2.2.1 _ w_copy_s) (hC.2.2.2.2.1 _ w_sys_i) hC.2.2.2.2.2.1.1 hp.1 hp.2 hs' hs hd' 1 1
    ((wsM_at hh).trans (by rw [ent_arrL hk])) ((wsM_at hh1).trans (by rw [ent_arrL hk1])) rfl rfl rfl (i_n0 i1 h1) (i_n0 i2 h2) (i_n0 i3 h3) (by rw [i_cl i1, i_cl i3]; omega) (by rw [i_cl i2, i_cl i3]; omega) (fun _ _ => rfl)
    (Nat.le_trans hdd hR.1) (by rw [enc_cats]; have := hR.2; show _ + (5 + 11 + 0) ≤ _; omega) hd (fun H1 l1 e1 e2 e3 => ?_)
  rw [es] at e1 e2
  refine kk H1 l1 ar ⟨e1, e2⟩ e3 ?_ hl hv.2.2.2.2.2 ha
  intro h' k'
  unfold cpM
  by_cases e : h' = hd' ∧ dp ≤ k' ∧ k' < dp + m
  · rw [if_pos e, e.1, hk1, if_pos rfl]
    exact okM_L hm _ hk
  · rw [if_neg e]
    exact hm h' k'
theorem R_ialoadE (hC : CxOK G y C) {h N : Nat} {i v : Int} (hd : decode y.2.1 pc = .ok (.iaload, 1)) (hh : h < n) (hk : S.1 h = (20, N)) (h0 : 0 ≤ i) (h1 : i < N) (e : M h i = v) (kk : RZ G S C Z k w n (pc + 1) ls (vI v :: st) M) : RZ G S C Z k w n pc ls (vI i :: vR h :: st) M := by
  subst e
  exact R_iaload hC hd hh hk h0 h1 kk
theorem R_baloadE (hC : CxOK G y C) {h N : Nat} {i v : Int} (hd : decode y.2.1 pc = .ok (.baload, 1)) (hh : h < n) (hk : S.1 h = (22, N)) (h0 : 0 ≤ i) (h1 : i < N) (e : M h i = v) (kk : RZ G S C Z k w n (pc + 1) ls (vI v :: st) M) : RZ G S C Z k w n pc ls (vI i :: vR h :: st) M := by
  subst e
  exact R_baload hC hd hh hk h0 h1 kk
theorem R_zaloadE (hC : CxOK G y C) {h N : Nat} {i v : Int} (hd : decode y.2.1 pc = .ok (.baload, 1)) (hh : h < n) (hk : S.1 h = (23, N)) (h0 : 0 ≤ i) (h1 : i < N) (e : M h i = v) (kk : RZ G S C Z k w n (pc + 1) ls (vI v :: st) M) : RZ G S C Z k w n pc ls (vI i :: vR h :: st) M := by
  subst e
  exact R_zaload hC hd hh hk h0 h1 kk
theorem R_laloadE (hC : CxOK G y C) {h N : Nat} {i v : Int} (hd : decode y.2.1 pc = .ok (.laload, 1)) (hh : h < n) (hk : S.1 h = (21, N)) (h0 : 0 ≤ i) (h1 : i < N) (e : M h i = v) (kk : RZ G S C Z k w n (pc + 1) ls (vL v :: st) M) : RZ G S C Z k w n pc ls (vI i :: vR h :: st) M := by
  subst e
  exact R_laload hC hd hh hk h0 h1 kk
theorem R_getIE (hC : CxOK G y C) {h ci f t idx N : Nat} {fin : Bool} (hd : decode y.2.1 pc = .ok (.getfield idx, 3)) (hf : FL y.1.cls idx ci f t fin) (hh : h < n) (hk : S.1 h = (ci, N)) (hfN : f < N) (hS : S.2 ci f < 2) {fi : Int} (hfi : (f : Int) = fi) {v : Int} (e : M h fi = v) (kk : RZ G S C Z k w n (pc + 3) ls (vI v :: st) M) : RZ G S C Z k w n pc ls (vR h :: st) M := by
  subst e
  exact R_getI hC hd hf hh hk hfN hS hfi kk
end RULES2

