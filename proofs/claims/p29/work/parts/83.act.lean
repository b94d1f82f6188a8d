/-! the law's acts -/
/-- the references of the class's world are as they were -/
def RR (M M' : Mem) : Prop := ∀ h k : Nat, h < 57 → (LY.1 h).1 < 14 → 2 ≤ LY.2 (LY.1 h).1 k → M' h k = M h k
def rrOK (A : List Nat) (B : List (Nat × Int)) : Bool := A.all (fun a => decide (14 ≤ (LY.1 a).1)) && B.all (fun p => decide (14 ≤ (LY.1 p.1).1) || decide (LY.2 (LY.1 p.1).1 p.2.toNat < 2))
theorem RR.fr {A : List Nat} {B : List (Nat × Int)} {M M' : Mem} (hF : Fr A B M M') (c : rrOK A B = true) : RR M M' := fun h k h57 c1 t => by
  unfold rrOK at c
  rw [Bool.and_eq_true] at c
  refine hF h k (fun ha => ?_) (fun hb => ?_)
  · have := of_decide_eq_true (List.all_eq_true.mp c.1 h ha)
    omega
  · have z := List.all_eq_true.mp c.2 _ hb
    rw [Bool.or_eq_true] at z
    rcases z with z | z
    · have z3 : 14 ≤ (LY.1 h).1 := of_decide_eq_true z
      omega
    · have z3 : LY.2 (LY.1 h).1 k < 2 := of_decide_eq_true z
      omega
theorem RB.rr {S : Sh} {n : Nat} {M M' : Mem} (rb : RB S n M) (e : EX S n) (h : RR M M') : RB S n (mg M M') := fun a k hh c t => by
  by_cases h57 : a < 57
  · rw [mg_lo h57]
    have c2 := c
    have t2 := t
    rw [e.2.1 a h57] at c2
    rw [e.2.1 a h57, e.2.2.1] at t2
    rw [h a k h57 c2 t2]
    exact rb a k hh c t
  · rw [mg_hi (by omega)]
    exact rb a k hh c t
def ACTP (L W : Int) (d0 : Int → Int) (M : Mem) (d : Int → Int) (n : Int) (s : Int → Int → Int) (r : Int) (v : Int) (M' : Mem) : Prop := RR M M' ∧ ((v ≠ -1 ∧ ∃ e, CI L W d0 M' e (n + 1) (sn n s d) r) ∨ (v = -1 ∧ CI L W d0 M' d n s (r + 1)))
section ACTL
variable {L W : Int} {d0 : Int → Int} {M M' : Mem} {d : Int → Int} {n r : Int} {s : Int → Int → Int}
theorem act_m {P : Prop} {p b q c vv v V : Int} {e : Int → Int} (h : CI L W d0 M d n s r) (hn : 0 ≤ n ∧ n < 40) (hv : (P ∧ ACTC M M' 0 n p b q c vv e ∧ v = V) ∨ (¬ P ∧ REFC M M' d 1 ∧ v = -1))
    (hp : P → V ≠ -1 ∧ (wdR (ub p b q c e) vv 1 = d ∧ SB (ub p b q c e)) ∧ PQ L W e ∧ e 119 ≤ d 119 + 90) : ACTP L W d0 M d n s r v M' := by
  rcases hv with ⟨p1, ha, rfl⟩ | ⟨_, hr, rfl⟩
  · obtain ⟨h1, ⟨h2, h3⟩, h4, h5⟩ := hp p1
    exact ⟨RR.fr ha.1 (by decide +kernel), .inl ⟨h1, e, h.act hn ha h2 h3 h4 h5⟩⟩
  · exact ⟨RR.fr hr.1 (by decide +kernel), .inr ⟨rfl, h.ref hr⟩⟩
theorem PQ.up {e : Int → Int} (h : PQ L W d) (hs : SP e) (h1 : e 121 = d 121) (h2 : e 122 = d 122) (h0 : e 120 = d 120) (hk : ∀ w, 0 ≤ w → w < 6 → e (22 + w) = d (22 + w)) : PQ L W e := by
  obtain ⟨a, b, c, z⟩ := h
  refine ⟨hs, h1.trans b, h2.trans c, ?_⟩
  rw [h0]
  have : stor e = stor d := by
    unfold stor
    rw [h2]
    exact sm_congr _ (fun k k0 k1 => hk k k0 (by have := a.1.2.2; omega))
  omega
theorem PQ.u {k v : Int} (h : PQ L W d) (hs : SP (upd1 d k v)) (hk : (k < 22 ∨ 28 ≤ k) ∧ k ≠ 120 ∧ k ≠ 121 ∧ k ≠ 122) : PQ L W (upd1 d k v) :=
  h.up hs (upd1_o (by omega)) (upd1_o (by omega)) (upd1_o (by omega)) (fun w a b => upd1_o (by omega))
theorem PQ.co (h : PQ L W d) {v : Int} (v0 : 0 ≤ v) (v1 : v ≤ 90000) : PQ L W (upd1 (coP d) 119 v) := by
  have z : ∀ k, k ≠ 119 → ¬ (28 ≤ k ∧ k < 58) → upd1 (coP d) 119 v k = d k := fun k a b => (upd1_o a).trans (if_neg b)
  exact h.up (h.1.coPp v0 v1) (z _ (by decide) (by decide)) (z _ (by decide) (by decide)) (z _ (by decide) (by decide)) (fun w a b => z _ (by omega) (by omega))
section ACTC_
variable {G : Gl} {l : Launch}
theorem CI.cf (h : CI L W d0 M d n s r) : GR M ∧ M 4 = d ∧ SP d ∧ M 5 3 = 0 ∧ M 5 4 = n ∧ FP M d ∧ M 10 1 = r ∧ PQ L W d ∧ d 119 ≤ 90 * n := ⟨h.1.1, h.1.2.1, h.2.1.1.1, h.2.2.1.1, h.2.2.1.2.1, h.1.2.2, h.2.2.2.2.1, h.2.1⟩
theorem a_own {x w m : Int} (h : CI L W d0 M d n s r) (hn : 0 ≤ n ∧ n < 40) (hr : 0 ≤ r ∧ r ≤ 1000) : Ct G LY 57 l 3 m11_own [vR 0, vI x, vI w, vI m] M (RP (ACTP L W d0 M d n s r)) := by
  obtain ⟨g1, g2, g3, g4, g5, g6, g7, g8, g9⟩ := h.cf
  refine (c11_own g1 g2 g3 g4 (by decide) (by decide) g5 hn.1 (by omega) g6 (by omega) (by omega)).mono (fun o M' hq => ?_)
  obtain ⟨v, rfl, hq⟩ := hq
  refine ⟨v, rfl, act_m h hn hq (fun hp => ?_)⟩
  obtain ⟨⟨⟨x0, x1⟩, w0, w1⟩, ⟨m0, m1⟩, hne⟩ := hp
  have a5 := g3.1
  have hh := g3.h x0 (by omega) w0 (show w < 6 by omega)
  exact ⟨by omega, ub1 g3 (by omega) (by omega), g8.u (g3.of (by omega)) (by omega), by rw [u119 (by omega)]; omega⟩
theorem a_promise {x w m y : Int} (h : CI L W d0 M d n s r) (hn : 0 ≤ n ∧ n < 40) (hr : 0 ≤ r ∧ r ≤ 1000) : Ct G LY 57 l 3 m11_promise [vR 0, vI x, vI w, vI m, vI y] M (RP (ACTP L W d0 M d n s r)) := by
  obtain ⟨g1, g2, g3, g4, g5, g6, g7, g8, g9⟩ := h.cf
  refine (c11_promise g1 g2 g3 g4 (by decide) (by decide) g5 hn.1 (by omega) g6 (by omega) (by omega)).mono (fun o M' hq => ?_)
  obtain ⟨v, rfl, hq⟩ := hq
  refine ⟨v, rfl, act_m h hn hq (fun hp => ?_)⟩
  obtain ⟨⟨⟨x0, x1⟩, w0, w1⟩, ⟨m0, m1⟩, hy, _⟩ := hp
  have a5 := g3.1
  have hh := g3.h x0 (by omega) w0 (show w < 6 by omega)
  have hyb : 0 ≤ (if m = 0 then (0 : Int) else y) ∧ (if m = 0 then (0 : Int) else y) ≤ 60 := by
    split
    · decide
    · exact hy (by omega)
  have s1 := g3.of (k := 58 + (x * 6 + w)) (v := m) (by omega)
  exact ⟨by omega, ub2 g3 (by omega) (by omega) (by omega) (by omega), (g8.u s1 (by omega)).u (s1.of (by omega)) (by omega), by rw [u119 (by omega), u119 (by omega)]; omega⟩
theorem a_keep {w m : Int} (h : CI L W d0 M d n s r) (hn : 0 ≤ n ∧ n < 40) (hr : 0 ≤ r ∧ r ≤ 1000) : Ct G LY 57 l 3 m11_keep [vR 0, vI w, vI m] M (RP (ACTP L W d0 M d n s r)) := by
  obtain ⟨g1, g2, g3, g4, g5, g6, g7, g8, g9⟩ := h.cf
  refine (c11_keep g1 g2 g3 g4 (by decide) (by decide) g5 hn.1 (by omega) g6 (by omega) (by omega)).mono (fun o M' hq => ?_)
  obtain ⟨v, rfl, hq⟩ := hq
  refine ⟨v, rfl, act_m h hn hq (fun hp => ?_)⟩
  obtain ⟨⟨w0, w1⟩, m0, m1⟩ := hp
  have a5 := g3.1
  have hh := g3.2.2.1 w w0 (by omega)
  exact ⟨by omega, ub1 g3 (by omega) (by omega), g8.u (g3.of (by omega)) (by omega), by rw [u119 (by omega)]; omega⟩
theorem a_room {x y m : Int} (h : CI L W d0 M d n s r) (hn : 0 ≤ n ∧ n < 40) (hr : 0 ≤ r ∧ r ≤ 1000) : Ct G LY 57 l 3 m11_room [vR 0, vI x, vI y, vI m] M (RP (ACTP L W d0 M d n s r)) := by
  obtain ⟨g1, g2, g3, g4, g5, g6, g7, g8, g9⟩ := h.cf
  refine (c11_room g1 g2 g3 g4 (by decide) (by decide) g5 hn.1 (by omega) g6 (by omega) (by omega)).mono (fun o M' hq => ?_)
  obtain ⟨v, rfl, hq⟩ := hq
  refine ⟨v, rfl, act_m h hn hq (fun hp => ?_)⟩
  obtain ⟨⟨x0, x1⟩, ⟨y0, y1⟩, m0, m1⟩ := hp
  have a5 := g3.1
  have hh := g3.2.1 x x0 (by omega)
  have hk : (if y = 0 then (0 : Int) else 5) = 0 ∨ (if y = 0 then (0 : Int) else 5) = 5 := by split <;> simp
  have hv : 0 ≤ d ((if y = 0 then (0 : Int) else 5) + x) := by
    rcases hk with e | e <;> rw [e]
    · rw [show (0 : Int) + x = x by omega]
      exact hh.1.1
    · exact hh.2.1
  exact ⟨by omega, ub1 g3 (by omega) (by omega), g8.u (g3.of (by omega)) (by omega), by rw [u119 (by omega)]; omega⟩
theorem a_go {x w : Int} (h : CI L W d0 M d n s r) (hn : 0 ≤ n ∧ n < 40) (hr : 0 ≤ r ∧ r ≤ 1000) : Ct G LY 57 l 3 m11_go [vR 0, vI x, vI w] M (RP (ACTP L W d0 M d n s r)) := by
  obtain ⟨g1, g2, g3, g4, g5, g6, g7, g8, g9⟩ := h.cf
  refine (c11_go g1 g2 g3 g4 (by decide) (by decide) g5 hn.1 (by omega) g6 (by omega) (by omega) (by omega)).mono (fun o M' hq => ?_)
  obtain ⟨v, rfl, hq⟩ := hq
  refine ⟨v, rfl, act_m h hn hq (fun hp => ?_)⟩
  obtain ⟨⟨⟨x0, x1⟩, w0, w1⟩, ho, hs⟩ := hp
  have a5 := g3.1
  have hh := g3.h x0 (by omega) w0 (show w < 6 by omega)
  have hf := g3.off x0 (show x < 5 by omega) w0 (show w < 6 by omega)
  have h9 := g3.2.2.2.2.1.2.1
  have hx := hh.1
  rw [show 28 + x * 6 + w = 28 + (x * 6 + w) by omega] at hx hf
  have s1 := g3.of (k := 28 + (x * 6 + w)) (v := d (28 + (x * 6 + w)) - 1) (by omega)
  have s2 := s1.of (k := 119) (v := d 119 + 1) (by omega)
  refine ⟨?_, ub2 g3 (by omega) (by omega) (by decide) (by decide), (g8.u s1 (by omega)).u s2 (by omega), ?_⟩
  · have := (s2.sr w0 (show w < 6 by omega)).1
    omega
  · rw [upd1_e]
    omega
theorem a_give {x t w : Int} (h : CI L W d0 M d n s r) (hn : 0 ≤ n ∧ n < 40) (hr : 0 ≤ r ∧ r ≤ 1000) : Ct G LY 57 l 3 m11_give [vR 0, vI x, vI t, vI w] M (RP (ACTP L W d0 M d n s r)) := by
  obtain ⟨g1, g2, g3, g4, g5, g6, g7, g8, g9⟩ := h.cf
  refine (c11_give g1 g2 g3 g4 (by decide) (by decide) g5 hn.1 (by omega) g6 (by omega) (by omega)).mono (fun o M' hq => ?_)
  obtain ⟨v, rfl, hq⟩ := hq
  refine ⟨v, rfl, act_m h hn hq (fun hp => ?_)⟩
  obtain ⟨⟨⟨x0, x1⟩, w0, w1⟩, ⟨t0, t1⟩, hne, ho, ht, _⟩ := hp
  have a5 := g3.1
  have hh := g3.h x0 (by omega) w0 (show w < 6 by omega)
  have hg := g3.h t0 (by omega) w0 (show w < 6 by omega)
  have hf := g3.off x0 (show x < 5 by omega) w0 (show w < 6 by omega)
  have hx := hh.1
  have hy := hg.1
  rw [show 28 + x * 6 + w = 28 + (x * 6 + w) by omega] at hx hf
  rw [show 28 + t * 6 + w = 28 + (t * 6 + w) by omega] at hy ht
  have s1 := g3.of (k := 28 + (x * 6 + w)) (v := d (28 + (x * 6 + w)) - 1) (by omega)
  have s2 := s1.of (k := 28 + (t * 6 + w)) (v := d (28 + (t * 6 + w)) + 1) (by omega)
  exact ⟨by omega, ub2 g3 (by omega) (by omega) (by omega) (by omega), (g8.u s1 (by omega)).u s2 (by omega), by rw [u119 (by omega), u119 (by omega)]; omega⟩
theorem a_send {x w : Int} (h : CI L W d0 M d n s r) (hn : 0 ≤ n ∧ n < 40) (hr : 0 ≤ r ∧ r ≤ 1000) : Ct G LY 57 l 3 m11_send [vR 0, vI x, vI w] M (RP (ACTP L W d0 M d n s r)) := by
  obtain ⟨g1, g2, g3, g4, g5, g6, g7, g8, g9⟩ := h.cf
  refine (c11_send g1 g2 g3 g4 (by decide) (by decide) g5 hn.1 (by omega) g6 (by omega) (by omega)).mono (fun o M' hq => ?_)
  obtain ⟨v, rfl, hq⟩ := hq
  refine ⟨v, rfl, act_m h hn hq (fun hp => ?_)⟩
  obtain ⟨⟨⟨x0, x1⟩, w0, w1⟩, ho, hst⟩ := hp
  have a5 := g3.1
  have hh := g3.h x0 (by omega) w0 (show w < 6 by omega)
  have hf := g3.off x0 (show x < 5 by omega) w0 (show w < 6 by omega)
  have h22 : ∀ k : Int, 0 ≤ k → k < 6 → 0 ≤ d (22 + k) := fun k a b => (g3.2.2.1 k a b).2.2.1
  have hge : d (22 + w) ≤ stor d := sm_ge (f := fun k => d (22 + k)) (i := w) (fun k a b => h22 k a (by omega)) w0 (by omega)
  have h120 := g3.2.2.2.2.1.2.2
  have hw2 := h22 w w0 (by omega)
  have hx := hh.1
  rw [show 28 + x * 6 + w = 28 + (x * 6 + w) by omega] at hx hf
  have s1 := g3.of (k := 28 + (x * 6 + w)) (v := d (28 + (x * 6 + w)) - 1) (by omega)
  have s2 := s1.of (k := 22 + w) (v := d (22 + w) + 1) (by omega)
  refine ⟨by omega, ub2 g3 (by omega) (by omega) (by omega) (by omega), ⟨s2, ?_, ?_, ?_⟩, by rw [u119 (by omega), u119 (by omega)]; omega⟩
  · rw [upd1_o (by omega), upd1_o (by omega)]
    exact g8.2.1
  · rw [upd1_o (by omega), upd1_o (by omega)]
    exact g8.2.2.1
  · have e1 : stor (upd1 (upd1 d (28 + (x * 6 + w)) (d (28 + (x * 6 + w)) - 1)) (22 + w) (d (22 + w) + 1)) = stor d + 1 := by
      unfold stor
      rw [upd1_o (by omega), upd1_o (by omega)]
      refine sm_chg _ w0 (by omega) (fun k k0 k1 kn => ?_) upd1_e
      rw [upd1_o (by omega), upd1_o (by omega)]
    rw [e1, upd1_o (by omega), upd1_o (by omega)]
    omega
theorem a_years {m : Int} (h : CI L W d0 M d n s r) (hn : 0 ≤ n ∧ n < 40) (hr : 0 ≤ r ∧ r ≤ 1000) : Ct G LY 57 l 3 m11_years [vR 0, vI m] M (RP (ACTP L W d0 M d n s r)) := by
  obtain ⟨g1, g2, g3, g4, g5, g6, g7, g8, g9⟩ := h.cf
  refine (c11_years g1 g2 g3 g4 (by decide) (by decide) g5 hn.1 (by omega) g6 (by omega) (by omega)).mono (fun o M' hq => ?_)
  obtain ⟨v, rfl, hq⟩ := hq
  refine ⟨v, rfl, act_m h hn hq (fun hp => ?_)⟩
  obtain ⟨⟨m0, m1⟩, hy⟩ := hp
  have h8 := g3.2.2.2.2.1.1
  exact ⟨by omega, ub1 g3 (by decide) (by decide), g8.u (g3.of (by omega)) (by decide), by rw [u119 (by decide)]; omega⟩
theorem a_carry (h : CI L W d0 M d n s r) (hn : 0 ≤ n ∧ n < 40) (hr : 0 ≤ r ∧ r ≤ 1000) : Ct G LY 57 l 5 m11_carry [vR 0] M (RP (fun v M' => RR M M' ∧ ((planI (insOf d) ∧ v = plC (insOf d) ∧ CI L W d0 M' (upd1 (coP d) 119 (d 119 + plC (insOf d))) (n + 1) (sn n s d) r) ∨ (¬ planI (insOf d) ∧ v = -1 ∧ CI L W d0 M' d n s (r + 1))))) := by
  obtain ⟨g1, g2, g3, g4, g5, g6, g7, g8, g9⟩ := h.cf
  refine (c11_carry g1 g2 g3 g4 (by decide) (by decide) g5 hn.1 (by omega) g6 (by omega) (by omega) (by omega)).mono (fun o M' hq => ?_)
  obtain ⟨v, rfl, hq⟩ := hq
  have hb := plC_bd (SP.I g3)
  have h9 := g3.2.2.2.2.1.2.1
  rcases hq with ⟨hp, ha, rfl⟩ | ⟨hp, hr', rfl⟩
  · exact ⟨_, rfl, RR.fr ha.1 (by decide +kernel), .inl ⟨hp, rfl, h.act hn ha (by rw [ac_e]; exact ac_u g3) (by rw [ac_e]; exact ac_s g3) (g8.co (by omega) (by omega)) (by rw [upd1_e]; omega)⟩⟩
  · exact ⟨_, rfl, RR.fr hr'.1 (by decide +kernel), .inr ⟨hp, rfl, h.ref hr'⟩⟩
theorem a_carry' (h : CI L W d0 M d n s r) (hn : 0 ≤ n ∧ n < 40) (hr : 0 ≤ r ∧ r ≤ 1000) : Ct G LY 57 l 5 m11_carry [vR 0] M (RP (ACTP L W d0 M d n s r)) := (a_carry h hn hr).mono (fun o M' hq => by
  obtain ⟨v, rfl, hR, ⟨_, rfl, hc⟩ | ⟨_, rfl, hc⟩⟩ := hq
  · have hb := plC_bd (SP.I h.2.1.1.1)
    exact ⟨_, rfl, hR, .inl ⟨by omega, _, hc⟩⟩
  · exact ⟨_, rfl, hR, .inr ⟨rfl, hc⟩⟩)
end ACTC_
end ACTL
theorem ret_Q {P : Int → Mem → Prop} {v : Int} {M : Mem} (h : P v M) : RP P (some (vI v)) M := ⟨v, rfl, h⟩

abbrev mW_act : Mt := (yL_act, cL_act, 5, (some FieldType.int))
theorem mlW_85 : Cond.methodLink RL 85 m11_promise.1 ∈ Ts := Ts_in (in_t6 _ (List.mem_of_getElem? (i := 58) rfl)) rfl
theorem mlW_102 : Cond.methodLink RL 102 m11_carry.1 ∈ Ts := Ts_in (in_t6 _ (List.mem_of_getElem? (i := 89) rfl)) rfl
theorem mlW_99 : Cond.methodLink RL 99 m11_give.1 ∈ Ts := Ts_in (in_t6 _ (List.mem_of_getElem? (i := 84) rfl)) rfl
theorem mlW_93 : Cond.methodLink RL 93 m11_room.1 ∈ Ts := Ts_in (in_t6 _ (List.mem_of_getElem? (i := 69) rfl)) rfl
theorem mlW_82 : Cond.methodLink RL 82 m11_own.1 ∈ Ts := Ts_in (in_t6 _ (List.mem_of_getElem? (i := 28) rfl)) rfl
theorem mlW_89 : Cond.methodLink RL 89 m11_keep.1 ∈ Ts := Ts_in (in_t6 _ (List.mem_of_getElem? (i := 63) rfl)) rfl
theorem mlW_108 : Cond.methodLink RL 108 m11_send.1 ∈ Ts := Ts_in (in_t6 _ (List.mem_of_getElem? (i := 105) rfl)) rfl
theorem mlW_96 : Cond.methodLink RL 96 m11_go.1 ∈ Ts := Ts_in (in_t6 _ (List.mem_of_getElem? (i := 74) rfl)) rfl
theorem mlW_105 : Cond.methodLink RL 105 m11_years.1 ∈ Ts := Ts_in (in_t6 _ (List.mem_of_getElem? (i := 101) rfl)) rfl
theorem dX14_act_0 : decode cL_act 0 = .ok (.iload_n 2, 1) := by decide +kernel
theorem dX14_act_1 : decode cL_act 1 = .ok (.iconst 4, 1) := by decide +kernel
theorem dX14_act_2 : decode cL_act 2 = .ok (.ishr, 1) := by decide +kernel
theorem dX14_act_3 : decode cL_act 3 = .ok (.iconst 0, 1) := by decide +kernel
theorem dX14_act_4 : decode cL_act 4 = .ok (.aload_n 1, 1) := by decide +kernel
theorem dX14_act_5 : decode cL_act 5 = .ok (.invokestatic 40, 3) := by decide +kernel
theorem dX14_act_8 : decode cL_act 8 = .ok (.iconst 1, 1) := by decide +kernel
theorem dX14_act_9 : decode cL_act 9 = .ok (.isub, 1) := by decide +kernel
theorem dX14_act_10 : decode cL_act 10 = .ok (.invokestatic 34, 3) := by decide +kernel
theorem dX14_act_13 : decode cL_act 13 = .ok (.istore_n 3, 1) := by decide +kernel
theorem dX14_act_14 : decode cL_act 14 = .ok (.iload_n 2, 1) := by decide +kernel
theorem dX14_act_15 : decode cL_act 15 = .ok (.bipush 6, 2) := by decide +kernel
theorem dX14_act_17 : decode cL_act 17 = .ok (.ishr, 1) := by decide +kernel
theorem dX14_act_18 : decode cL_act 18 = .ok (.iconst 0, 1) := by decide +kernel
theorem dX14_act_19 : decode cL_act 19 = .ok (.aload_n 1, 1) := by decide +kernel
theorem dX14_act_20 : decode cL_act 20 = .ok (.invokestatic 66, 3) := by decide +kernel
theorem dX14_act_23 : decode cL_act 23 = .ok (.iconst 1, 1) := by decide +kernel
theorem dX14_act_24 : decode cL_act 24 = .ok (.isub, 1) := by decide +kernel
theorem dX14_act_25 : decode cL_act 25 = .ok (.invokestatic 34, 3) := by decide +kernel
theorem dX14_act_28 : decode cL_act 28 = .ok (.istore 4, 2) := by decide +kernel
theorem dX14_act_30 : decode cL_act 30 = .ok (.iload_n 2, 1) := by decide +kernel
theorem dX14_act_31 : decode cL_act 31 = .ok (.bipush 15, 2) := by decide +kernel
theorem dX14_act_33 : decode cL_act 33 = .ok (.iand, 1) := by decide +kernel
theorem dX14_act_34 : decode cL_act 34 = .ok (.tableswitch 227 0 14 #[74, 74, 91, 118, 135, 152, 169, 169, 169, 177, 177, 199, 204, 219, 219], 74) := by decide +kernel
theorem dX14_act_108 : decode cL_act 108 = .ok (.aload_n 0, 1) := by decide +kernel
theorem dX14_act_109 : decode cL_act 109 = .ok (.iload_n 3, 1) := by decide +kernel
theorem dX14_act_110 : decode cL_act 110 = .ok (.iload 4, 2) := by decide +kernel
theorem dX14_act_112 : decode cL_act 112 = .ok (.iload_n 2, 1) := by decide +kernel
theorem dX14_act_113 : decode cL_act 113 = .ok (.bipush 8, 2) := by decide +kernel
theorem dX14_act_115 : decode cL_act 115 = .ok (.ishr, 1) := by decide +kernel
theorem dX14_act_116 : decode cL_act 116 = .ok (.iconst 0, 1) := by decide +kernel
theorem dX14_act_117 : decode cL_act 117 = .ok (.iconst 3, 1) := by decide +kernel
theorem dX14_act_118 : decode cL_act 118 = .ok (.invokestatic 34, 3) := by decide +kernel
theorem dX14_act_121 : decode cL_act 121 = .ok (.invokevirtual 82, 3) := by decide +kernel
theorem dX14_act_124 : decode cL_act 124 = .ok (.ireturn, 1) := by decide +kernel
theorem dX14_act_125 : decode cL_act 125 = .ok (.aload_n 0, 1) := by decide +kernel
theorem dX14_act_126 : decode cL_act 126 = .ok (.iload_n 3, 1) := by decide +kernel
theorem dX14_act_127 : decode cL_act 127 = .ok (.iload 4, 2) := by decide +kernel
theorem dX14_act_129 : decode cL_act 129 = .ok (.iload_n 2, 1) := by decide +kernel
theorem dX14_act_130 : decode cL_act 130 = .ok (.bipush 8, 2) := by decide +kernel
theorem dX14_act_132 : decode cL_act 132 = .ok (.ishr, 1) := by decide +kernel
theorem dX14_act_133 : decode cL_act 133 = .ok (.iconst 0, 1) := by decide +kernel
theorem dX14_act_134 : decode cL_act 134 = .ok (.iconst 3, 1) := by decide +kernel
theorem dX14_act_135 : decode cL_act 135 = .ok (.invokestatic 34, 3) := by decide +kernel
theorem dX14_act_138 : decode cL_act 138 = .ok (.iload_n 2, 1) := by decide +kernel
theorem dX14_act_139 : decode cL_act 139 = .ok (.bipush 10, 2) := by decide +kernel
theorem dX14_act_141 : decode cL_act 141 = .ok (.ishr, 1) := by decide +kernel
theorem dX14_act_142 : decode cL_act 142 = .ok (.iconst 0, 1) := by decide +kernel
theorem dX14_act_143 : decode cL_act 143 = .ok (.bipush 60, 2) := by decide +kernel
theorem dX14_act_145 : decode cL_act 145 = .ok (.invokestatic 34, 3) := by decide +kernel
theorem dX14_act_148 : decode cL_act 148 = .ok (.invokevirtual 85, 3) := by decide +kernel
theorem dX14_act_151 : decode cL_act 151 = .ok (.ireturn, 1) := by decide +kernel
theorem dX14_act_152 : decode cL_act 152 = .ok (.aload_n 0, 1) := by decide +kernel
theorem dX14_act_153 : decode cL_act 153 = .ok (.iload 4, 2) := by decide +kernel
theorem dX14_act_155 : decode cL_act 155 = .ok (.iload_n 2, 1) := by decide +kernel
theorem dX14_act_156 : decode cL_act 156 = .ok (.bipush 8, 2) := by decide +kernel
theorem dX14_act_158 : decode cL_act 158 = .ok (.ishr, 1) := by decide +kernel
theorem dX14_act_159 : decode cL_act 159 = .ok (.iconst 0, 1) := by decide +kernel
theorem dX14_act_160 : decode cL_act 160 = .ok (.bipush 8, 2) := by decide +kernel
theorem dX14_act_162 : decode cL_act 162 = .ok (.invokestatic 34, 3) := by decide +kernel
theorem dX14_act_165 : decode cL_act 165 = .ok (.invokevirtual 89, 3) := by decide +kernel
theorem dX14_act_168 : decode cL_act 168 = .ok (.ireturn, 1) := by decide +kernel
theorem dX14_act_169 : decode cL_act 169 = .ok (.aload_n 0, 1) := by decide +kernel
theorem dX14_act_170 : decode cL_act 170 = .ok (.iload_n 3, 1) := by decide +kernel
theorem dX14_act_171 : decode cL_act 171 = .ok (.iconst 0, 1) := by decide +kernel
theorem dX14_act_172 : decode cL_act 172 = .ok (.iload_n 2, 1) := by decide +kernel
theorem dX14_act_173 : decode cL_act 173 = .ok (.bipush 8, 2) := by decide +kernel
theorem dX14_act_175 : decode cL_act 175 = .ok (.ishr, 1) := by decide +kernel
theorem dX14_act_176 : decode cL_act 176 = .ok (.iconst 0, 1) := by decide +kernel
theorem dX14_act_177 : decode cL_act 177 = .ok (.bipush 9, 2) := by decide +kernel
theorem dX14_act_179 : decode cL_act 179 = .ok (.invokestatic 34, 3) := by decide +kernel
theorem dX14_act_182 : decode cL_act 182 = .ok (.invokevirtual 93, 3) := by decide +kernel
theorem dX14_act_185 : decode cL_act 185 = .ok (.ireturn, 1) := by decide +kernel
theorem dX14_act_186 : decode cL_act 186 = .ok (.aload_n 0, 1) := by decide +kernel
theorem dX14_act_187 : decode cL_act 187 = .ok (.iload_n 3, 1) := by decide +kernel
theorem dX14_act_188 : decode cL_act 188 = .ok (.iconst 1, 1) := by decide +kernel
theorem dX14_act_189 : decode cL_act 189 = .ok (.iload_n 2, 1) := by decide +kernel
theorem dX14_act_190 : decode cL_act 190 = .ok (.bipush 8, 2) := by decide +kernel
theorem dX14_act_192 : decode cL_act 192 = .ok (.ishr, 1) := by decide +kernel
theorem dX14_act_193 : decode cL_act 193 = .ok (.iconst 0, 1) := by decide +kernel
theorem dX14_act_194 : decode cL_act 194 = .ok (.bipush 9, 2) := by decide +kernel
theorem dX14_act_196 : decode cL_act 196 = .ok (.invokestatic 34, 3) := by decide +kernel
theorem dX14_act_199 : decode cL_act 199 = .ok (.invokevirtual 93, 3) := by decide +kernel
theorem dX14_act_202 : decode cL_act 202 = .ok (.ireturn, 1) := by decide +kernel
theorem dX14_act_203 : decode cL_act 203 = .ok (.aload_n 0, 1) := by decide +kernel
theorem dX14_act_204 : decode cL_act 204 = .ok (.iload_n 3, 1) := by decide +kernel
theorem dX14_act_205 : decode cL_act 205 = .ok (.iload 4, 2) := by decide +kernel
theorem dX14_act_207 : decode cL_act 207 = .ok (.invokevirtual 96, 3) := by decide +kernel
theorem dX14_act_210 : decode cL_act 210 = .ok (.ireturn, 1) := by decide +kernel
theorem dX14_act_211 : decode cL_act 211 = .ok (.aload_n 0, 1) := by decide +kernel
theorem dX14_act_212 : decode cL_act 212 = .ok (.iload_n 3, 1) := by decide +kernel
theorem dX14_act_213 : decode cL_act 213 = .ok (.iload_n 2, 1) := by decide +kernel
theorem dX14_act_214 : decode cL_act 214 = .ok (.bipush 8, 2) := by decide +kernel
theorem dX14_act_216 : decode cL_act 216 = .ok (.ishr, 1) := by decide +kernel
theorem dX14_act_217 : decode cL_act 217 = .ok (.iconst 0, 1) := by decide +kernel
theorem dX14_act_218 : decode cL_act 218 = .ok (.aload_n 1, 1) := by decide +kernel
theorem dX14_act_219 : decode cL_act 219 = .ok (.invokestatic 40, 3) := by decide +kernel
theorem dX14_act_222 : decode cL_act 222 = .ok (.iconst 1, 1) := by decide +kernel
theorem dX14_act_223 : decode cL_act 223 = .ok (.isub, 1) := by decide +kernel
theorem dX14_act_224 : decode cL_act 224 = .ok (.invokestatic 34, 3) := by decide +kernel
theorem dX14_act_227 : decode cL_act 227 = .ok (.iload 4, 2) := by decide +kernel
theorem dX14_act_229 : decode cL_act 229 = .ok (.invokevirtual 99, 3) := by decide +kernel
theorem dX14_act_232 : decode cL_act 232 = .ok (.ireturn, 1) := by decide +kernel
theorem dX14_act_233 : decode cL_act 233 = .ok (.aload_n 0, 1) := by decide +kernel
theorem dX14_act_234 : decode cL_act 234 = .ok (.invokevirtual 102, 3) := by decide +kernel
theorem dX14_act_237 : decode cL_act 237 = .ok (.ireturn, 1) := by decide +kernel
theorem dX14_act_238 : decode cL_act 238 = .ok (.aload_n 0, 1) := by decide +kernel
theorem dX14_act_239 : decode cL_act 239 = .ok (.iload_n 2, 1) := by decide +kernel
theorem dX14_act_240 : decode cL_act 240 = .ok (.bipush 8, 2) := by decide +kernel
theorem dX14_act_242 : decode cL_act 242 = .ok (.ishr, 1) := by decide +kernel
theorem dX14_act_243 : decode cL_act 243 = .ok (.iconst 1, 1) := by decide +kernel
theorem dX14_act_244 : decode cL_act 244 = .ok (.bipush 9, 2) := by decide +kernel
theorem dX14_act_246 : decode cL_act 246 = .ok (.invokestatic 34, 3) := by decide +kernel
theorem dX14_act_249 : decode cL_act 249 = .ok (.invokevirtual 105, 3) := by decide +kernel
theorem dX14_act_252 : decode cL_act 252 = .ok (.ireturn, 1) := by decide +kernel
theorem dX14_act_253 : decode cL_act 253 = .ok (.aload_n 0, 1) := by decide +kernel
theorem dX14_act_254 : decode cL_act 254 = .ok (.iload_n 3, 1) := by decide +kernel
theorem dX14_act_255 : decode cL_act 255 = .ok (.iload 4, 2) := by decide +kernel
theorem dX14_act_257 : decode cL_act 257 = .ok (.invokevirtual 108, 3) := by decide +kernel
theorem dX14_act_260 : decode cL_act 260 = .ok (.ireturn, 1) := by decide +kernel
theorem dX14_act_261 : decode cL_act 261 = .ok (.aload_n 0, 1) := by decide +kernel
theorem dX14_act_262 : decode cL_act 262 = .ok (.iload_n 3, 1) := by decide +kernel
theorem dX14_act_263 : decode cL_act 263 = .ok (.iload 4, 2) := by decide +kernel
theorem dX14_act_265 : decode cL_act 265 = .ok (.iconst 3, 1) := by decide +kernel
theorem dX14_act_266 : decode cL_act 266 = .ok (.invokevirtual 82, 3) := by decide +kernel
theorem dX14_act_269 : decode cL_act 269 = .ok (.ireturn, 1) := by decide +kernel
set_option maxHeartbeats 1000000 in
theorem c14_act {G : Gl} {l : Launch}  {g0 : Nat → Nat} {M : Mem} {d d0 : Int → Int} {L W n r a : Int} {s : Int → Int → Int} (ga : KA g0 G.1) (ha : inI a) (hCI : CI L W d0 M d n s r) (hn : 0 ≤ n ∧ n < 40) (hr : 0 ≤ r ∧ r ≤ 1000) : Ct G LY 57 l 6 mW_act [vR 0, vR 1030, vI a] M (RP (ACTP L W d0 M d n s r)) := by
  refine R_start (by decide +kernel) (Nat.le_of_ble_eq_true rfl) (fun C hC hRm hlau => ?_)
  show RZ G LY C (Zn G LY 57 C (RP (ACTP L W d0 M d n s r))) 0 0 57 0 [some (vR 0), some (vR 1030), some (vI a), none, none] [] M
  have hlb := libsN_b g0
  have hwb := worksN_b g0
  refine R_iload_2 hC dX14_act_0 ?_
  refine R_iconst hC dX14_act_1 ⟨by decide, by decide⟩ ?_
  refine R_ishr hC dX14_act_2 (by decide) (by decide) ?_
  refine R_iconst hC dX14_act_3 ⟨by decide, by decide⟩ ?_
  refine R_aload_1 hC dX14_act_4 ?_
  refine R_callSq (as := [vR _]) hC dX14_act_5 momW_libraries mlW_40 (l_libs  ga) rfl rfl hRm (by decide) (by decide) (Nat.le_of_ble_eq_true rfl) ?_
  refine R_iconst hC dX14_act_8 ⟨by decide, by decide⟩ ?_
  refine R_isub hC dX14_act_9 ⟨by omega, by omega⟩ ?_
  refine R_callSq (as := [vI _, vI _, vI _]) hC dX14_act_10 momW_from mlW_34 (l_from  ga (inI_shr ha _) (by omega) (by omega) (by omega)) rfl rfl hRm (by decide) (by decide) (Nat.le_of_ble_eq_true rfl) ?_
  refine R_istore_3 hC dX14_act_13 rfl ?_
  refine R_iload_2 hC dX14_act_14 ?_
  refine R_bipush hC dX14_act_15 (by decide +kernel) ⟨by decide, by decide⟩ ?_
  refine R_ishr hC dX14_act_17 (by decide) (by decide) ?_
  refine R_iconst hC dX14_act_18 ⟨by decide, by decide⟩ ?_
  refine R_aload_1 hC dX14_act_19 ?_
  refine R_callSq (as := [vR _]) hC dX14_act_20 momW_works mlW_66 (l_works  ga) rfl rfl hRm (by decide) (by decide) (Nat.le_of_ble_eq_true rfl) ?_
  refine R_iconst hC dX14_act_23 ⟨by decide, by decide⟩ ?_
  refine R_isub hC dX14_act_24 ⟨by omega, by omega⟩ ?_
  refine R_callSq (as := [vI _, vI _, vI _]) hC dX14_act_25 momW_from mlW_34 (l_from  ga (inI_shr ha _) (by omega) (by omega) (by omega)) rfl rfl hRm (by decide) (by decide) (Nat.le_of_ble_eq_true rfl) ?_
  refine R_istore_4 hC dX14_act_28 rfl ?_
  refine R_iload_2 hC dX14_act_30 ?_
  refine R_bipush hC dX14_act_31 (by decide +kernel) ⟨by decide, by decide⟩ ?_
  refine R_iandm hC dX14_act_33 (m := 4) (by decide) (by decide) ?_
  have hz1 := Int.emod_nonneg a (show (2 : Int) ^ 4 ≠ 0 by decide)
  have hz2 := Int.emod_lt_of_pos a (show (0 : Int) < 2 ^ 4 by decide)
  have hz3 : (2 : Int) ^ 4 = 16 := rfl
  rw [hz3] at hz1 hz2 ⊢
  by_cases hsw : a % 16 < 0 ∨ 14 < a % 16
  · skip
    refine R_tableOut hC dX14_act_34 hsw (tgt := 261) (by decide) ?_
    refine R_aload_0 hC dX14_act_261 ?_
    refine R_iload_3 hC dX14_act_262 ?_
    refine R_iload_4 hC dX14_act_263 ?_
    refine R_iconst hC dX14_act_265 ⟨by decide, by decide⟩ ?_
    refine R_callVp (as := [vI _, vI _, vI _]) hC dX14_act_266 mo_11_own mlW_82 (by decide) rfl rfl (a_own  hCI hn hr) rfl rfl hRm (by decide) (by decide) (Nat.le_of_ble_eq_true rfl) (fun v3 Mc1 hq2 => ?_)
    have hA4 := hq2
    exact R_ireturn hC dX14_act_269 rfl (ret_Q hA4)
  have hsw2 : a % 16 = 0 ∨ a % 16 = 1 ∨ a % 16 = 2 ∨ a % 16 = 3 ∨ a % 16 = 4 ∨ a % 16 = 5 ∨ a % 16 = 6 ∨ a % 16 = 7 ∨ a % 16 = 8 ∨ a % 16 = 9 ∨ a % 16 = 10 ∨ a % 16 = 11 ∨ a % 16 = 12 ∨ a % 16 = 13 ∨ a % 16 = 14 := by omega
  rcases hsw2 with hsw2 | hsw2 | hsw2 | hsw2 | hsw2 | hsw2 | hsw2 | hsw2 | hsw2 | hsw2 | hsw2 | hsw2 | hsw2 | hsw2 | hsw2
  · skip
    refine R_tableIn hC dX14_act_34 (off := 74) (by omega) (by omega) (by rw [show a % 16 - 0 = 0 by omega]; rfl) (tgt := 108) (by decide) ?_
    refine R_aload_0 hC dX14_act_108 ?_
    refine R_iload_3 hC dX14_act_109 ?_
    refine R_iload_4 hC dX14_act_110 ?_
    refine R_iload_2 hC dX14_act_112 ?_
    refine R_bipush hC dX14_act_113 (by decide +kernel) ⟨by decide, by decide⟩ ?_
    refine R_ishr hC dX14_act_115 (by decide) (by decide) ?_
    refine R_iconst hC dX14_act_116 ⟨by decide, by decide⟩ ?_
    refine R_iconst hC dX14_act_117 ⟨by decide, by decide⟩ ?_
    refine R_callSq (as := [vI _, vI _, vI _]) hC dX14_act_118 momW_from mlW_34 (l_from  ga (inI_shr ha _) (by omega) (by omega) (by omega)) rfl rfl hRm (by decide) (by decide) (Nat.le_of_ble_eq_true rfl) ?_
    refine R_callVp (as := [vI _, vI _, vI _]) hC dX14_act_121 mo_11_own mlW_82 (by decide) rfl rfl (a_own  hCI hn hr) rfl rfl hRm (by decide) (by decide) (Nat.le_of_ble_eq_true rfl) (fun v7 Mc5 hq6 => ?_)
    have hA8 := hq6
    exact R_ireturn hC dX14_act_124 rfl (ret_Q hA8)
  · skip
    refine R_tableIn hC dX14_act_34 (off := 74) (by omega) (by omega) (by rw [show a % 16 - 0 = 1 by omega]; rfl) (tgt := 108) (by decide) ?_
    refine R_aload_0 hC dX14_act_108 ?_
    refine R_iload_3 hC dX14_act_109 ?_
    refine R_iload_4 hC dX14_act_110 ?_
    refine R_iload_2 hC dX14_act_112 ?_
    refine R_bipush hC dX14_act_113 (by decide +kernel) ⟨by decide, by decide⟩ ?_
    refine R_ishr hC dX14_act_115 (by decide) (by decide) ?_
    refine R_iconst hC dX14_act_116 ⟨by decide, by decide⟩ ?_
    refine R_iconst hC dX14_act_117 ⟨by decide, by decide⟩ ?_
    refine R_callSq (as := [vI _, vI _, vI _]) hC dX14_act_118 momW_from mlW_34 (l_from  ga (inI_shr ha _) (by omega) (by omega) (by omega)) rfl rfl hRm (by decide) (by decide) (Nat.le_of_ble_eq_true rfl) ?_
    refine R_callVp (as := [vI _, vI _, vI _]) hC dX14_act_121 mo_11_own mlW_82 (by decide) rfl rfl (a_own  hCI hn hr) rfl rfl hRm (by decide) (by decide) (Nat.le_of_ble_eq_true rfl) (fun v11 Mc9 hq10 => ?_)
    have hA12 := hq10
    exact R_ireturn hC dX14_act_124 rfl (ret_Q hA12)
  · skip
    refine R_tableIn hC dX14_act_34 (off := 91) (by omega) (by omega) (by rw [show a % 16 - 0 = 2 by omega]; rfl) (tgt := 125) (by decide) ?_
    refine R_aload_0 hC dX14_act_125 ?_
    refine R_iload_3 hC dX14_act_126 ?_
    refine R_iload_4 hC dX14_act_127 ?_
    refine R_iload_2 hC dX14_act_129 ?_
    refine R_bipush hC dX14_act_130 (by decide +kernel) ⟨by decide, by decide⟩ ?_
    refine R_ishr hC dX14_act_132 (by decide) (by decide) ?_
    refine R_iconst hC dX14_act_133 ⟨by decide, by decide⟩ ?_
    refine R_iconst hC dX14_act_134 ⟨by decide, by decide⟩ ?_
    refine R_callSq (as := [vI _, vI _, vI _]) hC dX14_act_135 momW_from mlW_34 (l_from  ga (inI_shr ha _) (by omega) (by omega) (by omega)) rfl rfl hRm (by decide) (by decide) (Nat.le_of_ble_eq_true rfl) ?_
    refine R_iload_2 hC dX14_act_138 ?_
    refine R_bipush hC dX14_act_139 (by decide +kernel) ⟨by decide, by decide⟩ ?_
    refine R_ishr hC dX14_act_141 (by decide) (by decide) ?_
    refine R_iconst hC dX14_act_142 ⟨by decide, by decide⟩ ?_
    refine R_bipush hC dX14_act_143 (by decide +kernel) ⟨by decide, by decide⟩ ?_
    refine R_callSq (as := [vI _, vI _, vI _]) hC dX14_act_145 momW_from mlW_34 (l_from  ga (inI_shr ha _) (by omega) (by omega) (by omega)) rfl rfl hRm (by decide) (by decide) (Nat.le_of_ble_eq_true rfl) ?_
    refine R_callVp (as := [vI _, vI _, vI _, vI _]) hC dX14_act_148 mo_11_promise mlW_85 (by decide) rfl rfl (a_promise  hCI hn hr) rfl rfl hRm (by decide) (by decide) (Nat.le_of_ble_eq_true rfl) (fun v15 Mc13 hq14 => ?_)
    have hA16 := hq14
    exact R_ireturn hC dX14_act_151 rfl (ret_Q hA16)
  · skip
    refine R_tableIn hC dX14_act_34 (off := 118) (by omega) (by omega) (by rw [show a % 16 - 0 = 3 by omega]; rfl) (tgt := 152) (by decide) ?_
    refine R_aload_0 hC dX14_act_152 ?_
    refine R_iload_4 hC dX14_act_153 ?_
    refine R_iload_2 hC dX14_act_155 ?_
    refine R_bipush hC dX14_act_156 (by decide +kernel) ⟨by decide, by decide⟩ ?_
    refine R_ishr hC dX14_act_158 (by decide) (by decide) ?_
    refine R_iconst hC dX14_act_159 ⟨by decide, by decide⟩ ?_
    refine R_bipush hC dX14_act_160 (by decide +kernel) ⟨by decide, by decide⟩ ?_
    refine R_callSq (as := [vI _, vI _, vI _]) hC dX14_act_162 momW_from mlW_34 (l_from  ga (inI_shr ha _) (by omega) (by omega) (by omega)) rfl rfl hRm (by decide) (by decide) (Nat.le_of_ble_eq_true rfl) ?_
    refine R_callVp (as := [vI _, vI _]) hC dX14_act_165 mo_11_keep mlW_89 (by decide) rfl rfl (a_keep  hCI hn hr) rfl rfl hRm (by decide) (by decide) (Nat.le_of_ble_eq_true rfl) (fun v19 Mc17 hq18 => ?_)
    have hA20 := hq18
    exact R_ireturn hC dX14_act_168 rfl (ret_Q hA20)
  · skip
    refine R_tableIn hC dX14_act_34 (off := 135) (by omega) (by omega) (by rw [show a % 16 - 0 = 4 by omega]; rfl) (tgt := 169) (by decide) ?_
    refine R_aload_0 hC dX14_act_169 ?_
    refine R_iload_3 hC dX14_act_170 ?_
    refine R_iconst hC dX14_act_171 ⟨by decide, by decide⟩ ?_
    refine R_iload_2 hC dX14_act_172 ?_
    refine R_bipush hC dX14_act_173 (by decide +kernel) ⟨by decide, by decide⟩ ?_
    refine R_ishr hC dX14_act_175 (by decide) (by decide) ?_
    refine R_iconst hC dX14_act_176 ⟨by decide, by decide⟩ ?_
    refine R_bipush hC dX14_act_177 (by decide +kernel) ⟨by decide, by decide⟩ ?_
    refine R_callSq (as := [vI _, vI _, vI _]) hC dX14_act_179 momW_from mlW_34 (l_from  ga (inI_shr ha _) (by omega) (by omega) (by omega)) rfl rfl hRm (by decide) (by decide) (Nat.le_of_ble_eq_true rfl) ?_
    refine R_callVp (as := [vI _, vI _, vI _]) hC dX14_act_182 mo_11_room mlW_93 (by decide) rfl rfl (a_room  hCI hn hr) rfl rfl hRm (by decide) (by decide) (Nat.le_of_ble_eq_true rfl) (fun v23 Mc21 hq22 => ?_)
    have hA24 := hq22
    exact R_ireturn hC dX14_act_185 rfl (ret_Q hA24)
  · skip
    refine R_tableIn hC dX14_act_34 (off := 152) (by omega) (by omega) (by rw [show a % 16 - 0 = 5 by omega]; rfl) (tgt := 186) (by decide) ?_
    refine R_aload_0 hC dX14_act_186 ?_
    refine R_iload_3 hC dX14_act_187 ?_
    refine R_iconst hC dX14_act_188 ⟨by decide, by decide⟩ ?_
    refine R_iload_2 hC dX14_act_189 ?_
    refine R_bipush hC dX14_act_190 (by decide +kernel) ⟨by decide, by decide⟩ ?_
    refine R_ishr hC dX14_act_192 (by decide) (by decide) ?_
    refine R_iconst hC dX14_act_193 ⟨by decide, by decide⟩ ?_
    refine R_bipush hC dX14_act_194 (by decide +kernel) ⟨by decide, by decide⟩ ?_
    refine R_callSq (as := [vI _, vI _, vI _]) hC dX14_act_196 momW_from mlW_34 (l_from  ga (inI_shr ha _) (by omega) (by omega) (by omega)) rfl rfl hRm (by decide) (by decide) (Nat.le_of_ble_eq_true rfl) ?_
    refine R_callVp (as := [vI _, vI _, vI _]) hC dX14_act_199 mo_11_room mlW_93 (by decide) rfl rfl (a_room  hCI hn hr) rfl rfl hRm (by decide) (by decide) (Nat.le_of_ble_eq_true rfl) (fun v27 Mc25 hq26 => ?_)
    have hA28 := hq26
    exact R_ireturn hC dX14_act_202 rfl (ret_Q hA28)
  · skip
    refine R_tableIn hC dX14_act_34 (off := 169) (by omega) (by omega) (by rw [show a % 16 - 0 = 6 by omega]; rfl) (tgt := 203) (by decide) ?_
    refine R_aload_0 hC dX14_act_203 ?_
    refine R_iload_3 hC dX14_act_204 ?_
    refine R_iload_4 hC dX14_act_205 ?_
    refine R_callVp (as := [vI _, vI _]) hC dX14_act_207 mo_11_go mlW_96 (by decide) rfl rfl (a_go  hCI hn hr) rfl rfl hRm (by decide) (by decide) (Nat.le_of_ble_eq_true rfl) (fun v31 Mc29 hq30 => ?_)
    have hA32 := hq30
    exact R_ireturn hC dX14_act_210 rfl (ret_Q hA32)
  · skip
    refine R_tableIn hC dX14_act_34 (off := 169) (by omega) (by omega) (by rw [show a % 16 - 0 = 7 by omega]; rfl) (tgt := 203) (by decide) ?_
    refine R_aload_0 hC dX14_act_203 ?_
    refine R_iload_3 hC dX14_act_204 ?_
    refine R_iload_4 hC dX14_act_205 ?_
    refine R_callVp (as := [vI _, vI _]) hC dX14_act_207 mo_11_go mlW_96 (by decide) rfl rfl (a_go  hCI hn hr) rfl rfl hRm (by decide) (by decide) (Nat.le_of_ble_eq_true rfl) (fun v35 Mc33 hq34 => ?_)
    have hA36 := hq34
    exact R_ireturn hC dX14_act_210 rfl (ret_Q hA36)
  · skip
    refine R_tableIn hC dX14_act_34 (off := 169) (by omega) (by omega) (by rw [show a % 16 - 0 = 8 by omega]; rfl) (tgt := 203) (by decide) ?_
    refine R_aload_0 hC dX14_act_203 ?_
    refine R_iload_3 hC dX14_act_204 ?_
    refine R_iload_4 hC dX14_act_205 ?_
    refine R_callVp (as := [vI _, vI _]) hC dX14_act_207 mo_11_go mlW_96 (by decide) rfl rfl (a_go  hCI hn hr) rfl rfl hRm (by decide) (by decide) (Nat.le_of_ble_eq_true rfl) (fun v39 Mc37 hq38 => ?_)
    have hA40 := hq38
    exact R_ireturn hC dX14_act_210 rfl (ret_Q hA40)
  · skip
    refine R_tableIn hC dX14_act_34 (off := 177) (by omega) (by omega) (by rw [show a % 16 - 0 = 9 by omega]; rfl) (tgt := 211) (by decide) ?_
    refine R_aload_0 hC dX14_act_211 ?_
    refine R_iload_3 hC dX14_act_212 ?_
    refine R_iload_2 hC dX14_act_213 ?_
    refine R_bipush hC dX14_act_214 (by decide +kernel) ⟨by decide, by decide⟩ ?_
    refine R_ishr hC dX14_act_216 (by decide) (by decide) ?_
    refine R_iconst hC dX14_act_217 ⟨by decide, by decide⟩ ?_
    refine R_aload_1 hC dX14_act_218 ?_
    refine R_callSq (as := [vR _]) hC dX14_act_219 momW_libraries mlW_40 (l_libs  ga) rfl rfl hRm (by decide) (by decide) (Nat.le_of_ble_eq_true rfl) ?_
    refine R_iconst hC dX14_act_222 ⟨by decide, by decide⟩ ?_
    refine R_isub hC dX14_act_223 ⟨by omega, by omega⟩ ?_
    refine R_callSq (as := [vI _, vI _, vI _]) hC dX14_act_224 momW_from mlW_34 (l_from  ga (inI_shr ha _) (by omega) (by omega) (by omega)) rfl rfl hRm (by decide) (by decide) (Nat.le_of_ble_eq_true rfl) ?_
    refine R_iload_4 hC dX14_act_227 ?_
    refine R_callVp (as := [vI _, vI _, vI _]) hC dX14_act_229 mo_11_give mlW_99 (by decide) rfl rfl (a_give  hCI hn hr) rfl rfl hRm (by decide) (by decide) (Nat.le_of_ble_eq_true rfl) (fun v43 Mc41 hq42 => ?_)
    have hA44 := hq42
    exact R_ireturn hC dX14_act_232 rfl (ret_Q hA44)
  · skip
    refine R_tableIn hC dX14_act_34 (off := 177) (by omega) (by omega) (by rw [show a % 16 - 0 = 10 by omega]; rfl) (tgt := 211) (by decide) ?_
    refine R_aload_0 hC dX14_act_211 ?_
    refine R_iload_3 hC dX14_act_212 ?_
    refine R_iload_2 hC dX14_act_213 ?_
    refine R_bipush hC dX14_act_214 (by decide +kernel) ⟨by decide, by decide⟩ ?_
    refine R_ishr hC dX14_act_216 (by decide) (by decide) ?_
    refine R_iconst hC dX14_act_217 ⟨by decide, by decide⟩ ?_
    refine R_aload_1 hC dX14_act_218 ?_
    refine R_callSq (as := [vR _]) hC dX14_act_219 momW_libraries mlW_40 (l_libs  ga) rfl rfl hRm (by decide) (by decide) (Nat.le_of_ble_eq_true rfl) ?_
    refine R_iconst hC dX14_act_222 ⟨by decide, by decide⟩ ?_
    refine R_isub hC dX14_act_223 ⟨by omega, by omega⟩ ?_
    refine R_callSq (as := [vI _, vI _, vI _]) hC dX14_act_224 momW_from mlW_34 (l_from  ga (inI_shr ha _) (by omega) (by omega) (by omega)) rfl rfl hRm (by decide) (by decide) (Nat.le_of_ble_eq_true rfl) ?_
    refine R_iload_4 hC dX14_act_227 ?_
    refine R_callVp (as := [vI _, vI _, vI _]) hC dX14_act_229 mo_11_give mlW_99 (by decide) rfl rfl (a_give  hCI hn hr) rfl rfl hRm (by decide) (by decide) (Nat.le_of_ble_eq_true rfl) (fun v47 Mc45 hq46 => ?_)
    have hA48 := hq46
    exact R_ireturn hC dX14_act_232 rfl (ret_Q hA48)
  · skip
    refine R_tableIn hC dX14_act_34 (off := 199) (by omega) (by omega) (by rw [show a % 16 - 0 = 11 by omega]; rfl) (tgt := 233) (by decide) ?_
    refine R_aload_0 hC dX14_act_233 ?_
    refine R_callVp (as := []) hC dX14_act_234 mo_11_carry mlW_102 (by decide) rfl rfl (a_carry'  hCI hn hr) rfl rfl hRm (by decide) (by decide) (Nat.le_of_ble_eq_true rfl) (fun v51 Mc49 hq50 => ?_)
    have hA52 := hq50
    exact R_ireturn hC dX14_act_237 rfl (ret_Q hA52)
  · skip
    refine R_tableIn hC dX14_act_34 (off := 204) (by omega) (by omega) (by rw [show a % 16 - 0 = 12 by omega]; rfl) (tgt := 238) (by decide) ?_
    refine R_aload_0 hC dX14_act_238 ?_
    refine R_iload_2 hC dX14_act_239 ?_
    refine R_bipush hC dX14_act_240 (by decide +kernel) ⟨by decide, by decide⟩ ?_
    refine R_ishr hC dX14_act_242 (by decide) (by decide) ?_
    refine R_iconst hC dX14_act_243 ⟨by decide, by decide⟩ ?_
    refine R_bipush hC dX14_act_244 (by decide +kernel) ⟨by decide, by decide⟩ ?_
    refine R_callSq (as := [vI _, vI _, vI _]) hC dX14_act_246 momW_from mlW_34 (l_from  ga (inI_shr ha _) (by omega) (by omega) (by omega)) rfl rfl hRm (by decide) (by decide) (Nat.le_of_ble_eq_true rfl) ?_
    refine R_callVp (as := [vI _]) hC dX14_act_249 mo_11_years mlW_105 (by decide) rfl rfl (a_years  hCI hn hr) rfl rfl hRm (by decide) (by decide) (Nat.le_of_ble_eq_true rfl) (fun v55 Mc53 hq54 => ?_)
    have hA56 := hq54
    exact R_ireturn hC dX14_act_252 rfl (ret_Q hA56)
  · skip
    refine R_tableIn hC dX14_act_34 (off := 219) (by omega) (by omega) (by rw [show a % 16 - 0 = 13 by omega]; rfl) (tgt := 253) (by decide) ?_
    refine R_aload_0 hC dX14_act_253 ?_
    refine R_iload_3 hC dX14_act_254 ?_
    refine R_iload_4 hC dX14_act_255 ?_
    refine R_callVp (as := [vI _, vI _]) hC dX14_act_257 mo_11_send mlW_108 (by decide) rfl rfl (a_send  hCI hn hr) rfl rfl hRm (by decide) (by decide) (Nat.le_of_ble_eq_true rfl) (fun v59 Mc57 hq58 => ?_)
    have hA60 := hq58
    exact R_ireturn hC dX14_act_260 rfl (ret_Q hA60)
  · skip
    refine R_tableIn hC dX14_act_34 (off := 219) (by omega) (by omega) (by rw [show a % 16 - 0 = 14 by omega]; rfl) (tgt := 253) (by decide) ?_
    refine R_aload_0 hC dX14_act_253 ?_
    refine R_iload_3 hC dX14_act_254 ?_
    refine R_iload_4 hC dX14_act_255 ?_
    refine R_callVp (as := [vI _, vI _]) hC dX14_act_257 mo_11_send mlW_108 (by decide) rfl rfl (a_send  hCI hn hr) rfl rfl hRm (by decide) (by decide) (Nat.le_of_ble_eq_true rfl) (fun v63 Mc61 hq62 => ?_)
    have hA64 := hq62
    exact R_ireturn hC dX14_act_260 rfl (ret_Q hA64)
