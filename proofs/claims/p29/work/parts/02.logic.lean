/-! A facade over the kit's rows: values are Int, memory is a function of handle and place, addresses are handles. -/
abbrev V : Type := Int ⊕ (Int ⊕ Nat)
abbrev vI (i : Int) : V := .inl i
abbrev vL (i : Int) : V := .inr (.inl i)
abbrev vR (h : Nat) : V := .inr (.inr h)
abbrev Mem : Type := Nat → Int → Int
/-- one cell set -/
def uM (M : Mem) (h : Nat) (k x : Int) : Mem := fun a b => if a = h ∧ b = k then x else M a b
abbrev inI (x : Int) : Prop := -2147483648 ≤ x ∧ x ≤ 2147483647
abbrev inL (x : Int) : Prop := -9223372036854775808 ≤ x ∧ x ≤ 9223372036854775807
def okV : V → Prop
  | .inl i => inI i
  | .inr (.inl i) => inL i
  | .inr (.inr _) => True
def okVs : List V → Prop
  | [] => True
  | v :: vs => okV v ∧ okVs vs
/-- locals: none is a place that nothing is said of -/
def okLs : List (Option V) → Prop
  | [] => True
  | none :: vs => okLs vs
  | some v :: vs => okV v ∧ okLs vs
/-- addresses of handles, the world's area, classes, array classes by kind -/
abbrev Gl : Type := (Nat → Nat) × (Nat → Prop) × va_G × (Nat → ClassId)
def enc (G : Gl) : V → Value
  | .inl i => .int (Int32.ofInt i)
  | .inr (.inl i) => .long (Int64.ofInt i)
  | .inr (.inr h) => .ref (G.1 h)
def vcat : V → Nat
  | .inr (.inl _) => 2
  | _ => 1
theorem enc_cat (G : Gl) (v : V) : (enc G v).category = vcat v := by
  rcases v with i | i | h <;> rfl
theorem enc_cats (G : Gl) (st : List V) : ((st.map (enc G)).map fun v => v.category).sum = (st.map vcat).sum := by
  rw [List.map_map]
  exact congrArg List.sum (List.map_congr_left (fun v _ => enc_cat G v))
/-- the layout: kind (below 14 a class; 20 int, 21 long, 22 byte, 23 boolean array) and length of each handle; tags of fields (0 int, 1 boolean, 2 reference) -/
abbrev Sh : Type := (Nat → Nat × Nat) × (Nat → Nat → Nat)
def encF (G : Gl) (t : Nat) (x : Int) : Value := if t < 2 then .int (Int32.ofInt x) else if x < 0 then .null else .ref (G.1 x.toNat)
def ent (G : Gl) (S : Sh) (M : Mem) (h : Nat) : va_E :=
  if (S.1 h).1 < 14 then .inr ((S.1 h).1, (List.range (S.1 h).2).map (fun k => encF G (S.2 (S.1 h).1 k) (M h (k : Nat))))
  else if (S.1 h).1 = 21 then .inl (G.2.2.2 21, (S.1 h).2, .inr (.inl (fun j => Int64.ofInt (M h (j : Nat)))))
  else .inl (G.2.2.2 (S.1 h).1, (S.1 h).2, .inl (fun j => Int32.ofInt (M h (j : Nat))))
def wsM (G : Gl) (S : Sh) (n : Nat) (M : Mem) : va_W := (List.range n).map (fun h => (G.1 h, ent G S M h))
def aA (G : Gl) : Nat → Prop := G.2.1
/-- the heap holds the first n cells of the layout -/
def Hp (G : Gl) (S : Sh) (n : Nat) (M : Mem) (H : Heap) : Prop :=
  va_P G.2.2.1 vwCl (wsM G S n M) H ∧ va_D (aA G) (wsM G S n M)
def okM (S : Sh) (M : Mem) : Prop := ∀ h k, if (S.1 h).1 = 21 then inL (M h k) else inI (M h k)
def aTy : Nat → FieldType
  | 20 => .int
  | 21 => .long
  | 22 => .byte
  | _ => .boolean
/-- the array classes, in va_K's form -/
def tysG (G : Gl) : List (ClassId × FieldType) := [(G.2.2.2 20, .int), (G.2.2.2 21, .long), (G.2.2.2 22, .byte), (G.2.2.2 23, .boolean)]
/-- nest mates' words, that keep while tables grow warmer -/
def isNw : Cond → Bool
  | .methodLinkNest _ _ _ _ => true
  | .castable _ _ => true
  | _ => false
theorem cast_al {a b : Array Value} {C T : String} {u U : State} (h : u.vm.Alike U.vm) (hc : (Cond.castable C T).before a u = true) : (Cond.castable C T).before b U = true := by
  simp only [Cond.before, Cond.holds, Cond.value] at hc ⊢
  rw [h.findClass, h.findClass]
  simp only [h.assignable]
  exact hc
/-- String constants, by their places -/
def lenS : List Nat := [7, 4, 5, 7, 5, 0, 8, 1, 1, 6, 5, 6, 8]
def bytS : List (List Int32) := [[108, 105, 98, 114, 97, 114, 121], [119, 111, 114, 107], [104, 111, 108, 100, 115], [112, 114, 111, 109, 105, 115, 101], [115, 116, 111, 114, 101], [], [108, 105, 98, 114, 97, 114, 121, 32], [32], [59], [115, 116, 111, 114, 101, 32], [119, 111, 114, 107, 32], [104, 111, 108, 100, 115, 32], [112, 114, 111, 109, 105, 115, 101, 32]]
def txS : List (String × Nat × String × Nat) := [("CopyKeeper$TextReader", 79, "library", 1000), ("CopyKeeper$TextReader", 88, "work", 1001), ("CopyKeeper$TextReader", 93, "holds", 1002), ("CopyKeeper$TextReader", 98, "promise", 1003), ("CopyKeeper$TextReader", 103, "store", 1004), ("CopyKeeperLaw", 38, "", 1005), ("CopyKeeperLaw", 51, "library ", 1006), ("CopyKeeperLaw", 56, " ", 1007), ("CopyKeeperLaw", 62, ";", 1008), ("CopyKeeperLaw", 64, "store ", 1009), ("CopyKeeperLaw", 69, "work ", 1010), ("CopyKeeperLaw", 75, "holds ", 1011), ("CopyKeeperLaw", 80, "promise ", 1012)]
/-- what lies outside of the world: a static of the JDK's, String constants, two static rows of bytes, the script -/
def XW (G : Gl) (U : State) (H : Heap) : Prop :=
  (vk_S 13 lenS bytS (fun i => G.1 (1000 + i)) (fun i => G.1 (1050 + i)) (aA G) U H ∧ va_Z "java/lang/String" "COMPACT_STRINGS" "Z" (.int 1) (aA G) U H ∧ va_Zq "jdk/internal/util/Preconditions" "SIOOBE_FORMATTER" "Ljava/util/function/BiFunction;" (aA G) U H) ∧
  (∀ q ∈ txS, vk_R q.1 q.2.1 q.2.2.1 (G.1 q.2.2.2) U) ∧
  (va_Z "java/lang/Integer" "DigitOnes" "[B" (.ref (G.1 1020)) (aA G) U H ∧ va_T .byte (G.1 1020) 100 (fun j => .int (nI (48 + j % 10))) (aA G) U H) ∧
  (va_Z "java/lang/Integer" "DigitTens" "[B" (.ref (G.1 1021)) (aA G) U H ∧ va_T .byte (G.1 1021) 100 (fun j => .int (nI (48 + j / 10))) (aA G) U H) ∧
  va_T .int (G.1 1030) (G.1 1999) (fun j => .int (Int32.ofNat (G.1 (2000 + j)))) (aA G) U H ∧ G.1 1999 ≤ 260
theorem XW.moved {G : Gl} {u U : State} {H : Heap} (hW : u.WarmedH U.vm) (h : XW G u H) : XW G U H := by
  obtain ⟨⟨a1, a2, a3⟩, a4, ⟨a5, a6⟩, ⟨a7, a8⟩, a9, a10⟩ := h
  exact ⟨⟨vk_S.moved hW.alike a1, va_Z.moved hW.alike a2, va_Zq.moved hW.alike a3⟩, fun q hq => vk_R.warm hW (a4 q hq), ⟨va_Z.moved hW.alike a5, va_T.moved hW.alike a6⟩, ⟨va_Z.moved hW.alike a7, va_T.moved hW.alike a8⟩, va_T.moved hW.alike a9, a10⟩
theorem XW.same {G : Gl} {u U : State} {H : Heap} (hv : U.vm = u.vm) (h : XW G u H) : XW G U H := by
  have ha : u.vm.Alike U.vm := by rw [hv]; exact Vm.Alike.refl _
  obtain ⟨⟨a1, a2, a3⟩, a4, ⟨a5, a6⟩, ⟨a7, a8⟩, a9, a10⟩ := h
  exact ⟨⟨vk_S.moved ha a1, va_Z.moved ha a2, va_Zq.moved ha a3⟩, fun q hq => vk_R.same hv (a4 q hq), ⟨va_Z.moved ha a5, va_T.moved ha a6⟩, ⟨va_Z.moved ha a7, va_T.moved ha a8⟩, va_T.moved ha a9, a10⟩
theorem XW.kept {G : Gl} {U : State} {H H1 : Heap} (h : XW G U H) (hq : ∀ a : Nat, a < H.size → ¬ aA G a → H1[a]? = H[a]?) : XW G U H1 := by
  obtain ⟨⟨a1, a2, a3⟩, a4, ⟨a5, a6⟩, ⟨a7, a8⟩, a9, a10⟩ := h
  exact ⟨⟨a1.kept hq, a2.kept hq, a3.kept hq⟩, a4, ⟨a5.kept hq, a6.kept hq⟩, ⟨a7.kept hq, a8.kept hq⟩, a9.kept hq, a10⟩
/-- the same addresses, a lesser area -/
theorem XW.narrow {G G' : Gl} {U : State} {H : Heap} (e : G'.1 = G.1) (hA : ∀ q, aA G' q → aA G q) (h : XW G U H) : XW G' U H := by
  obtain ⟨⟨a1, a2, a3⟩, a4, ⟨a5, a6⟩, ⟨a7, a8⟩, a9, a10⟩ := h
  unfold XW
  rw [e]
  exact ⟨⟨a1.narrow hA, a2.narrow hA, a3.narrow hA⟩, a4, ⟨a5.narrow hA, a6.narrow hA⟩, ⟨a7.narrow hA, a8.narrow hA⟩, a9.narrow hA, a10⟩
def KK (G : Gl) (U : State) : Prop :=
  va_K G.2.2.1 vwCl (tysG G) U ∧ (∀ w ∈ lw_tbl, isNw w = true → va_Nw w U) ∧ True ∧ XW G U U.heap
/-- private methods of AbstractStringBuilder, called on a StringBuilder -/
def xprv : List MethodName := [yJ5_ensureCapacityInternal_d00df, yJ5_newCapacity_0f7a4, yJ5_putStringAt_47b60, yJ5_inflateIfNeededFor_a7421]
def xsel : List Cond := xprv.map (fun y => Cond.selects RJ4 y y)
theorem sel_up {y x0 : MethodName} {C : String} {s : State} {args : Array Value} (hy : y.cls ≠ "java/lang/invoke/MethodHandle" ∧ y.cls ≠ "java/lang/invoke/VarHandle") (hc0 : x0.cls = y.cls)
    (h0 : (Cond.selects C x0 x0).before args s = true) (hpriv : (Cond.privateMethod y).before args s = true) (hinst : (Cond.instanceMethod y).before args s = true) : (Cond.selects C y y).before args s = true := by
  obtain ⟨c, r, m, hc, hr, hm, hsl, mk0, hmk0, hni⟩ := Cond.selects_spec h0
  obtain ⟨mk, methM, hnamed, hmethM, -, -⟩ := Cond.instanceMethod_spec hinst
  have hfound : s.methodFound? y.cls y.name y.desc = some mk := State.methodFound?_of_named hnamed hy
  have hcls : mk.cls = m.cls := Option.some.inj ((findClass_of_methodNamed hnamed).symm.trans (by rw [← hc0]; exact findClass_of_methodNamed hm))
  have hsel : selectMethod {} s.vm c mk = .method mk := selectMethod_private hmethM (Cond.privateMethod_at hpriv mk methM hnamed hmethM)
  simp only [Cond.before, Cond.holds, Cond.value, hc, hfound, hnamed, hsel, hcls, hmk0]
  simp
  exact hni
def Ts : List Cond := (lw_tbl ++ xsel).filter goodWord
theorem Ts_in {w : Cond} (h : w ∈ lw_tbl) (g : goodWord w = true) : w ∈ Ts := List.mem_filter.mpr ⟨List.mem_append_left _ h, g⟩
abbrev Cx : Type := Program × Launch × Env × Room × State × MethodId × Array Value × List Frame × Method × Code
/-- a method: name, code, places for locals, what it returns -/
abbrev Mt : Type := MethodName × ByteArray × Nat × Option FieldType
/-- what holds of the frame in which a method is walked -/
def CxOK (G : Gl) (y : Mt) (C : Cx) : Prop :=
  C.1.tables.exec = Jvm.exec ∧ C.2.2.2.2.2.2.2.2.2.code = y.2.1 ∧ C.2.2.2.2.2.2.2.2.2.maxLocals = y.2.2.1 ∧ C.2.2.2.2.1.vm.findClass y.1.cls = some C.2.2.2.2.2.1.cls ∧
  (∀ w ∈ Ts, w.before C.2.2.2.2.2.2.1 C.2.2.2.2.1 = true) ∧ KK G C.2.2.2.2.1 ∧ C.2.2.2.2.2.2.2.2.1.locks = false ∧ C.2.2.2.2.2.2.2.2.1.sig.returnType = y.2.2.2 ∧ ∀ q : Nat, C.2.2.2.2.1.heap.size ≤ q → aA G q
def lsR (G : Gl) (nL : Nat) (ls : List (Option V)) (a : Array Slot) : Prop :=
  a.size = nL ∧ ls.length ≤ nL ∧ lv_wf a ∧ ∀ (i : Nat) (v : V), ls[i]? = some (some v) → a[i]? = some (.val (enc G v))
/-- the goal of a walk: at pc, with these locals, this stack, this memory (k cells and w slots made so far) -/
def RZ (G : Gl) (S : Sh) (C : Cx) (Z : State → Prop) (k w n : Nat) (pc : Nat) (ls : List (Option V)) (st : List V) (M : Mem) : Prop :=
  ∀ (H : Heap) (locs : List Loc) (a : Array Slot), Hp G S n M H → va_S (aA G) C.2.2.2.2.1.heap H locs → okM S M → okLs ls → okVs st → lsR G C.2.2.2.2.2.2.2.2.2.maxLocals ls a →
    W C.1 C.2.1 C.2.2.1 C.2.2.2.1 C.2.2.2.2.1 C.2.2.2.2.2.1 C.2.2.2.2.2.2.1 C.2.2.2.2.2.2.2.1 C.2.2.2.2.2.2.2.2.1 C.2.2.2.2.2.2.2.2.2 H locs k w Z (F0 C.2.2.2.2.2.1 pc a (st.map (enc G)))
section NUM
theorem p2c (m : Nat) : ((2 ^ m : Nat) : Int) = 2 ^ m := by rw [Int.natCast_pow]; rfl
theorem e32 : ((2 : Int) ^ 32) = 4294967296 := rfl
theorem sz32 : ((Int32.size : Nat) : Int) = 4294967296 := rfl
theorem sz64 : ((Int64.size : Nat) : Int) = 18446744073709551616 := rfl
theorem ofInt_toInt {x : Int} (h : inI x) : (Int32.ofInt x).toInt = x := by
  rw [Int32.toInt_ofInt]
  exact Int.bmod_eq_of_le (by have := h.1; have := sz32; omega) (by have := h.2; have := sz32; omega)
theorem ofInt_toInt64 {x : Int} (h : inL x) : (Int64.ofInt x).toInt = x := by
  rw [Int64.toInt_ofInt]
  exact Int.bmod_eq_of_le (by have := h.1; have := sz64; omega) (by have := h.2; have := sz64; omega)
theorem i_lt {a b : Int} (ha : inI a) (hb : inI b) : Int32.ofInt a < Int32.ofInt b ↔ a < b := by
  rw [Int32.lt_iff_toInt_lt, ofInt_toInt ha, ofInt_toInt hb]
theorem i_le {a b : Int} (ha : inI a) (hb : inI b) : Int32.ofInt a ≤ Int32.ofInt b ↔ a ≤ b := by
  rw [Int32.le_iff_toInt_le, ofInt_toInt ha, ofInt_toInt hb]
theorem i_eq {a b : Int} (ha : inI a) (hb : inI b) : Int32.ofInt a = Int32.ofInt b ↔ a = b := by
  rw [← Int32.toInt_inj, ofInt_toInt ha, ofInt_toInt hb]
theorem inI_bmod (x : Int) : inI (x.bmod 4294967296) := by
  have h1 := Int.le_bmod (x := x) (m := 4294967296) (by decide)
  have h2 := Int.bmod_lt (x := x) (m := 4294967296) (by decide)
  constructor <;> omega
theorem inI_bmod8 (x : Int) : inI (x.bmod 256) := by
  have h1 := Int.le_bmod (x := x) (m := 256) (by decide)
  have h2 := Int.bmod_lt (x := x) (m := 256) (by decide)
  constructor <;> omega
theorem inI_of (x : Int32) : inI x.toInt := by
  have h1 := x.le_toInt
  have h2 := x.toInt_lt
  constructor <;> omega
theorem inL_toInt (x : Int64) : inL x.toInt := by
  have h1 := x.le_toInt
  have h2 := x.toInt_lt
  constructor <;> omega
theorem inL_of {a : Int} (h : inI a) : inL a := ⟨by have := h.1; omega, by have := h.2; omega⟩
theorem ofInt_bmod (x : Int) : Int32.ofInt (x.bmod 4294967296) = Int32.ofInt x := by
  rw [← Int32.toInt_inj, ofInt_toInt (inI_bmod x), Int32.toInt_ofInt]
theorem ne0 {b : Int} (h : inI b) (h1 : 0 < b) : ¬ Int32.ofInt b = 0 := by
  intro e
  have := (i_eq (b := 0) h ⟨by decide, by decide⟩).mp e
  omega
theorem inI_div {a b : Int} (ha : inI a) (h0 : 0 ≤ a) (h1 : 0 < b) : inI (a / b) := by
  have h2 := Int.ediv_nonneg h0 (Int.le_of_lt h1)
  have h3 := Int.ediv_le_self b h0
  exact ⟨by omega, by have := ha.2; omega⟩
theorem inI_mod {a b : Int} (hb : inI b) (h1 : 0 < b) : inI (a % b) := by
  have h2 := Int.emod_nonneg a (Int.ne_of_gt h1)
  have h3 := Int.emod_lt_of_pos a h1
  exact ⟨by omega, by have := hb.2; omega⟩
theorem i_div {a b : Int} (ha : inI a) (hb : inI b) (h0 : 0 ≤ a) (h1 : 0 < b) : Int32.ofInt (a / b) = Int32.ofInt a / Int32.ofInt b := by
  rw [← Int32.toInt_inj, Int32.toInt_div, ofInt_toInt (inI_div ha h0 h1), ofInt_toInt ha, ofInt_toInt hb, Int.tdiv_eq_ediv_of_nonneg h0]
  have h := inI_div ha h0 h1
  exact (Int.bmod_eq_of_le (by have := h.1; omega) (by have := h.2; omega)).symm
theorem i_mod {a b : Int} (ha : inI a) (hb : inI b) (h0 : 0 ≤ a) (h1 : 0 < b) : Int32.ofInt (a % b) = Int32.ofInt a - Int32.ofInt a / Int32.ofInt b * Int32.ofInt b := by
  rw [← i_div ha hb h0 h1, ← Int32.ofInt_mul, ← Int32.ofInt_sub]
  congr 1
  have := Int.emod_add_mul_ediv a b
  rw [Int.mul_comm (a / b) b]
  omega
theorem s_l : ∀ n, n < 32 → ((nI n &&& 31).toBitVec.smod 32).toNat = n := by decide +kernel
theorem s_u : ∀ n, n < 32 → (((nI n).toUInt32 &&& Int32.toUInt32 31).toBitVec % 32).toNat = n := by decide +kernel
theorem ofInt_nI {b : Int} (h : 0 ≤ b) : Int32.ofInt b = nI b.toNat := by
  obtain ⟨n, rfl⟩ := Int.eq_ofNat_of_zero_le h
  exact Int32.ofInt_eq_ofNat
theorem toBV {a : Int} : (Int32.ofInt a).toBitVec.toNat = (a % 4294967296).toNat := by
  rw [Int32.toBitVec_ofInt, BitVec.toNat_ofInt]
  rfl
theorem inI_shr {a : Int} (ha : inI a) (m : Nat) : inI (a / 2 ^ m) := by
  have hp : (0 : Int) < 2 ^ m := Int.pow_pos (by decide)
  have h1 : (1 : Int) ≤ 2 ^ m := hp
  constructor
  · rw [Int.le_ediv_iff_mul_le hp]
    have := ha.1
    have : (-2147483648 : Int) * 2 ^ m ≤ -2147483648 * 1 := by
      apply Int.mul_le_mul_of_nonpos_left <;> omega
    omega
  · rw [← Int.lt_add_one_iff, Int.ediv_lt_iff_lt_mul hp]
    have := ha.2
    have : (2147483647 + 1 : Int) * 1 ≤ (2147483647 + 1) * 2 ^ m := Int.mul_le_mul_of_nonneg_left h1 (by decide)
    omega
theorem inI_shr0 {a : Int} (ha : inI a) (m : Nat) : inI (a / 2 ^ m) := by
  have hp : (0 : Int) < 2 ^ m := Int.pow_pos (by decide)
  have h1 : (1 : Int) ≤ 2 ^ m := hp
  constructor
  · rw [Int.le_ediv_iff_mul_le hp]
    have := ha.1
    have : (-2147483648 : Int) * 2 ^ m ≤ -2147483648 * 1 := by
      apply Int.mul_le_mul_of_nonpos_left <;> omega
    omega
  · rw [← Int.lt_add_one_iff, Int.ediv_lt_iff_lt_mul hp]
    have := ha.2
    have : (2147483647 + 1 : Int) * 1 ≤ (2147483647 + 1) * 2 ^ m := Int.mul_le_mul_of_nonneg_left h1 (by decide)
    omega
theorem i_shr {a b : Int} (ha : inI a) (h0 : 0 ≤ b) (h1 : b < 32) : Int32.ofInt (a / 2 ^ b.toNat) = Int32.ofInt a >>> (Int32.ofInt b &&& 31) := by
  rw [ofInt_nI h0, ← Int32.toInt_inj, pk_shr _ _ b.toNat (s_l _ (by omega)), ofInt_toInt ha, Int.shiftRight_eq_div_pow]
  exact (ofInt_toInt (inI_shr0 ha b.toNat)).trans (by simp)
set_option maxRecDepth 100000 in
theorem i_shl {a b : Int} (h0 : 0 ≤ b) (h1 : b < 32) : Int32.ofInt (a * 2 ^ b.toNat) = Int32.ofInt a <<< (Int32.ofInt b &&& 31) := by
  have e : (Int32.ofInt a <<< (Int32.ofInt b &&& 31)).toBitVec.toNat = (Int32.ofInt (a * 2 ^ b.toNat)).toBitVec.toNat := by
    rw [ofInt_nI h0, pk_shl _ _ b.toNat (s_l _ (by omega)), toBV, toBV]
    have hz : (4294967296 : Int) ≠ 0 := by decide
    have h2 := Int.emod_nonneg a hz
    have h3 := Int.emod_nonneg (a * 2 ^ b.toNat) hz
    have key : (((a % 4294967296).toNat * 2 ^ b.toNat % 2 ^ 32 : Nat) : Int) = (((a * 2 ^ b.toNat) % 4294967296).toNat : Int) := by
      rw [Int.toNat_of_nonneg h3, Int.natCast_emod, Int.natCast_mul, Int.toNat_of_nonneg h2, p2c, p2c, e32, Int.mul_emod, Int.emod_emod, ← Int.mul_emod]
    exact Int.ofNat.inj key
  exact (Int32.toBitVec_inj.mp (BitVec.eq_of_toNat_eq e)).symm
set_option maxRecDepth 100000 in
theorem i_ushr {a b : Int} (h0 : 0 ≤ b) (h1 : b < 32) : ((Int32.ofInt a).toUInt32 >>> ((Int32.ofInt b).toUInt32 &&& Int32.toUInt32 31)).toInt32 = Int32.ofInt ((a % 4294967296 / 2 ^ b.toNat).bmod 4294967296) := by
  rw [ofInt_bmod]
  refine Int32.toBitVec_inj.mp (BitVec.eq_of_toNat_eq ?_)
  rw [ofInt_nI h0, pk_ushr _ _ b.toNat (s_u _ (by omega)), toBV, toBV]
  have hz : (4294967296 : Int) ≠ 0 := by decide
  have h2 := Int.emod_nonneg a hz
  have h2' := Int.emod_lt_of_pos a (show (0 : Int) < 4294967296 by decide)
  have hp : (0 : Int) < 2 ^ b.toNat := Int.pow_pos (by decide)
  have h3 : 0 ≤ a % 4294967296 / 2 ^ b.toNat := Int.ediv_nonneg h2 (Int.le_of_lt hp)
  have h4 : a % 4294967296 / 2 ^ b.toNat ≤ a % 4294967296 := Int.ediv_le_self _ h2
  rw [Int.emod_eq_of_lt h3 (by omega)]
  have key : (((a % 4294967296).toNat / 2 ^ b.toNat : Nat) : Int) = ((a % 4294967296 / 2 ^ b.toNat).toNat : Int) := by
    rw [Int.toNat_of_nonneg h3, Int.natCast_ediv, Int.toNat_of_nonneg h2, p2c]
  exact Int.ofNat.inj key
theorem nI_ofInt (n : Nat) : nI n = Int32.ofInt (n : Int) := by rw [ofInt_nI (by omega)]; rfl
set_option maxRecDepth 100000 in
theorem inI_modp (a : Int) (m : Nat) (h : m ≤ 31) : inI (a % 2 ^ m) := by
  have hp : (0 : Int) < 2 ^ m := Int.pow_pos (by decide)
  have h2 := Int.emod_nonneg a (Int.ne_of_gt hp)
  have h3 := Int.emod_lt_of_pos a hp
  have h4 : (2 : Nat) ^ m ≤ 2 ^ 31 := Nat.pow_le_pow_right (by decide) h
  have h5 : ((2 ^ m : Nat) : Int) ≤ ((2 ^ 31 : Nat) : Int) := Int.ofNat_le.mpr h4
  rw [p2c, p2c] at h5
  exact ⟨by omega, by omega⟩
set_option maxRecDepth 100000 in
theorem i_andm {a : Int} {m : Nat} (h : m ≤ 31) : Int32.ofInt (a % 2 ^ m) = Int32.ofInt a &&& Int32.ofInt (2 ^ m - 1) := by
  have hp : (0 : Int) < 2 ^ m := Int.pow_pos (by decide)
  have hm : (Int32.ofInt (2 ^ m - 1)).toBitVec.toNat = 2 ^ m - 1 := by
    have h4 : (2 : Nat) ^ m ≤ 2 ^ 31 := Nat.pow_le_pow_right (by decide) h
    have h5 : ((2 ^ m : Nat) : Int) ≤ ((2 ^ 31 : Nat) : Int) := Int.ofNat_le.mpr h4
    have h6 : 0 < 2 ^ m := Nat.pow_pos (by decide)
    rw [p2c, p2c] at h5
    rw [toBV, Int.emod_eq_of_lt (by omega) (by omega)]
    have : ((2 : Int) ^ m - 1) = ((2 ^ m - 1 : Nat) : Int) := by rw [Int.ofNat_sub h6, p2c]; rfl
    rw [this]
    rfl
  rw [pk_and _ m hm, nI_ofInt, toBV]
  congr 1
  have h2 := Int.emod_nonneg a (show (4294967296 : Int) ≠ 0 by decide)
  rw [Int.natCast_emod, Int.toNat_of_nonneg h2, p2c]
  have hd : (2 : Int) ^ m ∣ 4294967296 := by
    have : (4294967296 : Int) = 2 ^ m * 2 ^ (32 - m) := by
      rw [← Int.pow_add, show m + (32 - m) = 32 by omega]; rfl
    exact ⟨_, this⟩
  exact (Int.emod_emod_of_dvd a hd).symm
theorem i_and {a b : Int} (h0 : 0 ≤ a) (h1 : 0 ≤ b) : Int32.ofInt ((a.toNat &&& b.toNat : Nat) : Int) = Int32.ofInt a &&& Int32.ofInt b := by
  rw [ofInt_nI h0, ofInt_nI h1, ← nI_ofInt]
  refine Int32.toBitVec_inj.mp ?_
  show BitVec.ofNat 32 _ = BitVec.ofNat 32 _ &&& BitVec.ofNat 32 _
  exact BitVec.ofNat_and
theorem i_or {a b : Int} (h0 : 0 ≤ a) (h1 : 0 ≤ b) : Int32.ofInt ((a.toNat ||| b.toNat : Nat) : Int) = Int32.ofInt a ||| Int32.ofInt b := by
  rw [ofInt_nI h0, ofInt_nI h1, ← nI_ofInt]
  refine Int32.toBitVec_inj.mp ?_
  show BitVec.ofNat 32 _ = BitVec.ofNat 32 _ ||| BitVec.ofNat 32 _
  exact BitVec.ofNat_or
theorem inI_and {a b : Int} (ha : inI a) (h0 : 0 ≤ a) : inI ((a.toNat &&& b.toNat : Nat) : Int) := by
  have h := Nat.and_le_left (n := a.toNat) (m := b.toNat)
  have := ha.2
  exact ⟨by omega, by omega⟩
theorem inI_or {a b : Int} (ha : inI a) (hb : inI b) (h0 : 0 ≤ a) (h1 : 0 ≤ b) : inI ((a.toNat ||| b.toNat : Nat) : Int) := by
  have h := Nat.or_lt_two_pow (x := a.toNat) (y := b.toNat) (n := 31) (by have := ha.2; omega) (by have := hb.2; omega)
  exact ⟨by omega, by omega⟩
theorem i_i2b (a : Int) : (Int32.ofInt a).toInt8.toInt32 = Int32.ofInt (a.bmod 256) := by
  rw [← Int32.toInt_inj, ofInt_toInt (inI_bmod8 a), Int8.toInt_toInt32, Int32.toInt_toInt8, Int32.toInt_ofInt]
  exact Int.bmod_bmod_of_dvd (by decide)
theorem i_i2l {a : Int} (h : inI a) : (Int32.ofInt a).toInt64 = Int64.ofInt a := by
  rw [← Int64.toInt_inj, Int32.toInt_toInt64, ofInt_toInt h, ofInt_toInt64 (inL_of h)]
theorem i_l2i (a : Int) : (Int64.ofInt a).toInt32 = Int32.ofInt (a.bmod 4294967296) := by
  rw [ofInt_bmod, ← Int32.toInt_inj, Int64.toInt_toInt32, Int64.toInt_ofInt, Int32.toInt_ofInt]
  exact Int.bmod_bmod_of_dvd (by decide)
theorem l_lt {a b : Int} (ha : inL a) (hb : inL b) : Int64.ofInt a < Int64.ofInt b ↔ a < b := by
  rw [Int64.lt_iff_toInt_lt, ofInt_toInt64 ha, ofInt_toInt64 hb]
theorem l_eq {a b : Int} (ha : inL a) (hb : inL b) : Int64.ofInt a = Int64.ofInt b ↔ a = b := by
  rw [← Int64.toInt_inj, ofInt_toInt64 ha, ofInt_toInt64 hb]
theorem i_cl {i : Int} (h : inI i) : (Int32.ofInt i).toNatClampNeg = i.toNat := by
  show (Int32.ofInt i).toInt.toNat = _
  rw [ofInt_toInt h]
theorem i_in {i : Int} {N : Nat} (h : inI i) (h0 : 0 ≤ i) (h1 : i < N) : vp_in (Int32.ofInt i) N := by
  rw [vp_in_iff, ofInt_toInt h]
  exact ⟨h0, h1⟩
end NUM
section LOC
variable {G : Gl} {nL : Nat} {ls : List (Option V)} {a : Array Slot}
def noL : Option V → Bool
  | some (.inr (.inl _)) => false
  | _ => true
theorem okLs_at {ls : List (Option V)} {v : V} (i : Nat) (h : okLs ls) (e : ls[i]? = some (some v)) : okV v := by
  induction ls generalizing i with
  | nil => cases e
  | cons l t ih =>
    cases i with
    | zero =>
      cases e
      exact h.1
    | succ i =>
      refine ih i ?_ e
      cases l with
      | none => exact h
      | some u => exact h.2
theorem okLs_cons {l : Option V} {t : List (Option V)} : okLs (l :: t) ↔ (∀ v, l = some v → okV v) ∧ okLs t := by
  cases l with
  | none => exact ⟨fun h => ⟨fun v e => (by cases e), h⟩, fun h => h.2⟩
  | some u => exact ⟨fun h => ⟨fun v e => (by cases e; exact h.1), h.2⟩, fun h => ⟨h.1 u rfl, h.2⟩⟩
theorem okLs_setO {ls : List (Option V)} {o : Option V} (i : Nat) (h : okLs ls) (hv : ∀ v, o = some v → okV v) : okLs (ls.set i o) := by
  induction ls generalizing i with
  | nil => exact h
  | cons l t ih =>
    rw [okLs_cons] at h
    cases i with
    | zero => exact okLs_cons.mpr ⟨hv, h.2⟩
    | succ i => exact okLs_cons.mpr ⟨h.1, ih i h.2⟩
theorem okLs_set {ls ls' : List (Option V)} {v : V} (i : Nat) (h : okLs ls) (e : ls.set i (some v) = ls') (hv : okV v) : okLs ls' := e ▸ okLs_setO i h (fun u e => by cases e; exact hv)
theorem okLs_set2 {ls ls' : List (Option V)} {v : V} (i : Nat) (h : okLs ls) (e : (ls.set i (some v)).set (i + 1) none = ls') (hv : okV v) : okLs ls' := e ▸ okLs_setO (i + 1) (okLs_setO i h (fun u e => by cases e; exact hv)) (fun u e => by cases e)
def lp (G : Gl) (ls : List (Option V)) : List (Nat × Value) := (List.range ls.length).filterMap (fun i => match ls[i]? with
  | some (some v) => some (i, enc G v)
  | _ => none)
theorem mem_lp {i : Nat} {u : Value} : (i, u) ∈ lp G ls ↔ ∃ v, ls[i]? = some (some v) ∧ enc G v = u := by
  unfold lp
  rw [List.mem_filterMap]
  constructor
  · rintro ⟨j, hj, h⟩
    split at h
    · rename_i v hv
      cases h
      exact ⟨v, hv, rfl⟩
    · cases h
  · rintro ⟨v, hv, rfl⟩
    refine ⟨i, List.mem_range.mpr (List.getElem?_eq_some_iff.mp hv).1, ?_⟩
    simp only [hv]
theorem lsR_has (h : lsR G nL ls a) : lv_has a nL (lp G ls) := by
  refine ⟨h.1, h.2.2.1, fun q hq => ?_⟩
  obtain ⟨i, u⟩ := q
  obtain ⟨v, hv, rfl⟩ := mem_lp.mp hq
  exact h.2.2.2 i v hv
theorem lsR_pos (h : lsR G nL ls a) (i : Nat) {v : V} (e : ls[i]? = some (some v)) : ∃ q : Nat, (lp G ls)[q]? = some (i, enc G v) :=
  List.getElem?_of_mem (mem_lp.mpr ⟨v, e, rfl⟩)
theorem lsR_lt (h : lsR G nL ls a) (i : Nat) {o : Option V} (e : ls[i]? = some o) : i < nL := Nat.lt_of_lt_of_le (List.getElem?_eq_some_iff.mp e).1 h.2.1
theorem lsR_lt2 (h : lsR G nL ls a) (i : Nat) {o : Option V} (e : ls[i + 1]? = some o) : i + 1 < nL := Nat.lt_of_lt_of_le (List.getElem?_eq_some_iff.mp e).1 h.2.1
theorem lsR_put {i : Nat} {v : V} (h : lsR G nL ls a) (hi : i < ls.length) (hp : ∀ j, i = j + 1 → ∃ o, ls[j]? = some o ∧ noL o = true) (hv : vcat v = 1) :
    lv_has a nL (lp G ls) ∧ ∀ a2 : Array Slot, lv_has a2 nL ((i, enc G v) :: (lp G ls).filter (fun q => !(q.1 == i) && !(q.1 + 1 == i && q.2.category == 2))) → lsR G nL (ls.set i (some v)) a2 := by
  refine ⟨lsR_has h, fun a2 h2 => ⟨h2.1, by rw [List.length_set]; exact h.2.1, h2.2.1, fun j u hj => ?_⟩⟩
  by_cases e : j = i
  · subst e
    rw [List.getElem?_set_self hi] at hj
    cases hj
    exact h2.2.2 _ List.mem_cons_self
  · rw [List.getElem?_set_ne (Ne.symm e)] at hj
    refine h2.2.2 (j, enc G u) (List.mem_cons_of_mem _ (List.mem_filter.mpr ⟨mem_lp.mpr ⟨u, hj, rfl⟩, ?_⟩))
    simp only [Bool.and_eq_true, Bool.not_eq_true', beq_eq_false_iff_ne, ne_eq, Bool.and_eq_false_imp, beq_iff_eq]
    refine ⟨e, fun e2 => ?_⟩
    obtain ⟨o, ho, hn⟩ := hp j e2.symm
    rw [hj] at ho
    cases ho
    rw [enc_cat]
    rcases u with u | u | u
    · first | rfl | (intro q; cases q)
    · cases hn
    · first | rfl | (intro q; cases q)
theorem lsR_put2 {i : Nat} {v : V} (h : lsR G nL ls a) (hi : i + 1 < ls.length) (hp : ∀ j, i = j + 1 → ∃ o, ls[j]? = some o ∧ noL o = true) (hv : vcat v = 2) :
    lv_has a nL (lp G ls) ∧ ∀ a2 : Array Slot, lv_has a2 nL ((i, enc G v) :: (lp G ls).filter (fun q => !(q.1 == i) && (!(q.1 == i + 1) && !(q.1 + 1 == i && q.2.category == 2)))) → lsR G nL ((ls.set i (some v)).set (i + 1) none) a2 := by
  refine ⟨lsR_has h, fun a2 h2 => ⟨h2.1, by rw [List.length_set, List.length_set]; exact h.2.1, h2.2.1, fun j u hj => ?_⟩⟩
  by_cases e1 : j = i + 1
  · subst e1
    rw [List.getElem?_set_self (by rw [List.length_set]; exact hi)] at hj
    cases hj
  rw [List.getElem?_set_ne (Ne.symm e1)] at hj
  by_cases e : j = i
  · subst e
    rw [List.getElem?_set_self (by omega)] at hj
    cases hj
    exact h2.2.2 _ List.mem_cons_self
  · rw [List.getElem?_set_ne (Ne.symm e)] at hj
    refine h2.2.2 (j, enc G u) (List.mem_cons_of_mem _ (List.mem_filter.mpr ⟨mem_lp.mpr ⟨u, hj, rfl⟩, ?_⟩))
    simp only [Bool.and_eq_true, Bool.not_eq_true', beq_eq_false_iff_ne, ne_eq, Bool.and_eq_false_imp, beq_iff_eq]
    refine ⟨e, e1, fun e2 => ?_⟩
    obtain ⟨o, ho, hn⟩ := hp j e2.symm
    rw [hj] at ho
    cases ho
    rw [enc_cat]
    rcases u with u | u | u
    · first | rfl | (intro q; cases q)
    · cases hn
    · first | rfl | (intro q; cases q)
def aL : List V → List (Option V)
  | [] => []
  | v :: vs => some v :: (if vcat v = 2 then none :: aL vs else aL vs)
theorem aL_len (G : Gl) : ∀ vs : List V, (lg_sl (vs.map (enc G))).length = (aL vs).length
  | [] => rfl
  | v :: vs => by
    rw [List.map_cons, lg_sl, List.flatMap_cons, List.length_append, ← lg_sl, aL_len G vs, enc_cat, aL, List.length_cons]
    split <;> simp <;> omega
theorem aL_mem (G : Gl) : ∀ (vs : List V) (off i : Nat) (v : V), (aL vs)[i]? = some (some v) → (off + i, enc G v) ∈ lv_args off (vs.map (enc G))
  | [], off, i, v, h => by cases h
  | u :: vs, off, i, v, h => by
    rw [List.map_cons, lv_args, enc_cat]
    rw [aL] at h
    cases i with
    | zero =>
      cases h
      exact List.mem_cons_self
    | succ i =>
      refine List.mem_cons_of_mem _ ?_
      rw [List.getElem?_cons_succ] at h
      split
      · rename_i hc
        rw [if_pos hc] at h
        cases i with
        | zero => cases h
        | succ i =>
          have := aL_mem G vs (off + 2) i v h
          rw [show off + (i + 1 + 1) = off + 2 + i by omega]
          exact this
      · rename_i hc
        rw [if_neg hc] at h
        have := aL_mem G vs (off + 1) i v h
        rw [show off + (i + 1) = off + 1 + i by omega]
        exact this
theorem lsR_entry (G : Gl) (vs : List V) {nL : Nat} (h : (aL vs).length ≤ nL) :
    lsR G nL (aL vs ++ List.replicate (nL - (aL vs).length) none) ((lg_sl (vs.map (enc G)) ++ List.replicate (nL - (lg_sl (vs.map (enc G))).length) Slot.unset).toArray) := by
  have hh := lv_entry (vs.map (enc G)) (n := nL) (by rw [aL_len]; exact h)
  refine ⟨hh.1, by simp; omega, hh.2.1, fun i v hi => ?_⟩
  have hm : (aL vs)[i]? = some (some v) := by
    by_cases hl : i < (aL vs).length
    · rwa [List.getElem?_append_left hl] at hi
    · rw [List.getElem?_append_right (by omega)] at hi
      have := List.mem_of_getElem? hi
      rw [List.mem_replicate] at this
      cases this.2
  have := aL_mem G vs 0 i v hm
  rw [Nat.zero_add] at this
  exact hh.2.2 _ this
theorem okLs_aL : ∀ (vs : List V) (m : Nat), okVs vs → okLs (aL vs ++ List.replicate m none)
  | [], m, _ => by
    induction m with
    | zero => exact trivial
    | succ m ih => exact ih
  | v :: vs, m, h => by
    rw [aL]
    split
    · exact ⟨h.1, okLs_aL vs m h.2⟩
    · exact ⟨h.1, okLs_aL vs m h.2⟩
end LOC
theorem i_lcmp {a b : Int} (ha : inL a) (hb : inL b) : lg_cmp (Int64.ofInt a) (Int64.ofInt b) = Int32.ofInt (if a < b then -1 else if a = b then 0 else 1) := by
  unfold lg_cmp
  simp only [gt_iff_lt, l_lt hb ha, l_eq ha hb]
  split
  · rw [if_neg (by omega), if_neg (by omega)]; rfl
  · split
    · rw [if_neg (by omega)]; rfl
    · rw [if_pos (by omega)]; rfl

section RULES
variable {G : Gl} {S : Sh} {C : Cx} {Z : State → Prop} {k w n : Nat} {pc : Nat} {ls : List (Option V)} {st : List V} {M : Mem} {y : Mt}
theorem R_iconst (hC : CxOK G y C) {c : Int} (hd : decode y.2.1 pc = .ok (.iconst c, 1)) (hc : inI c) (kk : RZ G S C Z k w n (pc + 1) ls (vI c :: st) M) : RZ G S C Z k w n pc ls (st) M := by
  intro H locs ar hp hs hm hl hv ha
  exact lv_iconst hC.1 hC.2.1 hd rfl (kk H locs ar hp hs hm hl ⟨hc, hv⟩ ha)
theorem R_bipush (hC : CxOK G y C) {c : Int} (hd : decode y.2.1 pc = .ok (.bipush c, 2)) (hb : (Int8.ofInt c).toInt32 = Int32.ofInt c) (hc : inI c) (kk : RZ G S C Z k w n (pc + 2) ls (vI c :: st) M) : RZ G S C Z k w n pc ls (st) M := by
  intro H locs ar hp hs hm hl hv ha
  exact lv_bipush hC.1 hC.2.1 hd hb (kk H locs ar hp hs hm hl ⟨hc, hv⟩ ha)
theorem R_sipush (hC : CxOK G y C) {c : Int} (hd : decode y.2.1 pc = .ok (.sipush c, 3)) (hb : (Int16.ofInt c).toInt32 = Int32.ofInt c) (hc : inI c) (kk : RZ G S C Z k w n (pc + 3) ls (vI c :: st) M) : RZ G S C Z k w n pc ls (st) M := by
  intro H locs ar hp hs hm hl hv ha
  exact lv_sipush hC.1 hC.2.1 hd hb (kk H locs ar hp hs hm hl ⟨hc, hv⟩ ha)
theorem R_lconst (hC : CxOK G y C) {c : Fin 2} (hd : decode y.2.1 pc = .ok (.lconst c, 1))  (kk : RZ G S C Z k w n (pc + 1) ls (vL ((c : Nat) : Int) :: st) M) : RZ G S C Z k w n pc ls (st) M := by
  intro H locs ar hp hs hm hl hv ha
  refine lv_lconst hC.1 hC.2.1 hd (v := Int64.ofInt ((c : Nat) : Int)) ?_ (kk H locs ar hp hs hm hl ⟨?_, hv⟩ ha)
  · exact (Int64.ofInt_eq_ofNat (n := (c : Nat))).symm
  · have := c.isLt
    exact (show inL _ from ⟨by omega, by omega⟩)
theorem R_iadd (hC : CxOK G y C) {a b : Int} (hd : decode y.2.1 pc = .ok (.iadd, 1)) (hc : inI (a + b)) (kk : RZ G S C Z k w n (pc + 1) ls (vI (a + b) :: st) M) : RZ G S C Z k w n pc ls (vI b :: vI a :: st) M := by
  intro H locs ar hp hs hm hl hv ha
  refine lv_iadd hC.1 hC.2.1 hd ?_
  rw [← Int32.ofInt_add]
  exact kk H locs ar hp hs hm hl ⟨hc, hv.2.2⟩ ha
theorem R_iaddw (hC : CxOK G y C) {a b : Int} (hd : decode y.2.1 pc = .ok (.iadd, 1))  (kk : RZ G S C Z k w n (pc + 1) ls (vI ((a + b).bmod 4294967296) :: st) M) : RZ G S C Z k w n pc ls (vI b :: vI a :: st) M := by
  intro H locs ar hp hs hm hl hv ha
  refine lv_iadd hC.1 hC.2.1 hd ?_
  rw [← Int32.ofInt_add, ← ofInt_bmod (a + b)]
  exact kk H locs ar hp hs hm hl ⟨inI_bmod _, hv.2.2⟩ ha
theorem R_isub (hC : CxOK G y C) {a b : Int} (hd : decode y.2.1 pc = .ok (.isub, 1)) (hc : inI (a - b)) (kk : RZ G S C Z k w n (pc + 1) ls (vI (a - b) :: st) M) : RZ G S C Z k w n pc ls (vI b :: vI a :: st) M := by
  intro H locs ar hp hs hm hl hv ha
  refine lv_isub hC.1 hC.2.1 hd ?_
  rw [← Int32.ofInt_sub]
  exact kk H locs ar hp hs hm hl ⟨hc, hv.2.2⟩ ha
theorem R_imul (hC : CxOK G y C) {a b : Int} (hd : decode y.2.1 pc = .ok (.imul, 1)) (hc : inI (a * b)) (kk : RZ G S C Z k w n (pc + 1) ls (vI (a * b) :: st) M) : RZ G S C Z k w n pc ls (vI b :: vI a :: st) M := by
  intro H locs ar hp hs hm hl hv ha
  refine lv_imul hC.1 hC.2.1 hd ?_
  rw [← Int32.ofInt_mul]
  exact kk H locs ar hp hs hm hl ⟨hc, hv.2.2⟩ ha
theorem R_imulw (hC : CxOK G y C) {a b : Int} (hd : decode y.2.1 pc = .ok (.imul, 1))  (kk : RZ G S C Z k w n (pc + 1) ls (vI ((a * b).bmod 4294967296) :: st) M) : RZ G S C Z k w n pc ls (vI b :: vI a :: st) M := by
  intro H locs ar hp hs hm hl hv ha
  refine lv_imul hC.1 hC.2.1 hd ?_
  rw [← Int32.ofInt_mul, ← ofInt_bmod (a * b)]
  exact kk H locs ar hp hs hm hl ⟨inI_bmod _, hv.2.2⟩ ha
theorem R_idiv (hC : CxOK G y C) {a b : Int} (hd : decode y.2.1 pc = .ok (.idiv, 1)) (h0 : 0 ≤ a) (h1 : 0 < b) (kk : RZ G S C Z k w n (pc + 1) ls (vI (a / b) :: st) M) : RZ G S C Z k w n pc ls (vI b :: vI a :: st) M := by
  intro H locs ar hp hs hm hl hv ha
  refine lv_idiv hC.1 hC.2.1 hd (ne0 hv.1 h1) ?_
  rw [← i_div hv.2.1 hv.1 h0 h1]
  exact kk H locs ar hp hs hm hl ⟨inI_div hv.2.1 h0 h1, hv.2.2⟩ ha
theorem R_irem (hC : CxOK G y C) {a b : Int} (hd : decode y.2.1 pc = .ok (.irem, 1)) (h0 : 0 ≤ a) (h1 : 0 < b) (kk : RZ G S C Z k w n (pc + 1) ls (vI (a % b) :: st) M) : RZ G S C Z k w n pc ls (vI b :: vI a :: st) M := by
  intro H locs ar hp hs hm hl hv ha
  refine lv_irem hC.1 hC.2.1 hd (ne0 hv.1 h1) ?_
  rw [← i_mod hv.2.1 hv.1 h0 h1]
  exact kk H locs ar hp hs hm hl ⟨inI_mod hv.1 h1, hv.2.2⟩ ha
theorem R_ishl (hC : CxOK G y C) {a b : Int} (hd : decode y.2.1 pc = .ok (.ishl, 1)) (h0 : 0 ≤ b) (h1 : b < 32) (hr : inI (a * 2 ^ b.toNat)) (kk : RZ G S C Z k w n (pc + 1) ls (vI (a * 2 ^ b.toNat) :: st) M) : RZ G S C Z k w n pc ls (vI b :: vI a :: st) M := by
  intro H locs ar hp hs hm hl hv ha
  refine lv_ishl hC.1 hC.2.1 hd  ?_
  rw [← i_shl h0 h1]
  exact kk H locs ar hp hs hm hl ⟨hr, hv.2.2⟩ ha
theorem R_ishr (hC : CxOK G y C) {a b : Int} (hd : decode y.2.1 pc = .ok (.ishr, 1)) (h0 : 0 ≤ b) (h1 : b < 32) (kk : RZ G S C Z k w n (pc + 1) ls (vI (a / 2 ^ b.toNat) :: st) M) : RZ G S C Z k w n pc ls (vI b :: vI a :: st) M := by
  intro H locs ar hp hs hm hl hv ha
  refine lv_ishr hC.1 hC.2.1 hd  ?_
  rw [← i_shr hv.2.1 h0 h1]
  exact kk H locs ar hp hs hm hl ⟨inI_shr hv.2.1 b.toNat, hv.2.2⟩ ha
theorem R_iushr (hC : CxOK G y C) {a b : Int} (hd : decode y.2.1 pc = .ok (.iushr, 1)) (h0 : 0 ≤ b) (h1 : b < 32) (kk : RZ G S C Z k w n (pc + 1) ls (vI ((a % 4294967296 / 2 ^ b.toNat).bmod 4294967296) :: st) M) : RZ G S C Z k w n pc ls (vI b :: vI a :: st) M := by
  intro H locs ar hp hs hm hl hv ha
  refine lv_iushr hC.1 hC.2.1 hd rfl ?_
  rw [i_ushr h0 h1]
  exact kk H locs ar hp hs hm hl ⟨inI_bmod _, hv.2.2⟩ ha
theorem R_iandm (hC : CxOK G y C) {a b : Int} (hd : decode y.2.1 pc = .ok (.iand, 1)) {m : Nat} (hb : b = 2 ^ m - 1) (hm31 : m ≤ 31) (kk : RZ G S C Z k w n (pc + 1) ls (vI (a % 2 ^ m) :: st) M) : RZ G S C Z k w n pc ls (vI b :: vI a :: st) M := by
  intro H locs ar hp hs hm hl hv ha
  refine lv_iand hC.1 hC.2.1 hd  ?_
  rw [hb, ← i_andm hm31]
  exact kk H locs ar hp hs hm hl ⟨inI_modp a m hm31, hv.2.2⟩ ha
theorem R_iand (hC : CxOK G y C) {a b : Int} (hd : decode y.2.1 pc = .ok (.iand, 1)) (h0 : 0 ≤ a) (h1 : 0 ≤ b) (kk : RZ G S C Z k w n (pc + 1) ls (vI (((a.toNat &&& b.toNat : Nat) : Int)) :: st) M) : RZ G S C Z k w n pc ls (vI b :: vI a :: st) M := by
  intro H locs ar hp hs hm hl hv ha
  refine lv_iand hC.1 hC.2.1 hd  ?_
  rw [← i_and h0 h1]
  exact kk H locs ar hp hs hm hl ⟨inI_and hv.2.1 h0, hv.2.2⟩ ha
theorem R_ior (hC : CxOK G y C) {a b : Int} (hd : decode y.2.1 pc = .ok (.ior, 1)) (h0 : 0 ≤ a) (h1 : 0 ≤ b) (kk : RZ G S C Z k w n (pc + 1) ls (vI (((a.toNat ||| b.toNat : Nat) : Int)) :: st) M) : RZ G S C Z k w n pc ls (vI b :: vI a :: st) M := by
  intro H locs ar hp hs hm hl hv ha
  refine lv_ior hC.1 hC.2.1 hd  ?_
  rw [← i_or h0 h1]
  exact kk H locs ar hp hs hm hl ⟨inI_or hv.2.1 hv.1 h0 h1, hv.2.2⟩ ha
theorem R_i2b (hC : CxOK G y C) {a : Int} (hd : decode y.2.1 pc = .ok (.i2b, 1))  (kk : RZ G S C Z k w n (pc + 1) ls (vI (a.bmod 256) :: st) M) : RZ G S C Z k w n pc ls (vI a :: st) M := by
  intro H locs ar hp hs hm hl hv ha
  refine lv_i2b hC.1 hC.2.1 hd rfl ?_
  rw [i_i2b]
  exact kk H locs ar hp hs hm hl ⟨inI_bmod8 _, hv.2⟩ ha
theorem R_i2l (hC : CxOK G y C) {a : Int} (hd : decode y.2.1 pc = .ok (.i2l, 1))  (kk : RZ G S C Z k w n (pc + 1) ls (vL a :: st) M) : RZ G S C Z k w n pc ls (vI a :: st) M := by
  intro H locs ar hp hs hm hl hv ha
  refine lv_i2l hC.1 hC.2.1 hd rfl ?_
  rw [i_i2l hv.1]
  exact kk H locs ar hp hs hm hl ⟨inL_of hv.1, hv.2⟩ ha
theorem R_l2i (hC : CxOK G y C) {a : Int} (hd : decode y.2.1 pc = .ok (.l2i, 1))  (kk : RZ G S C Z k w n (pc + 1) ls (vI (a.bmod 4294967296) :: st) M) : RZ G S C Z k w n pc ls (vL a :: st) M := by
  intro H locs ar hp hs hm hl hv ha
  refine lv_l2i hC.1 hC.2.1 hd rfl ?_
  rw [i_l2i]
  exact kk H locs ar hp hs hm hl ⟨inI_bmod _, hv.2⟩ ha
theorem R_land (hC : CxOK G y C) {a b : Int} (hd : decode y.2.1 pc = .ok (.land, 1))  (kk : RZ G S C Z k w n (pc + 1) ls (vL (Int64.ofInt a &&& Int64.ofInt b).toInt :: st) M) : RZ G S C Z k w n pc ls (vL b :: vL a :: st) M := by
  intro H locs ar hp hs hm hl hv ha
  refine lv_land hC.1 hC.2.1 hd ?_
  have h := kk H locs ar hp hs hm hl ⟨inL_toInt _, hv.2.2⟩ ha
  rw [List.map_cons] at h
  rw [show enc G (vL (Int64.ofInt a &&& Int64.ofInt b).toInt) = .long (Int64.ofInt a &&& Int64.ofInt b) from congrArg Value.long (Int64.ofInt_toInt _)] at h
  exact h
theorem R_lor (hC : CxOK G y C) {a b : Int} (hd : decode y.2.1 pc = .ok (.lor, 1))  (kk : RZ G S C Z k w n (pc + 1) ls (vL (Int64.ofInt a ||| Int64.ofInt b).toInt :: st) M) : RZ G S C Z k w n pc ls (vL b :: vL a :: st) M := by
  intro H locs ar hp hs hm hl hv ha
  refine lv_lor hC.1 hC.2.1 hd ?_
  have h := kk H locs ar hp hs hm hl ⟨inL_toInt _, hv.2.2⟩ ha
  rw [List.map_cons] at h
  rw [show enc G (vL (Int64.ofInt a ||| Int64.ofInt b).toInt) = .long (Int64.ofInt a ||| Int64.ofInt b) from congrArg Value.long (Int64.ofInt_toInt _)] at h
  exact h
theorem R_lshl (hC : CxOK G y C) {a b : Int} (hd : decode y.2.1 pc = .ok (.lshl, 1))  (kk : RZ G S C Z k w n (pc + 1) ls (vL (Int64.ofInt a <<< ((Int32.ofInt b).toInt64 &&& 63)).toInt :: st) M) : RZ G S C Z k w n pc ls (vI b :: vL a :: st) M := by
  intro H locs ar hp hs hm hl hv ha
  refine lv_lshl hC.1 hC.2.1 hd rfl ?_
  have h := kk H locs ar hp hs hm hl ⟨inL_toInt _, hv.2.2⟩ ha
  rw [List.map_cons] at h
  rw [show enc G (vL (Int64.ofInt a <<< ((Int32.ofInt b).toInt64 &&& 63)).toInt) = .long (Int64.ofInt a <<< ((Int32.ofInt b).toInt64 &&& 63)) from congrArg Value.long (Int64.ofInt_toInt _)] at h
  exact h
theorem R_lushr (hC : CxOK G y C) {a b : Int} (hd : decode y.2.1 pc = .ok (.lushr, 1))  (kk : RZ G S C Z k w n (pc + 1) ls (vL ((Int64.ofInt a).toUInt64 >>> ((Int32.ofInt b).toInt64.toUInt64 &&& Int64.toUInt64 63)).toInt64.toInt :: st) M) : RZ G S C Z k w n pc ls (vI b :: vL a :: st) M := by
  intro H locs ar hp hs hm hl hv ha
  refine lv_lushr hC.1 hC.2.1 hd rfl ?_
  have h := kk H locs ar hp hs hm hl ⟨inL_toInt _, hv.2.2⟩ ha
  rw [List.map_cons] at h
  rw [show enc G (vL ((Int64.ofInt a).toUInt64 >>> ((Int32.ofInt b).toInt64.toUInt64 &&& Int64.toUInt64 63)).toInt64.toInt) = .long ((Int64.ofInt a).toUInt64 >>> ((Int32.ofInt b).toInt64.toUInt64 &&& Int64.toUInt64 63)).toInt64 from congrArg Value.long (Int64.ofInt_toInt _)] at h
  exact h
theorem R_lcmp (hC : CxOK G y C) {a b : Int} (hd : decode y.2.1 pc = .ok (.lcmp, 1))  (kk : RZ G S C Z k w n (pc + 1) ls (vI (if a < b then -1 else if a = b then 0 else 1) :: st) M) : RZ G S C Z k w n pc ls (vL b :: vL a :: st) M := by
  intro H locs ar hp hs hm hl hv ha
  refine W.lcmp hC.1 hC.2.1 hd ?_
  rw [i_lcmp hv.2.1 hv.1]
  exact kk H locs ar hp hs hm hl ⟨by split; exact ⟨by decide, by decide⟩; split <;> exact ⟨by decide, by decide⟩, hv.2.2⟩ ha
theorem R_dup (hC : CxOK G y C) {v : V} (hd : decode y.2.1 pc = .ok (.dup, 1)) (hc : vcat v = 1) (kk : RZ G S C Z k w n (pc + 1) ls (v :: v :: st) M) : RZ G S C Z k w n pc ls (v :: st) M := by
  intro H locs ar hp hs hm hl hv ha
  exact lv_dup hC.1 hC.2.1 hd (by rw [enc_cat]; exact hc) (kk H locs ar hp hs hm hl ⟨hv.1, hv⟩ ha)
theorem R_dup_x1 (hC : CxOK G y C) {v u : V} (hd : decode y.2.1 pc = .ok (.dup_x1, 1)) (hc : vcat v = 1) (hc2 : vcat u = 1) (kk : RZ G S C Z k w n (pc + 1) ls (v :: u :: v :: st) M) : RZ G S C Z k w n pc ls (v :: u :: st) M := by
  intro H locs ar hp hs hm hl hv ha
  exact lv_dup_x1 hC.1 hC.2.1 hd (by rw [enc_cat]; exact hc) (by rw [enc_cat]; exact hc2) (kk H locs ar hp hs hm hl ⟨hv.1, hv.2.1, hv.1, hv.2.2⟩ ha)
theorem R_dup_x2 (hC : CxOK G y C) {v u t : V} (hd : decode y.2.1 pc = .ok (.dup_x2, 1)) (hc : vcat v = 1) (hc2 : vcat u = 1) (hc3 : vcat t = 1) (kk : RZ G S C Z k w n (pc + 1) ls (v :: u :: t :: v :: st) M) : RZ G S C Z k w n pc ls (v :: u :: t :: st) M := by
  intro H locs ar hp hs hm hl hv ha
  exact lv_dup_x2 hC.1 hC.2.1 hd (by rw [enc_cat]; exact hc) (by rw [enc_cat]; exact hc2) (by rw [enc_cat]; exact hc3) (kk H locs ar hp hs hm hl ⟨hv.1, hv.2.1, hv.2.2.1, hv.1, hv.2.2.2⟩ ha)
theorem R_dup2 (hC : CxOK G y C) {v u : V} (hd : decode y.2.1 pc = .ok (.dup2, 1)) (hc : vcat v = 1) (hc2 : vcat u = 1) (kk : RZ G S C Z k w n (pc + 1) ls (v :: u :: v :: u :: st) M) : RZ G S C Z k w n pc ls (v :: u :: st) M := by
  intro H locs ar hp hs hm hl hv ha
  exact lv_dup2_11 hC.1 hC.2.1 hd (by rw [enc_cat]; exact hc) (by rw [enc_cat]; exact hc2) (kk H locs ar hp hs hm hl ⟨hv.1, hv.2.1, hv.1, hv.2⟩ ha)
theorem R_pop (hC : CxOK G y C) {v : V} (hd : decode y.2.1 pc = .ok (.pop, 1)) (hc : vcat v = 1) (kk : RZ G S C Z k w n (pc + 1) ls (st) M) : RZ G S C Z k w n pc ls (v :: st) M := by
  intro H locs ar hp hs hm hl hv ha
  exact lv_pop hC.1 hC.2.1 hd (by rw [enc_cat]; exact hc) (kk H locs ar hp hs hm hl hv.2 ha)
theorem R_goto (hC : CxOK G y C) {off : Int} {tgt : Nat} (hd : decode y.2.1 pc = .ok (.goto off, 3)) (ht : (pc : Int) + off = (tgt : Int)) (kk : RZ G S C Z k w n tgt ls st M) : RZ G S C Z k w n pc ls st M :=
  fun H locs a hp hs hm hl hv ha => lv_goto hC.1 hC.2.1 hd ht (kk H locs a hp hs hm hl hv ha)
theorem R_icmp_ge (hC : CxOK G y C) {a b off : Int} {tgt : Nat} (hd : decode y.2.1 pc = .ok (.if_icmp .ge off, 3)) (ht : (pc : Int) + off = (tgt : Int)) (kt : b ≤ a → RZ G S C Z k w n tgt ls st M) (kf : a < b → RZ G S C Z k w n (pc + 3) ls st M) : RZ G S C Z k w n pc ls (vI b :: vI a :: st) M := by
  intro H locs ar hp hs hm hl hv ha
  refine lv_icmp_ge hC.1 hC.2.1 hd ht (fun h => kt ((i_le hv.1 hv.2.1).mp h) H locs ar hp hs hm hl hv.2.2 ha) (fun h => kf ?_ H locs ar hp hs hm hl hv.2.2 ha)
  rw [i_le hv.1 hv.2.1] at h
  exact Int.not_le.mp h
theorem R_if_ge (hC : CxOK G y C) {a off : Int} {tgt : Nat} (hd : decode y.2.1 pc = .ok (.ifCond .ge off, 3)) (ht : (pc : Int) + off = (tgt : Int)) (kt : 0 ≤ a → RZ G S C Z k w n tgt ls st M) (kf : a < 0 → RZ G S C Z k w n (pc + 3) ls st M) : RZ G S C Z k w n pc ls (vI a :: st) M := by
  intro H locs ar hp hs hm hl hv ha
  have z0 : inI 0 := ⟨by decide, by decide⟩
  refine lv_if_ge hC.1 hC.2.1 hd ht (fun h => kt ((i_le (a := 0) z0 hv.1).mp h) H locs ar hp hs hm hl hv.2 ha) (fun h => kf ?_ H locs ar hp hs hm hl hv.2 ha)
  exact Int.not_le.mp (fun q => h ((i_le (a := 0) z0 hv.1).mpr q))
theorem R_icmp_lt (hC : CxOK G y C) {a b off : Int} {tgt : Nat} (hd : decode y.2.1 pc = .ok (.if_icmp .lt off, 3)) (ht : (pc : Int) + off = (tgt : Int)) (kt : a < b → RZ G S C Z k w n tgt ls st M) (kf : b ≤ a → RZ G S C Z k w n (pc + 3) ls st M) : RZ G S C Z k w n pc ls (vI b :: vI a :: st) M := by
  intro H locs ar hp hs hm hl hv ha
  refine lv_icmp_lt hC.1 hC.2.1 hd ht (fun h => kt ((i_lt hv.2.1 hv.1).mp h) H locs ar hp hs hm hl hv.2.2 ha) (fun h => kf ?_ H locs ar hp hs hm hl hv.2.2 ha)
  rw [i_lt hv.2.1 hv.1] at h
  exact Int.not_lt.mp h
theorem R_if_lt (hC : CxOK G y C) {a off : Int} {tgt : Nat} (hd : decode y.2.1 pc = .ok (.ifCond .lt off, 3)) (ht : (pc : Int) + off = (tgt : Int)) (kt : a < 0 → RZ G S C Z k w n tgt ls st M) (kf : 0 ≤ a → RZ G S C Z k w n (pc + 3) ls st M) : RZ G S C Z k w n pc ls (vI a :: st) M := by
  intro H locs ar hp hs hm hl hv ha
  have z0 : inI 0 := ⟨by decide, by decide⟩
  refine lv_if_lt hC.1 hC.2.1 hd ht (fun h => kt ((i_lt (b := 0) hv.1 z0).mp h) H locs ar hp hs hm hl hv.2 ha) (fun h => kf ?_ H locs ar hp hs hm hl hv.2 ha)
  exact Int.not_lt.mp (fun q => h ((i_lt (b := 0) hv.1 z0).mpr q))
theorem R_icmp_gt (hC : CxOK G y C) {a b off : Int} {tgt : Nat} (hd : decode y.2.1 pc = .ok (.if_icmp .gt off, 3)) (ht : (pc : Int) + off = (tgt : Int)) (kt : b < a → RZ G S C Z k w n tgt ls st M) (kf : a ≤ b → RZ G S C Z k w n (pc + 3) ls st M) : RZ G S C Z k w n pc ls (vI b :: vI a :: st) M := by
  intro H locs ar hp hs hm hl hv ha
  refine lv_icmp_gt hC.1 hC.2.1 hd ht (fun h => kt ((i_lt hv.1 hv.2.1).mp h) H locs ar hp hs hm hl hv.2.2 ha) (fun h => kf ?_ H locs ar hp hs hm hl hv.2.2 ha)
  rw [i_lt hv.1 hv.2.1] at h
  exact Int.not_lt.mp h
theorem R_if_gt (hC : CxOK G y C) {a off : Int} {tgt : Nat} (hd : decode y.2.1 pc = .ok (.ifCond .gt off, 3)) (ht : (pc : Int) + off = (tgt : Int)) (kt : 0 < a → RZ G S C Z k w n tgt ls st M) (kf : a ≤ 0 → RZ G S C Z k w n (pc + 3) ls st M) : RZ G S C Z k w n pc ls (vI a :: st) M := by
  intro H locs ar hp hs hm hl hv ha
  have z0 : inI 0 := ⟨by decide, by decide⟩
  refine lv_if_gt hC.1 hC.2.1 hd ht (fun h => kt ((i_lt (a := 0) z0 hv.1).mp h) H locs ar hp hs hm hl hv.2 ha) (fun h => kf ?_ H locs ar hp hs hm hl hv.2 ha)
  exact Int.not_lt.mp (fun q => h ((i_lt (a := 0) z0 hv.1).mpr q))
theorem R_icmp_le (hC : CxOK G y C) {a b off : Int} {tgt : Nat} (hd : decode y.2.1 pc = .ok (.if_icmp .le off, 3)) (ht : (pc : Int) + off = (tgt : Int)) (kt : a ≤ b → RZ G S C Z k w n tgt ls st M) (kf : b < a → RZ G S C Z k w n (pc + 3) ls st M) : RZ G S C Z k w n pc ls (vI b :: vI a :: st) M := by
  intro H locs ar hp hs hm hl hv ha
  refine lv_icmp_le hC.1 hC.2.1 hd ht (fun h => kt ((i_le hv.2.1 hv.1).mp h) H locs ar hp hs hm hl hv.2.2 ha) (fun h => kf ?_ H locs ar hp hs hm hl hv.2.2 ha)
  rw [i_le hv.2.1 hv.1] at h
  exact Int.not_le.mp h
theorem R_if_le (hC : CxOK G y C) {a off : Int} {tgt : Nat} (hd : decode y.2.1 pc = .ok (.ifCond .le off, 3)) (ht : (pc : Int) + off = (tgt : Int)) (kt : a ≤ 0 → RZ G S C Z k w n tgt ls st M) (kf : 0 < a → RZ G S C Z k w n (pc + 3) ls st M) : RZ G S C Z k w n pc ls (vI a :: st) M := by
  intro H locs ar hp hs hm hl hv ha
  have z0 : inI 0 := ⟨by decide, by decide⟩
  refine lv_if_le hC.1 hC.2.1 hd ht (fun h => kt ((i_le (b := 0) hv.1 z0).mp h) H locs ar hp hs hm hl hv.2 ha) (fun h => kf ?_ H locs ar hp hs hm hl hv.2 ha)
  exact Int.not_le.mp (fun q => h ((i_le (b := 0) hv.1 z0).mpr q))
theorem R_icmp_eq (hC : CxOK G y C) {a b off : Int} {tgt : Nat} (hd : decode y.2.1 pc = .ok (.if_icmp .eq off, 3)) (ht : (pc : Int) + off = (tgt : Int)) (kt : a = b → RZ G S C Z k w n tgt ls st M) (kf : a ≠ b → RZ G S C Z k w n (pc + 3) ls st M) : RZ G S C Z k w n pc ls (vI b :: vI a :: st) M := by
  intro H locs ar hp hs hm hl hv ha
  refine lv_icmp_eq hC.1 hC.2.1 hd ht (fun h => kt ((i_eq hv.2.1 hv.1).mp h) H locs ar hp hs hm hl hv.2.2 ha) (fun h => kf ?_ H locs ar hp hs hm hl hv.2.2 ha)
  rw [i_eq hv.2.1 hv.1] at h
  exact h
theorem R_if_eq (hC : CxOK G y C) {a off : Int} {tgt : Nat} (hd : decode y.2.1 pc = .ok (.ifCond .eq off, 3)) (ht : (pc : Int) + off = (tgt : Int)) (kt : a = 0 → RZ G S C Z k w n tgt ls st M) (kf : a ≠ 0 → RZ G S C Z k w n (pc + 3) ls st M) : RZ G S C Z k w n pc ls (vI a :: st) M := by
  intro H locs ar hp hs hm hl hv ha
  have z0 : inI 0 := ⟨by decide, by decide⟩
  refine lv_if_eq hC.1 hC.2.1 hd ht (fun h => kt ((i_eq (b := 0) hv.1 z0).mp h) H locs ar hp hs hm hl hv.2 ha) (fun h => kf ?_ H locs ar hp hs hm hl hv.2 ha)
  exact (fun q => h ((i_eq (b := 0) hv.1 z0).mpr q))
theorem R_icmp_ne (hC : CxOK G y C) {a b off : Int} {tgt : Nat} (hd : decode y.2.1 pc = .ok (.if_icmp .ne off, 3)) (ht : (pc : Int) + off = (tgt : Int)) (kt : a ≠ b → RZ G S C Z k w n tgt ls st M) (kf : a = b → RZ G S C Z k w n (pc + 3) ls st M) : RZ G S C Z k w n pc ls (vI b :: vI a :: st) M := by
  intro H locs ar hp hs hm hl hv ha
  refine lv_icmp_ne hC.1 hC.2.1 hd ht (fun h => kt (fun e => h ((i_eq hv.2.1 hv.1).mpr e)) H locs ar hp hs hm hl hv.2.2 ha) (fun h => kf ?_ H locs ar hp hs hm hl hv.2.2 ha)
  exact (i_eq hv.2.1 hv.1).mp h
theorem R_if_ne (hC : CxOK G y C) {a off : Int} {tgt : Nat} (hd : decode y.2.1 pc = .ok (.ifCond .ne off, 3)) (ht : (pc : Int) + off = (tgt : Int)) (kt : a ≠ 0 → RZ G S C Z k w n tgt ls st M) (kf : a = 0 → RZ G S C Z k w n (pc + 3) ls st M) : RZ G S C Z k w n pc ls (vI a :: st) M := by
  intro H locs ar hp hs hm hl hv ha
  refine lv_if_ne hC.1 hC.2.1 hd ht (fun h => kt (fun e => h (by rw [e]; rfl)) H locs ar hp hs hm hl hv.2 ha) (fun h => kf ?_ H locs ar hp hs hm hl hv.2 ha)
  exact (i_eq (b := 0) hv.1 ⟨by decide, by decide⟩).mp h
theorem R_tableIn (hC : CxOK G y C) {dflt lo hi : Int} {offs : Array Int} {len : Nat} {a off : Int} {tgt : Nat} (hd : decode y.2.1 pc = .ok (.tableswitch dflt lo hi offs, len)) (h1 : lo ≤ a) (h2 : a ≤ hi) (ho : offs[(a - lo).toNat]? = some off) (ht : (pc : Int) + off = (tgt : Int)) (kk : RZ G S C Z k w n tgt ls st M) : RZ G S C Z k w n pc ls (vI a :: st) M := by
  intro H locs ar hp hs hm hl hv ha
  refine lv_tableIn hC.1 hC.2.1 hd (off := off) ?_ ?_ ?_ ht (kk H locs ar hp hs hm hl hv.2 ha) <;> rw [ofInt_toInt hv.1]
  · exact Int.not_lt.mpr h1
  · exact Int.not_lt.mpr h2
  · exact ho
theorem R_tableOut (hC : CxOK G y C) {dflt lo hi : Int} {offs : Array Int} {len : Nat} {a : Int} {tgt : Nat} (hd : decode y.2.1 pc = .ok (.tableswitch dflt lo hi offs, len)) (h1 : a < lo ∨ hi < a) (ht : (pc : Int) + dflt = (tgt : Int)) (kk : RZ G S C Z k w n tgt ls st M) : RZ G S C Z k w n pc ls (vI a :: st) M := by
  intro H locs ar hp hs hm hl hv ha
  refine lv_tableOut hC.1 hC.2.1 hd ?_ ht (kk H locs ar hp hs hm hl hv.2 ha)
  rw [ofInt_toInt hv.1]
  exact h1
theorem R_lookup (hC : CxOK G y C) {dflt : Int} {ps : Array (Int × Int)} {len : Nat} {a off : Int} {tgt : Nat} (hd : decode y.2.1 pc = .ok (.lookupswitch dflt ps, len)) (hq : (ps.toList.zip (ps.toList.drop 1)).all (fun (a, next) => a.1 < next.1) = true) (ho : Op.lookupswitch.offset ps.toList dflt a = off) (ht : (pc : Int) + off = (tgt : Int)) (kk : RZ G S C Z k w n tgt ls st M) : RZ G S C Z k w n pc ls (vI a :: st) M := by
  intro H locs ar hp hs hm hl hv ha
  exact lv_lookup hC.1 hC.2.1 hd hq (by rw [ofInt_toInt hv.1]; exact ho) ht (kk H locs ar hp hs hm hl hv.2 ha)
theorem R_iload_0 (hC : CxOK G y C)  {v : Int} (hd : decode y.2.1 pc = .ok (.iload_n 0, 1)) (kk : RZ G S C Z k w n (pc + 1) (some (vI v) :: ls) (vI v :: st) M) : RZ G S C Z k w n pc (some (vI v) :: ls) st M :=
  fun H locs ar hp hs hm hl hv ha => lv_iload_n hC.1 hC.2.1 hd rfl (ha.2.2.2 0 (vI v) rfl) (kk H locs ar hp hs hm hl ⟨okLs_at 0 hl rfl, hv⟩ ha)
theorem R_iload_1 (hC : CxOK G y C) {l0 : Option V} {v : Int} (hd : decode y.2.1 pc = .ok (.iload_n 1, 1)) (kk : RZ G S C Z k w n (pc + 1) (l0 :: some (vI v) :: ls) (vI v :: st) M) : RZ G S C Z k w n pc (l0 :: some (vI v) :: ls) st M :=
  fun H locs ar hp hs hm hl hv ha => lv_iload_n hC.1 hC.2.1 hd rfl (ha.2.2.2 1 (vI v) rfl) (kk H locs ar hp hs hm hl ⟨okLs_at 1 hl rfl, hv⟩ ha)
theorem R_iload_2 (hC : CxOK G y C) {l0 l1 : Option V} {v : Int} (hd : decode y.2.1 pc = .ok (.iload_n 2, 1)) (kk : RZ G S C Z k w n (pc + 1) (l0 :: l1 :: some (vI v) :: ls) (vI v :: st) M) : RZ G S C Z k w n pc (l0 :: l1 :: some (vI v) :: ls) st M :=
  fun H locs ar hp hs hm hl hv ha => lv_iload_n hC.1 hC.2.1 hd rfl (ha.2.2.2 2 (vI v) rfl) (kk H locs ar hp hs hm hl ⟨okLs_at 2 hl rfl, hv⟩ ha)
theorem R_iload_3 (hC : CxOK G y C) {l0 l1 l2 : Option V} {v : Int} (hd : decode y.2.1 pc = .ok (.iload_n 3, 1)) (kk : RZ G S C Z k w n (pc + 1) (l0 :: l1 :: l2 :: some (vI v) :: ls) (vI v :: st) M) : RZ G S C Z k w n pc (l0 :: l1 :: l2 :: some (vI v) :: ls) st M :=
  fun H locs ar hp hs hm hl hv ha => lv_iload_n hC.1 hC.2.1 hd rfl (ha.2.2.2 3 (vI v) rfl) (kk H locs ar hp hs hm hl ⟨okLs_at 3 hl rfl, hv⟩ ha)
theorem R_iload_4 (hC : CxOK G y C) {l0 l1 l2 l3 : Option V} {v : Int} (hd : decode y.2.1 pc = .ok (.iload 4, 2)) (kk : RZ G S C Z k w n (pc + 2) (l0 :: l1 :: l2 :: l3 :: some (vI v) :: ls) (vI v :: st) M) : RZ G S C Z k w n pc (l0 :: l1 :: l2 :: l3 :: some (vI v) :: ls) st M :=
  fun H locs ar hp hs hm hl hv ha => lv_iload hC.1 hC.2.1 hd (ha.2.2.2 4 (vI v) rfl) (kk H locs ar hp hs hm hl ⟨okLs_at 4 hl rfl, hv⟩ ha)
theorem R_iload_5 (hC : CxOK G y C) {l0 l1 l2 l3 l4 : Option V} {v : Int} (hd : decode y.2.1 pc = .ok (.iload 5, 2)) (kk : RZ G S C Z k w n (pc + 2) (l0 :: l1 :: l2 :: l3 :: l4 :: some (vI v) :: ls) (vI v :: st) M) : RZ G S C Z k w n pc (l0 :: l1 :: l2 :: l3 :: l4 :: some (vI v) :: ls) st M :=
  fun H locs ar hp hs hm hl hv ha => lv_iload hC.1 hC.2.1 hd (ha.2.2.2 5 (vI v) rfl) (kk H locs ar hp hs hm hl ⟨okLs_at 5 hl rfl, hv⟩ ha)
theorem R_iload_6 (hC : CxOK G y C) {l0 l1 l2 l3 l4 l5 : Option V} {v : Int} (hd : decode y.2.1 pc = .ok (.iload 6, 2)) (kk : RZ G S C Z k w n (pc + 2) (l0 :: l1 :: l2 :: l3 :: l4 :: l5 :: some (vI v) :: ls) (vI v :: st) M) : RZ G S C Z k w n pc (l0 :: l1 :: l2 :: l3 :: l4 :: l5 :: some (vI v) :: ls) st M :=
  fun H locs ar hp hs hm hl hv ha => lv_iload hC.1 hC.2.1 hd (ha.2.2.2 6 (vI v) rfl) (kk H locs ar hp hs hm hl ⟨okLs_at 6 hl rfl, hv⟩ ha)
theorem R_iload_7 (hC : CxOK G y C) {l0 l1 l2 l3 l4 l5 l6 : Option V} {v : Int} (hd : decode y.2.1 pc = .ok (.iload 7, 2)) (kk : RZ G S C Z k w n (pc + 2) (l0 :: l1 :: l2 :: l3 :: l4 :: l5 :: l6 :: some (vI v) :: ls) (vI v :: st) M) : RZ G S C Z k w n pc (l0 :: l1 :: l2 :: l3 :: l4 :: l5 :: l6 :: some (vI v) :: ls) st M :=
  fun H locs ar hp hs hm hl hv ha => lv_iload hC.1 hC.2.1 hd (ha.2.2.2 7 (vI v) rfl) (kk H locs ar hp hs hm hl ⟨okLs_at 7 hl rfl, hv⟩ ha)
theorem R_iload_8 (hC : CxOK G y C) {l0 l1 l2 l3 l4 l5 l6 l7 : Option V} {v : Int} (hd : decode y.2.1 pc = .ok (.iload 8, 2)) (kk : RZ G S C Z k w n (pc + 2) (l0 :: l1 :: l2 :: l3 :: l4 :: l5 :: l6 :: l7 :: some (vI v) :: ls) (vI v :: st) M) : RZ G S C Z k w n pc (l0 :: l1 :: l2 :: l3 :: l4 :: l5 :: l6 :: l7 :: some (vI v) :: ls) st M :=
  fun H locs ar hp hs hm hl hv ha => lv_iload hC.1 hC.2.1 hd (ha.2.2.2 8 (vI v) rfl) (kk H locs ar hp hs hm hl ⟨okLs_at 8 hl rfl, hv⟩ ha)
theorem R_iload_9 (hC : CxOK G y C) {l0 l1 l2 l3 l4 l5 l6 l7 l8 : Option V} {v : Int} (hd : decode y.2.1 pc = .ok (.iload 9, 2)) (kk : RZ G S C Z k w n (pc + 2) (l0 :: l1 :: l2 :: l3 :: l4 :: l5 :: l6 :: l7 :: l8 :: some (vI v) :: ls) (vI v :: st) M) : RZ G S C Z k w n pc (l0 :: l1 :: l2 :: l3 :: l4 :: l5 :: l6 :: l7 :: l8 :: some (vI v) :: ls) st M :=
  fun H locs ar hp hs hm hl hv ha => lv_iload hC.1 hC.2.1 hd (ha.2.2.2 9 (vI v) rfl) (kk H locs ar hp hs hm hl ⟨okLs_at 9 hl rfl, hv⟩ ha)
theorem R_iload_10 (hC : CxOK G y C) {l0 l1 l2 l3 l4 l5 l6 l7 l8 l9 : Option V} {v : Int} (hd : decode y.2.1 pc = .ok (.iload 10, 2)) (kk : RZ G S C Z k w n (pc + 2) (l0 :: l1 :: l2 :: l3 :: l4 :: l5 :: l6 :: l7 :: l8 :: l9 :: some (vI v) :: ls) (vI v :: st) M) : RZ G S C Z k w n pc (l0 :: l1 :: l2 :: l3 :: l4 :: l5 :: l6 :: l7 :: l8 :: l9 :: some (vI v) :: ls) st M :=
  fun H locs ar hp hs hm hl hv ha => lv_iload hC.1 hC.2.1 hd (ha.2.2.2 10 (vI v) rfl) (kk H locs ar hp hs hm hl ⟨okLs_at 10 hl rfl, hv⟩ ha)
theorem R_iload_11 (hC : CxOK G y C) {l0 l1 l2 l3 l4 l5 l6 l7 l8 l9 l10 : Option V} {v : Int} (hd : decode y.2.1 pc = .ok (.iload 11, 2)) (kk : RZ G S C Z k w n (pc + 2) (l0 :: l1 :: l2 :: l3 :: l4 :: l5 :: l6 :: l7 :: l8 :: l9 :: l10 :: some (vI v) :: ls) (vI v :: st) M) : RZ G S C Z k w n pc (l0 :: l1 :: l2 :: l3 :: l4 :: l5 :: l6 :: l7 :: l8 :: l9 :: l10 :: some (vI v) :: ls) st M :=
  fun H locs ar hp hs hm hl hv ha => lv_iload hC.1 hC.2.1 hd (ha.2.2.2 11 (vI v) rfl) (kk H locs ar hp hs hm hl ⟨okLs_at 11 hl rfl, hv⟩ ha)
theorem R_iload_12 (hC : CxOK G y C) {l0 l1 l2 l3 l4 l5 l6 l7 l8 l9 l10 l11 : Option V} {v : Int} (hd : decode y.2.1 pc = .ok (.iload 12, 2)) (kk : RZ G S C Z k w n (pc + 2) (l0 :: l1 :: l2 :: l3 :: l4 :: l5 :: l6 :: l7 :: l8 :: l9 :: l10 :: l11 :: some (vI v) :: ls) (vI v :: st) M) : RZ G S C Z k w n pc (l0 :: l1 :: l2 :: l3 :: l4 :: l5 :: l6 :: l7 :: l8 :: l9 :: l10 :: l11 :: some (vI v) :: ls) st M :=
  fun H locs ar hp hs hm hl hv ha => lv_iload hC.1 hC.2.1 hd (ha.2.2.2 12 (vI v) rfl) (kk H locs ar hp hs hm hl ⟨okLs_at 12 hl rfl, hv⟩ ha)
theorem R_lload_0 (hC : CxOK G y C)  {v : Int} (hd : decode y.2.1 pc = .ok (.lload_n 0, 1)) (kk : RZ G S C Z k w n (pc + 1) (some (vL v) :: ls) (vL v :: st) M) : RZ G S C Z k w n pc (some (vL v) :: ls) st M :=
  fun H locs ar hp hs hm hl hv ha => lv_lload_n hC.1 hC.2.1 hd rfl (ha.2.2.2 0 (vL v) rfl) (kk H locs ar hp hs hm hl ⟨okLs_at 0 hl rfl, hv⟩ ha)
theorem R_lload_1 (hC : CxOK G y C) {l0 : Option V} {v : Int} (hd : decode y.2.1 pc = .ok (.lload_n 1, 1)) (kk : RZ G S C Z k w n (pc + 1) (l0 :: some (vL v) :: ls) (vL v :: st) M) : RZ G S C Z k w n pc (l0 :: some (vL v) :: ls) st M :=
  fun H locs ar hp hs hm hl hv ha => lv_lload_n hC.1 hC.2.1 hd rfl (ha.2.2.2 1 (vL v) rfl) (kk H locs ar hp hs hm hl ⟨okLs_at 1 hl rfl, hv⟩ ha)
theorem R_lload_2 (hC : CxOK G y C) {l0 l1 : Option V} {v : Int} (hd : decode y.2.1 pc = .ok (.lload_n 2, 1)) (kk : RZ G S C Z k w n (pc + 1) (l0 :: l1 :: some (vL v) :: ls) (vL v :: st) M) : RZ G S C Z k w n pc (l0 :: l1 :: some (vL v) :: ls) st M :=
  fun H locs ar hp hs hm hl hv ha => lv_lload_n hC.1 hC.2.1 hd rfl (ha.2.2.2 2 (vL v) rfl) (kk H locs ar hp hs hm hl ⟨okLs_at 2 hl rfl, hv⟩ ha)
theorem R_lload_3 (hC : CxOK G y C) {l0 l1 l2 : Option V} {v : Int} (hd : decode y.2.1 pc = .ok (.lload_n 3, 1)) (kk : RZ G S C Z k w n (pc + 1) (l0 :: l1 :: l2 :: some (vL v) :: ls) (vL v :: st) M) : RZ G S C Z k w n pc (l0 :: l1 :: l2 :: some (vL v) :: ls) st M :=
  fun H locs ar hp hs hm hl hv ha => lv_lload_n hC.1 hC.2.1 hd rfl (ha.2.2.2 3 (vL v) rfl) (kk H locs ar hp hs hm hl ⟨okLs_at 3 hl rfl, hv⟩ ha)
theorem R_lload_4 (hC : CxOK G y C) {l0 l1 l2 l3 : Option V} {v : Int} (hd : decode y.2.1 pc = .ok (.lload 4, 2)) (kk : RZ G S C Z k w n (pc + 2) (l0 :: l1 :: l2 :: l3 :: some (vL v) :: ls) (vL v :: st) M) : RZ G S C Z k w n pc (l0 :: l1 :: l2 :: l3 :: some (vL v) :: ls) st M :=
  fun H locs ar hp hs hm hl hv ha => lv_lload hC.1 hC.2.1 hd (ha.2.2.2 4 (vL v) rfl) (kk H locs ar hp hs hm hl ⟨okLs_at 4 hl rfl, hv⟩ ha)
theorem R_lload_5 (hC : CxOK G y C) {l0 l1 l2 l3 l4 : Option V} {v : Int} (hd : decode y.2.1 pc = .ok (.lload 5, 2)) (kk : RZ G S C Z k w n (pc + 2) (l0 :: l1 :: l2 :: l3 :: l4 :: some (vL v) :: ls) (vL v :: st) M) : RZ G S C Z k w n pc (l0 :: l1 :: l2 :: l3 :: l4 :: some (vL v) :: ls) st M :=
  fun H locs ar hp hs hm hl hv ha => lv_lload hC.1 hC.2.1 hd (ha.2.2.2 5 (vL v) rfl) (kk H locs ar hp hs hm hl ⟨okLs_at 5 hl rfl, hv⟩ ha)
theorem R_lload_6 (hC : CxOK G y C) {l0 l1 l2 l3 l4 l5 : Option V} {v : Int} (hd : decode y.2.1 pc = .ok (.lload 6, 2)) (kk : RZ G S C Z k w n (pc + 2) (l0 :: l1 :: l2 :: l3 :: l4 :: l5 :: some (vL v) :: ls) (vL v :: st) M) : RZ G S C Z k w n pc (l0 :: l1 :: l2 :: l3 :: l4 :: l5 :: some (vL v) :: ls) st M :=
  fun H locs ar hp hs hm hl hv ha => lv_lload hC.1 hC.2.1 hd (ha.2.2.2 6 (vL v) rfl) (kk H locs ar hp hs hm hl ⟨okLs_at 6 hl rfl, hv⟩ ha)
theorem R_lload_7 (hC : CxOK G y C) {l0 l1 l2 l3 l4 l5 l6 : Option V} {v : Int} (hd : decode y.2.1 pc = .ok (.lload 7, 2)) (kk : RZ G S C Z k w n (pc + 2) (l0 :: l1 :: l2 :: l3 :: l4 :: l5 :: l6 :: some (vL v) :: ls) (vL v :: st) M) : RZ G S C Z k w n pc (l0 :: l1 :: l2 :: l3 :: l4 :: l5 :: l6 :: some (vL v) :: ls) st M :=
  fun H locs ar hp hs hm hl hv ha => lv_lload hC.1 hC.2.1 hd (ha.2.2.2 7 (vL v) rfl) (kk H locs ar hp hs hm hl ⟨okLs_at 7 hl rfl, hv⟩ ha)
theorem R_lload_8 (hC : CxOK G y C) {l0 l1 l2 l3 l4 l5 l6 l7 : Option V} {v : Int} (hd : decode y.2.1 pc = .ok (.lload 8, 2)) (kk : RZ G S C Z k w n (pc + 2) (l0 :: l1 :: l2 :: l3 :: l4 :: l5 :: l6 :: l7 :: some (vL v) :: ls) (vL v :: st) M) : RZ G S C Z k w n pc (l0 :: l1 :: l2 :: l3 :: l4 :: l5 :: l6 :: l7 :: some (vL v) :: ls) st M :=
  fun H locs ar hp hs hm hl hv ha => lv_lload hC.1 hC.2.1 hd (ha.2.2.2 8 (vL v) rfl) (kk H locs ar hp hs hm hl ⟨okLs_at 8 hl rfl, hv⟩ ha)
theorem R_lload_9 (hC : CxOK G y C) {l0 l1 l2 l3 l4 l5 l6 l7 l8 : Option V} {v : Int} (hd : decode y.2.1 pc = .ok (.lload 9, 2)) (kk : RZ G S C Z k w n (pc + 2) (l0 :: l1 :: l2 :: l3 :: l4 :: l5 :: l6 :: l7 :: l8 :: some (vL v) :: ls) (vL v :: st) M) : RZ G S C Z k w n pc (l0 :: l1 :: l2 :: l3 :: l4 :: l5 :: l6 :: l7 :: l8 :: some (vL v) :: ls) st M :=
  fun H locs ar hp hs hm hl hv ha => lv_lload hC.1 hC.2.1 hd (ha.2.2.2 9 (vL v) rfl) (kk H locs ar hp hs hm hl ⟨okLs_at 9 hl rfl, hv⟩ ha)
theorem R_lload_10 (hC : CxOK G y C) {l0 l1 l2 l3 l4 l5 l6 l7 l8 l9 : Option V} {v : Int} (hd : decode y.2.1 pc = .ok (.lload 10, 2)) (kk : RZ G S C Z k w n (pc + 2) (l0 :: l1 :: l2 :: l3 :: l4 :: l5 :: l6 :: l7 :: l8 :: l9 :: some (vL v) :: ls) (vL v :: st) M) : RZ G S C Z k w n pc (l0 :: l1 :: l2 :: l3 :: l4 :: l5 :: l6 :: l7 :: l8 :: l9 :: some (vL v) :: ls) st M :=
  fun H locs ar hp hs hm hl hv ha => lv_lload hC.1 hC.2.1 hd (ha.2.2.2 10 (vL v) rfl) (kk H locs ar hp hs hm hl ⟨okLs_at 10 hl rfl, hv⟩ ha)
theorem R_lload_11 (hC : CxOK G y C) {l0 l1 l2 l3 l4 l5 l6 l7 l8 l9 l10 : Option V} {v : Int} (hd : decode y.2.1 pc = .ok (.lload 11, 2)) (kk : RZ G S C Z k w n (pc + 2) (l0 :: l1 :: l2 :: l3 :: l4 :: l5 :: l6 :: l7 :: l8 :: l9 :: l10 :: some (vL v) :: ls) (vL v :: st) M) : RZ G S C Z k w n pc (l0 :: l1 :: l2 :: l3 :: l4 :: l5 :: l6 :: l7 :: l8 :: l9 :: l10 :: some (vL v) :: ls) st M :=
  fun H locs ar hp hs hm hl hv ha => lv_lload hC.1 hC.2.1 hd (ha.2.2.2 11 (vL v) rfl) (kk H locs ar hp hs hm hl ⟨okLs_at 11 hl rfl, hv⟩ ha)
theorem R_lload_12 (hC : CxOK G y C) {l0 l1 l2 l3 l4 l5 l6 l7 l8 l9 l10 l11 : Option V} {v : Int} (hd : decode y.2.1 pc = .ok (.lload 12, 2)) (kk : RZ G S C Z k w n (pc + 2) (l0 :: l1 :: l2 :: l3 :: l4 :: l5 :: l6 :: l7 :: l8 :: l9 :: l10 :: l11 :: some (vL v) :: ls) (vL v :: st) M) : RZ G S C Z k w n pc (l0 :: l1 :: l2 :: l3 :: l4 :: l5 :: l6 :: l7 :: l8 :: l9 :: l10 :: l11 :: some (vL v) :: ls) st M :=
  fun H locs ar hp hs hm hl hv ha => lv_lload hC.1 hC.2.1 hd (ha.2.2.2 12 (vL v) rfl) (kk H locs ar hp hs hm hl ⟨okLs_at 12 hl rfl, hv⟩ ha)
theorem R_aload_0 (hC : CxOK G y C)  {v : Nat} (hd : decode y.2.1 pc = .ok (.aload_n 0, 1)) (kk : RZ G S C Z k w n (pc + 1) (some (vR v) :: ls) (vR v :: st) M) : RZ G S C Z k w n pc (some (vR v) :: ls) st M :=
  fun H locs ar hp hs hm hl hv ha => lv_aload_n hC.1 hC.2.1 hd rfl (ha.2.2.2 0 (vR v) rfl) (kk H locs ar hp hs hm hl ⟨trivial, hv⟩ ha)
theorem R_aload_1 (hC : CxOK G y C) {l0 : Option V} {v : Nat} (hd : decode y.2.1 pc = .ok (.aload_n 1, 1)) (kk : RZ G S C Z k w n (pc + 1) (l0 :: some (vR v) :: ls) (vR v :: st) M) : RZ G S C Z k w n pc (l0 :: some (vR v) :: ls) st M :=
  fun H locs ar hp hs hm hl hv ha => lv_aload_n hC.1 hC.2.1 hd rfl (ha.2.2.2 1 (vR v) rfl) (kk H locs ar hp hs hm hl ⟨trivial, hv⟩ ha)
theorem R_aload_2 (hC : CxOK G y C) {l0 l1 : Option V} {v : Nat} (hd : decode y.2.1 pc = .ok (.aload_n 2, 1)) (kk : RZ G S C Z k w n (pc + 1) (l0 :: l1 :: some (vR v) :: ls) (vR v :: st) M) : RZ G S C Z k w n pc (l0 :: l1 :: some (vR v) :: ls) st M :=
  fun H locs ar hp hs hm hl hv ha => lv_aload_n hC.1 hC.2.1 hd rfl (ha.2.2.2 2 (vR v) rfl) (kk H locs ar hp hs hm hl ⟨trivial, hv⟩ ha)
theorem R_aload_3 (hC : CxOK G y C) {l0 l1 l2 : Option V} {v : Nat} (hd : decode y.2.1 pc = .ok (.aload_n 3, 1)) (kk : RZ G S C Z k w n (pc + 1) (l0 :: l1 :: l2 :: some (vR v) :: ls) (vR v :: st) M) : RZ G S C Z k w n pc (l0 :: l1 :: l2 :: some (vR v) :: ls) st M :=
  fun H locs ar hp hs hm hl hv ha => lv_aload_n hC.1 hC.2.1 hd rfl (ha.2.2.2 3 (vR v) rfl) (kk H locs ar hp hs hm hl ⟨trivial, hv⟩ ha)
theorem R_aload_4 (hC : CxOK G y C) {l0 l1 l2 l3 : Option V} {v : Nat} (hd : decode y.2.1 pc = .ok (.aload 4, 2)) (kk : RZ G S C Z k w n (pc + 2) (l0 :: l1 :: l2 :: l3 :: some (vR v) :: ls) (vR v :: st) M) : RZ G S C Z k w n pc (l0 :: l1 :: l2 :: l3 :: some (vR v) :: ls) st M :=
  fun H locs ar hp hs hm hl hv ha => lv_aload hC.1 hC.2.1 hd (ha.2.2.2 4 (vR v) rfl) (kk H locs ar hp hs hm hl ⟨trivial, hv⟩ ha)
theorem R_aload_5 (hC : CxOK G y C) {l0 l1 l2 l3 l4 : Option V} {v : Nat} (hd : decode y.2.1 pc = .ok (.aload 5, 2)) (kk : RZ G S C Z k w n (pc + 2) (l0 :: l1 :: l2 :: l3 :: l4 :: some (vR v) :: ls) (vR v :: st) M) : RZ G S C Z k w n pc (l0 :: l1 :: l2 :: l3 :: l4 :: some (vR v) :: ls) st M :=
  fun H locs ar hp hs hm hl hv ha => lv_aload hC.1 hC.2.1 hd (ha.2.2.2 5 (vR v) rfl) (kk H locs ar hp hs hm hl ⟨trivial, hv⟩ ha)
theorem R_aload_6 (hC : CxOK G y C) {l0 l1 l2 l3 l4 l5 : Option V} {v : Nat} (hd : decode y.2.1 pc = .ok (.aload 6, 2)) (kk : RZ G S C Z k w n (pc + 2) (l0 :: l1 :: l2 :: l3 :: l4 :: l5 :: some (vR v) :: ls) (vR v :: st) M) : RZ G S C Z k w n pc (l0 :: l1 :: l2 :: l3 :: l4 :: l5 :: some (vR v) :: ls) st M :=
  fun H locs ar hp hs hm hl hv ha => lv_aload hC.1 hC.2.1 hd (ha.2.2.2 6 (vR v) rfl) (kk H locs ar hp hs hm hl ⟨trivial, hv⟩ ha)
theorem R_aload_7 (hC : CxOK G y C) {l0 l1 l2 l3 l4 l5 l6 : Option V} {v : Nat} (hd : decode y.2.1 pc = .ok (.aload 7, 2)) (kk : RZ G S C Z k w n (pc + 2) (l0 :: l1 :: l2 :: l3 :: l4 :: l5 :: l6 :: some (vR v) :: ls) (vR v :: st) M) : RZ G S C Z k w n pc (l0 :: l1 :: l2 :: l3 :: l4 :: l5 :: l6 :: some (vR v) :: ls) st M :=
  fun H locs ar hp hs hm hl hv ha => lv_aload hC.1 hC.2.1 hd (ha.2.2.2 7 (vR v) rfl) (kk H locs ar hp hs hm hl ⟨trivial, hv⟩ ha)
theorem R_aload_8 (hC : CxOK G y C) {l0 l1 l2 l3 l4 l5 l6 l7 : Option V} {v : Nat} (hd : decode y.2.1 pc = .ok (.aload 8, 2)) (kk : RZ G S C Z k w n (pc + 2) (l0 :: l1 :: l2 :: l3 :: l4 :: l5 :: l6 :: l7 :: some (vR v) :: ls) (vR v :: st) M) : RZ G S C Z k w n pc (l0 :: l1 :: l2 :: l3 :: l4 :: l5 :: l6 :: l7 :: some (vR v) :: ls) st M :=
  fun H locs ar hp hs hm hl hv ha => lv_aload hC.1 hC.2.1 hd (ha.2.2.2 8 (vR v) rfl) (kk H locs ar hp hs hm hl ⟨trivial, hv⟩ ha)
theorem R_aload_9 (hC : CxOK G y C) {l0 l1 l2 l3 l4 l5 l6 l7 l8 : Option V} {v : Nat} (hd : decode y.2.1 pc = .ok (.aload 9, 2)) (kk : RZ G S C Z k w n (pc + 2) (l0 :: l1 :: l2 :: l3 :: l4 :: l5 :: l6 :: l7 :: l8 :: some (vR v) :: ls) (vR v :: st) M) : RZ G S C Z k w n pc (l0 :: l1 :: l2 :: l3 :: l4 :: l5 :: l6 :: l7 :: l8 :: some (vR v) :: ls) st M :=
  fun H locs ar hp hs hm hl hv ha => lv_aload hC.1 hC.2.1 hd (ha.2.2.2 9 (vR v) rfl) (kk H locs ar hp hs hm hl ⟨trivial, hv⟩ ha)
theorem R_aload_10 (hC : CxOK G y C) {l0 l1 l2 l3 l4 l5 l6 l7 l8 l9 : Option V} {v : Nat} (hd : decode y.2.1 pc = .ok (.aload 10, 2)) (kk : RZ G S C Z k w n (pc + 2) (l0 :: l1 :: l2 :: l3 :: l4 :: l5 :: l6 :: l7 :: l8 :: l9 :: some (vR v) :: ls) (vR v :: st) M) : RZ G S C Z k w n pc (l0 :: l1 :: l2 :: l3 :: l4 :: l5 :: l6 :: l7 :: l8 :: l9 :: some (vR v) :: ls) st M :=
  fun H locs ar hp hs hm hl hv ha => lv_aload hC.1 hC.2.1 hd (ha.2.2.2 10 (vR v) rfl) (kk H locs ar hp hs hm hl ⟨trivial, hv⟩ ha)
theorem R_aload_11 (hC : CxOK G y C) {l0 l1 l2 l3 l4 l5 l6 l7 l8 l9 l10 : Option V} {v : Nat} (hd : decode y.2.1 pc = .ok (.aload 11, 2)) (kk : RZ G S C Z k w n (pc + 2) (l0 :: l1 :: l2 :: l3 :: l4 :: l5 :: l6 :: l7 :: l8 :: l9 :: l10 :: some (vR v) :: ls) (vR v :: st) M) : RZ G S C Z k w n pc (l0 :: l1 :: l2 :: l3 :: l4 :: l5 :: l6 :: l7 :: l8 :: l9 :: l10 :: some (vR v) :: ls) st M :=
  fun H locs ar hp hs hm hl hv ha => lv_aload hC.1 hC.2.1 hd (ha.2.2.2 11 (vR v) rfl) (kk H locs ar hp hs hm hl ⟨trivial, hv⟩ ha)
theorem R_aload_12 (hC : CxOK G y C) {l0 l1 l2 l3 l4 l5 l6 l7 l8 l9 l10 l11 : Option V} {v : Nat} (hd : decode y.2.1 pc = .ok (.aload 12, 2)) (kk : RZ G S C Z k w n (pc + 2) (l0 :: l1 :: l2 :: l3 :: l4 :: l5 :: l6 :: l7 :: l8 :: l9 :: l10 :: l11 :: some (vR v) :: ls) (vR v :: st) M) : RZ G S C Z k w n pc (l0 :: l1 :: l2 :: l3 :: l4 :: l5 :: l6 :: l7 :: l8 :: l9 :: l10 :: l11 :: some (vR v) :: ls) st M :=
  fun H locs ar hp hs hm hl hv ha => lv_aload hC.1 hC.2.1 hd (ha.2.2.2 12 (vR v) rfl) (kk H locs ar hp hs hm hl ⟨trivial, hv⟩ ha)
theorem R_istore_0 (hC : CxOK G y C)  {l : Option V} {v : Int} (hd : decode y.2.1 pc = .ok (.istore_n 0, 1))  (kk : RZ G S C Z k w n (pc + 1) (some (vI v) :: ls) st M) : RZ G S C Z k w n pc (l :: ls) (vI v :: st) M := by
  intro H locs ar hp hs hm hl hv ha
  obtain ⟨e1, e2⟩ := lsR_put (i := 0) (v := vI v) ha (by simp) (fun j e => by cases e) rfl
  exact lv_istore_n hC.1 hC.2.1 hd rfl e1 (lsR_lt ha 0 rfl) rfl (fun a2 h2 => kk H locs a2 hp hs hm (okLs_set 0 hl rfl hv.1) hv.2 (e2 a2 h2))
theorem R_istore_1 (hC : CxOK G y C) {l0 : Option V} {l : Option V} {v : Int} (hd : decode y.2.1 pc = .ok (.istore_n 1, 1)) (hn : noL l0 = true) (kk : RZ G S C Z k w n (pc + 1) (l0 :: some (vI v) :: ls) st M) : RZ G S C Z k w n pc (l0 :: l :: ls) (vI v :: st) M := by
  intro H locs ar hp hs hm hl hv ha
  obtain ⟨e1, e2⟩ := lsR_put (i := 1) (v := vI v) ha (by simp) (fun j e => by cases e; exact ⟨_, rfl, hn⟩) rfl
  exact lv_istore_n hC.1 hC.2.1 hd rfl e1 (lsR_lt ha 1 rfl) rfl (fun a2 h2 => kk H locs a2 hp hs hm (okLs_set 1 hl rfl hv.1) hv.2 (e2 a2 h2))
theorem R_istore_2 (hC : CxOK G y C) {l0 l1 : Option V} {l : Option V} {v : Int} (hd : decode y.2.1 pc = .ok (.istore_n 2, 1)) (hn : noL l1 = true) (kk : RZ G S C Z k w n (pc + 1) (l0 :: l1 :: some (vI v) :: ls) st M) : RZ G S C Z k w n pc (l0 :: l1 :: l :: ls) (vI v :: st) M := by
  intro H locs ar hp hs hm hl hv ha
  obtain ⟨e1, e2⟩ := lsR_put (i := 2) (v := vI v) ha (by simp) (fun j e => by cases e; exact ⟨_, rfl, hn⟩) rfl
  exact lv_istore_n hC.1 hC.2.1 hd rfl e1 (lsR_lt ha 2 rfl) rfl (fun a2 h2 => kk H locs a2 hp hs hm (okLs_set 2 hl rfl hv.1) hv.2 (e2 a2 h2))
theorem R_istore_3 (hC : CxOK G y C) {l0 l1 l2 : Option V} {l : Option V} {v : Int} (hd : decode y.2.1 pc = .ok (.istore_n 3, 1)) (hn : noL l2 = true) (kk : RZ G S C Z k w n (pc + 1) (l0 :: l1 :: l2 :: some (vI v) :: ls) st M) : RZ G S C Z k w n pc (l0 :: l1 :: l2 :: l :: ls) (vI v :: st) M := by
  intro H locs ar hp hs hm hl hv ha
  obtain ⟨e1, e2⟩ := lsR_put (i := 3) (v := vI v) ha (by simp) (fun j e => by cases e; exact ⟨_, rfl, hn⟩) rfl
  exact lv_istore_n hC.1 hC.2.1 hd rfl e1 (lsR_lt ha 3 rfl) rfl (fun a2 h2 => kk H locs a2 hp hs hm (okLs_set 3 hl rfl hv.1) hv.2 (e2 a2 h2))
theorem R_istore_4 (hC : CxOK G y C) {l0 l1 l2 l3 : Option V} {l : Option V} {v : Int} (hd : decode y.2.1 pc = .ok (.istore 4, 2)) (hn : noL l3 = true) (kk : RZ G S C Z k w n (pc + 2) (l0 :: l1 :: l2 :: l3 :: some (vI v) :: ls) st M) : RZ G S C Z k w n pc (l0 :: l1 :: l2 :: l3 :: l :: ls) (vI v :: st) M := by
  intro H locs ar hp hs hm hl hv ha
  obtain ⟨e1, e2⟩ := lsR_put (i := 4) (v := vI v) ha (by simp) (fun j e => by cases e; exact ⟨_, rfl, hn⟩) rfl
  exact lv_istore hC.1 hC.2.1 hd e1 (lsR_lt ha 4 rfl) rfl (fun a2 h2 => kk H locs a2 hp hs hm (okLs_set 4 hl rfl hv.1) hv.2 (e2 a2 h2))
theorem R_istore_5 (hC : CxOK G y C) {l0 l1 l2 l3 l4 : Option V} {l : Option V} {v : Int} (hd : decode y.2.1 pc = .ok (.istore 5, 2)) (hn : noL l4 = true) (kk : RZ G S C Z k w n (pc + 2) (l0 :: l1 :: l2 :: l3 :: l4 :: some (vI v) :: ls) st M) : RZ G S C Z k w n pc (l0 :: l1 :: l2 :: l3 :: l4 :: l :: ls) (vI v :: st) M := by
  intro H locs ar hp hs hm hl hv ha
  obtain ⟨e1, e2⟩ := lsR_put (i := 5) (v := vI v) ha (by simp) (fun j e => by cases e; exact ⟨_, rfl, hn⟩) rfl
  exact lv_istore hC.1 hC.2.1 hd e1 (lsR_lt ha 5 rfl) rfl (fun a2 h2 => kk H locs a2 hp hs hm (okLs_set 5 hl rfl hv.1) hv.2 (e2 a2 h2))
theorem R_istore_6 (hC : CxOK G y C) {l0 l1 l2 l3 l4 l5 : Option V} {l : Option V} {v : Int} (hd : decode y.2.1 pc = .ok (.istore 6, 2)) (hn : noL l5 = true) (kk : RZ G S C Z k w n (pc + 2) (l0 :: l1 :: l2 :: l3 :: l4 :: l5 :: some (vI v) :: ls) st M) : RZ G S C Z k w n pc (l0 :: l1 :: l2 :: l3 :: l4 :: l5 :: l :: ls) (vI v :: st) M := by
  intro H locs ar hp hs hm hl hv ha
  obtain ⟨e1, e2⟩ := lsR_put (i := 6) (v := vI v) ha (by simp) (fun j e => by cases e; exact ⟨_, rfl, hn⟩) rfl
  exact lv_istore hC.1 hC.2.1 hd e1 (lsR_lt ha 6 rfl) rfl (fun a2 h2 => kk H locs a2 hp hs hm (okLs_set 6 hl rfl hv.1) hv.2 (e2 a2 h2))
theorem R_istore_7 (hC : CxOK G y C) {l0 l1 l2 l3 l4 l5 l6 : Option V} {l : Option V} {v : Int} (hd : decode y.2.1 pc = .ok (.istore 7, 2)) (hn : noL l6 = true) (kk : RZ G S C Z k w n (pc + 2) (l0 :: l1 :: l2 :: l3 :: l4 :: l5 :: l6 :: some (vI v) :: ls) st M) : RZ G S C Z k w n pc (l0 :: l1 :: l2 :: l3 :: l4 :: l5 :: l6 :: l :: ls) (vI v :: st) M := by
  intro H locs ar hp hs hm hl hv ha
  obtain ⟨e1, e2⟩ := lsR_put (i := 7) (v := vI v) ha (by simp) (fun j e => by cases e; exact ⟨_, rfl, hn⟩) rfl
  exact lv_istore hC.1 hC.2.1 hd e1 (lsR_lt ha 7 rfl) rfl (fun a2 h2 => kk H locs a2 hp hs hm (okLs_set 7 hl rfl hv.1) hv.2 (e2 a2 h2))
theorem R_istore_8 (hC : CxOK G y C) {l0 l1 l2 l3 l4 l5 l6 l7 : Option V} {l : Option V} {v : Int} (hd : decode y.2.1 pc = .ok (.istore 8, 2)) (hn : noL l7 = true) (kk : RZ G S C Z k w n (pc + 2) (l0 :: l1 :: l2 :: l3 :: l4 :: l5 :: l6 :: l7 :: some (vI v) :: ls) st M) : RZ G S C Z k w n pc (l0 :: l1 :: l2 :: l3 :: l4 :: l5 :: l6 :: l7 :: l :: ls) (vI v :: st) M := by
  intro H locs ar hp hs hm hl hv ha
  obtain ⟨e1, e2⟩ := lsR_put (i := 8) (v := vI v) ha (by simp) (fun j e => by cases e; exact ⟨_, rfl, hn⟩) rfl
  exact lv_istore hC.1 hC.2.1 hd e1 (lsR_lt ha 8 rfl) rfl (fun a2 h2 => kk H locs a2 hp hs hm (okLs_set 8 hl rfl hv.1) hv.2 (e2 a2 h2))
theorem R_istore_9 (hC : CxOK G y C) {l0 l1 l2 l3 l4 l5 l6 l7 l8 : Option V} {l : Option V} {v : Int} (hd : decode y.2.1 pc = .ok (.istore 9, 2)) (hn : noL l8 = true) (kk : RZ G S C Z k w n (pc + 2) (l0 :: l1 :: l2 :: l3 :: l4 :: l5 :: l6 :: l7 :: l8 :: some (vI v) :: ls) st M) : RZ G S C Z k w n pc (l0 :: l1 :: l2 :: l3 :: l4 :: l5 :: l6 :: l7 :: l8 :: l :: ls) (vI v :: st) M := by
  intro H locs ar hp hs hm hl hv ha
  obtain ⟨e1, e2⟩ := lsR_put (i := 9) (v := vI v) ha (by simp) (fun j e => by cases e; exact ⟨_, rfl, hn⟩) rfl
  exact lv_istore hC.1 hC.2.1 hd e1 (lsR_lt ha 9 rfl) rfl (fun a2 h2 => kk H locs a2 hp hs hm (okLs_set 9 hl rfl hv.1) hv.2 (e2 a2 h2))
theorem R_istore_10 (hC : CxOK G y C) {l0 l1 l2 l3 l4 l5 l6 l7 l8 l9 : Option V} {l : Option V} {v : Int} (hd : decode y.2.1 pc = .ok (.istore 10, 2)) (hn : noL l9 = true) (kk : RZ G S C Z k w n (pc + 2) (l0 :: l1 :: l2 :: l3 :: l4 :: l5 :: l6 :: l7 :: l8 :: l9 :: some (vI v) :: ls) st M) : RZ G S C Z k w n pc (l0 :: l1 :: l2 :: l3 :: l4 :: l5 :: l6 :: l7 :: l8 :: l9 :: l :: ls) (vI v :: st) M := by
  intro H locs ar hp hs hm hl hv ha
  obtain ⟨e1, e2⟩ := lsR_put (i := 10) (v := vI v) ha (by simp) (fun j e => by cases e; exact ⟨_, rfl, hn⟩) rfl
  exact lv_istore hC.1 hC.2.1 hd e1 (lsR_lt ha 10 rfl) rfl (fun a2 h2 => kk H locs a2 hp hs hm (okLs_set 10 hl rfl hv.1) hv.2 (e2 a2 h2))
theorem R_istore_11 (hC : CxOK G y C) {l0 l1 l2 l3 l4 l5 l6 l7 l8 l9 l10 : Option V} {l : Option V} {v : Int} (hd : decode y.2.1 pc = .ok (.istore 11, 2)) (hn : noL l10 = true) (kk : RZ G S C Z k w n (pc + 2) (l0 :: l1 :: l2 :: l3 :: l4 :: l5 :: l6 :: l7 :: l8 :: l9 :: l10 :: some (vI v) :: ls) st M) : RZ G S C Z k w n pc (l0 :: l1 :: l2 :: l3 :: l4 :: l5 :: l6 :: l7 :: l8 :: l9 :: l10 :: l :: ls) (vI v :: st) M := by
  intro H locs ar hp hs hm hl hv ha
  obtain ⟨e1, e2⟩ := lsR_put (i := 11) (v := vI v) ha (by simp) (fun j e => by cases e; exact ⟨_, rfl, hn⟩) rfl
  exact lv_istore hC.1 hC.2.1 hd e1 (lsR_lt ha 11 rfl) rfl (fun a2 h2 => kk H locs a2 hp hs hm (okLs_set 11 hl rfl hv.1) hv.2 (e2 a2 h2))
theorem R_istore_12 (hC : CxOK G y C) {l0 l1 l2 l3 l4 l5 l6 l7 l8 l9 l10 l11 : Option V} {l : Option V} {v : Int} (hd : decode y.2.1 pc = .ok (.istore 12, 2)) (hn : noL l11 = true) (kk : RZ G S C Z k w n (pc + 2) (l0 :: l1 :: l2 :: l3 :: l4 :: l5 :: l6 :: l7 :: l8 :: l9 :: l10 :: l11 :: some (vI v) :: ls) st M) : RZ G S C Z k w n pc (l0 :: l1 :: l2 :: l3 :: l4 :: l5 :: l6 :: l7 :: l8 :: l9 :: l10 :: l11 :: l :: ls) (vI v :: st) M := by
  intro H locs ar hp hs hm hl hv ha
  obtain ⟨e1, e2⟩ := lsR_put (i := 12) (v := vI v) ha (by simp) (fun j e => by cases e; exact ⟨_, rfl, hn⟩) rfl
  exact lv_istore hC.1 hC.2.1 hd e1 (lsR_lt ha 12 rfl) rfl (fun a2 h2 => kk H locs a2 hp hs hm (okLs_set 12 hl rfl hv.1) hv.2 (e2 a2 h2))
theorem R_lstore_0 (hC : CxOK G y C)  {l lq : Option V} {v : Int} (hd : decode y.2.1 pc = .ok (.lstore_n 0, 1))  (kk : RZ G S C Z k w n (pc + 1) (some (vL v) :: none :: ls) st M) : RZ G S C Z k w n pc (l :: lq :: ls) (vL v :: st) M := by
  intro H locs ar hp hs hm hl hv ha
  obtain ⟨e1, e2⟩ := lsR_put2 (i := 0) (v := vL v) ha (by simp) (fun j e => by cases e) rfl
  exact lv_lstore_n hC.1 hC.2.1 hd rfl e1 (lsR_lt2 ha 0 rfl) rfl (fun a2 h2 => kk H locs a2 hp hs hm (okLs_set2 0 hl rfl hv.1) hv.2 (e2 a2 h2))
theorem R_lstore_1 (hC : CxOK G y C) {l0 : Option V} {l lq : Option V} {v : Int} (hd : decode y.2.1 pc = .ok (.lstore_n 1, 1)) (hn : noL l0 = true) (kk : RZ G S C Z k w n (pc + 1) (l0 :: some (vL v) :: none :: ls) st M) : RZ G S C Z k w n pc (l0 :: l :: lq :: ls) (vL v :: st) M := by
  intro H locs ar hp hs hm hl hv ha
  obtain ⟨e1, e2⟩ := lsR_put2 (i := 1) (v := vL v) ha (by simp) (fun j e => by cases e; exact ⟨_, rfl, hn⟩) rfl
  exact lv_lstore_n hC.1 hC.2.1 hd rfl e1 (lsR_lt2 ha 1 rfl) rfl (fun a2 h2 => kk H locs a2 hp hs hm (okLs_set2 1 hl rfl hv.1) hv.2 (e2 a2 h2))
theorem R_lstore_2 (hC : CxOK G y C) {l0 l1 : Option V} {l lq : Option V} {v : Int} (hd : decode y.2.1 pc = .ok (.lstore_n 2, 1)) (hn : noL l1 = true) (kk : RZ G S C Z k w n (pc + 1) (l0 :: l1 :: some (vL v) :: none :: ls) st M) : RZ G S C Z k w n pc (l0 :: l1 :: l :: lq :: ls) (vL v :: st) M := by
  intro H locs ar hp hs hm hl hv ha
  obtain ⟨e1, e2⟩ := lsR_put2 (i := 2) (v := vL v) ha (by simp) (fun j e => by cases e; exact ⟨_, rfl, hn⟩) rfl
  exact lv_lstore_n hC.1 hC.2.1 hd rfl e1 (lsR_lt2 ha 2 rfl) rfl (fun a2 h2 => kk H locs a2 hp hs hm (okLs_set2 2 hl rfl hv.1) hv.2 (e2 a2 h2))
theorem R_lstore_3 (hC : CxOK G y C) {l0 l1 l2 : Option V} {l lq : Option V} {v : Int} (hd : decode y.2.1 pc = .ok (.lstore_n 3, 1)) (hn : noL l2 = true) (kk : RZ G S C Z k w n (pc + 1) (l0 :: l1 :: l2 :: some (vL v) :: none :: ls) st M) : RZ G S C Z k w n pc (l0 :: l1 :: l2 :: l :: lq :: ls) (vL v :: st) M := by
  intro H locs ar hp hs hm hl hv ha
  obtain ⟨e1, e2⟩ := lsR_put2 (i := 3) (v := vL v) ha (by simp) (fun j e => by cases e; exact ⟨_, rfl, hn⟩) rfl
  exact lv_lstore_n hC.1 hC.2.1 hd rfl e1 (lsR_lt2 ha 3 rfl) rfl (fun a2 h2 => kk H locs a2 hp hs hm (okLs_set2 3 hl rfl hv.1) hv.2 (e2 a2 h2))
theorem R_lstore_4 (hC : CxOK G y C) {l0 l1 l2 l3 : Option V} {l lq : Option V} {v : Int} (hd : decode y.2.1 pc = .ok (.lstore 4, 2)) (hn : noL l3 = true) (kk : RZ G S C Z k w n (pc + 2) (l0 :: l1 :: l2 :: l3 :: some (vL v) :: none :: ls) st M) : RZ G S C Z k w n pc (l0 :: l1 :: l2 :: l3 :: l :: lq :: ls) (vL v :: st) M := by
  intro H locs ar hp hs hm hl hv ha
  obtain ⟨e1, e2⟩ := lsR_put2 (i := 4) (v := vL v) ha (by simp) (fun j e => by cases e; exact ⟨_, rfl, hn⟩) rfl
  exact lv_lstore hC.1 hC.2.1 hd e1 (lsR_lt2 ha 4 rfl) rfl (fun a2 h2 => kk H locs a2 hp hs hm (okLs_set2 4 hl rfl hv.1) hv.2 (e2 a2 h2))
theorem R_lstore_5 (hC : CxOK G y C) {l0 l1 l2 l3 l4 : Option V} {l lq : Option V} {v : Int} (hd : decode y.2.1 pc = .ok (.lstore 5, 2)) (hn : noL l4 = true) (kk : RZ G S C Z k w n (pc + 2) (l0 :: l1 :: l2 :: l3 :: l4 :: some (vL v) :: none :: ls) st M) : RZ G S C Z k w n pc (l0 :: l1 :: l2 :: l3 :: l4 :: l :: lq :: ls) (vL v :: st) M := by
  intro H locs ar hp hs hm hl hv ha
  obtain ⟨e1, e2⟩ := lsR_put2 (i := 5) (v := vL v) ha (by simp) (fun j e => by cases e; exact ⟨_, rfl, hn⟩) rfl
  exact lv_lstore hC.1 hC.2.1 hd e1 (lsR_lt2 ha 5 rfl) rfl (fun a2 h2 => kk H locs a2 hp hs hm (okLs_set2 5 hl rfl hv.1) hv.2 (e2 a2 h2))
theorem R_lstore_6 (hC : CxOK G y C) {l0 l1 l2 l3 l4 l5 : Option V} {l lq : Option V} {v : Int} (hd : decode y.2.1 pc = .ok (.lstore 6, 2)) (hn : noL l5 = true) (kk : RZ G S C Z k w n (pc + 2) (l0 :: l1 :: l2 :: l3 :: l4 :: l5 :: some (vL v) :: none :: ls) st M) : RZ G S C Z k w n pc (l0 :: l1 :: l2 :: l3 :: l4 :: l5 :: l :: lq :: ls) (vL v :: st) M := by
  intro H locs ar hp hs hm hl hv ha
  obtain ⟨e1, e2⟩ := lsR_put2 (i := 6) (v := vL v) ha (by simp) (fun j e => by cases e; exact ⟨_, rfl, hn⟩) rfl
  exact lv_lstore hC.1 hC.2.1 hd e1 (lsR_lt2 ha 6 rfl) rfl (fun a2 h2 => kk H locs a2 hp hs hm (okLs_set2 6 hl rfl hv.1) hv.2 (e2 a2 h2))
theorem R_lstore_7 (hC : CxOK G y C) {l0 l1 l2 l3 l4 l5 l6 : Option V} {l lq : Option V} {v : Int} (hd : decode y.2.1 pc = .ok (.lstore 7, 2)) (hn : noL l6 = true) (kk : RZ G S C Z k w n (pc + 2) (l0 :: l1 :: l2 :: l3 :: l4 :: l5 :: l6 :: some (vL v) :: none :: ls) st M) : RZ G S C Z k w n pc (l0 :: l1 :: l2 :: l3 :: l4 :: l5 :: l6 :: l :: lq :: ls) (vL v :: st) M := by
  intro H locs ar hp hs hm hl hv ha
  obtain ⟨e1, e2⟩ := lsR_put2 (i := 7) (v := vL v) ha (by simp) (fun j e => by cases e; exact ⟨_, rfl, hn⟩) rfl
  exact lv_lstore hC.1 hC.2.1 hd e1 (lsR_lt2 ha 7 rfl) rfl (fun a2 h2 => kk H locs a2 hp hs hm (okLs_set2 7 hl rfl hv.1) hv.2 (e2 a2 h2))
theorem R_lstore_8 (hC : CxOK G y C) {l0 l1 l2 l3 l4 l5 l6 l7 : Option V} {l lq : Option V} {v : Int} (hd : decode y.2.1 pc = .ok (.lstore 8, 2)) (hn : noL l7 = true) (kk : RZ G S C Z k w n (pc + 2) (l0 :: l1 :: l2 :: l3 :: l4 :: l5 :: l6 :: l7 :: some (vL v) :: none :: ls) st M) : RZ G S C Z k w n pc (l0 :: l1 :: l2 :: l3 :: l4 :: l5 :: l6 :: l7 :: l :: lq :: ls) (vL v :: st) M := by
  intro H locs ar hp hs hm hl hv ha
  obtain ⟨e1, e2⟩ := lsR_put2 (i := 8) (v := vL v) ha (by simp) (fun j e => by cases e; exact ⟨_, rfl, hn⟩) rfl
  exact lv_lstore hC.1 hC.2.1 hd e1 (lsR_lt2 ha 8 rfl) rfl (fun a2 h2 => kk H locs a2 hp hs hm (okLs_set2 8 hl rfl hv.1) hv.2 (e2 a2 h2))
theorem R_lstore_9 (hC : CxOK G y C) {l0 l1 l2 l3 l4 l5 l6 l7 l8 : Option V} {l lq : Option V} {v : Int} (hd : decode y.2.1 pc = .ok (.lstore 9, 2)) (hn : noL l8 = true) (kk : RZ G S C Z k w n (pc + 2) (l0 :: l1 :: l2 :: l3 :: l4 :: l5 :: l6 :: l7 :: l8 :: some (vL v) :: none :: ls) st M) : RZ G S C Z k w n pc (l0 :: l1 :: l2 :: l3 :: l4 :: l5 :: l6 :: l7 :: l8 :: l :: lq :: ls) (vL v :: st) M := by
  intro H locs ar hp hs hm hl hv ha
  obtain ⟨e1, e2⟩ := lsR_put2 (i := 9) (v := vL v) ha (by simp) (fun j e => by cases e; exact ⟨_, rfl, hn⟩) rfl
  exact lv_lstore hC.1 hC.2.1 hd e1 (lsR_lt2 ha 9 rfl) rfl (fun a2 h2 => kk H locs a2 hp hs hm (okLs_set2 9 hl rfl hv.1) hv.2 (e2 a2 h2))
theorem R_lstore_10 (hC : CxOK G y C) {l0 l1 l2 l3 l4 l5 l6 l7 l8 l9 : Option V} {l lq : Option V} {v : Int} (hd : decode y.2.1 pc = .ok (.lstore 10, 2)) (hn : noL l9 = true) (kk : RZ G S C Z k w n (pc + 2) (l0 :: l1 :: l2 :: l3 :: l4 :: l5 :: l6 :: l7 :: l8 :: l9 :: some (vL v) :: none :: ls) st M) : RZ G S C Z k w n pc (l0 :: l1 :: l2 :: l3 :: l4 :: l5 :: l6 :: l7 :: l8 :: l9 :: l :: lq :: ls) (vL v :: st) M := by
  intro H locs ar hp hs hm hl hv ha
  obtain ⟨e1, e2⟩ := lsR_put2 (i := 10) (v := vL v) ha (by simp) (fun j e => by cases e; exact ⟨_, rfl, hn⟩) rfl
  exact lv_lstore hC.1 hC.2.1 hd e1 (lsR_lt2 ha 10 rfl) rfl (fun a2 h2 => kk H locs a2 hp hs hm (okLs_set2 10 hl rfl hv.1) hv.2 (e2 a2 h2))
theorem R_lstore_11 (hC : CxOK G y C) {l0 l1 l2 l3 l4 l5 l6 l7 l8 l9 l10 : Option V} {l lq : Option V} {v : Int} (hd : decode y.2.1 pc = .ok (.lstore 11, 2)) (hn : noL l10 = true) (kk : RZ G S C Z k w n (pc + 2) (l0 :: l1 :: l2 :: l3 :: l4 :: l5 :: l6 :: l7 :: l8 :: l9 :: l10 :: some (vL v) :: none :: ls) st M) : RZ G S C Z k w n pc (l0 :: l1 :: l2 :: l3 :: l4 :: l5 :: l6 :: l7 :: l8 :: l9 :: l10 :: l :: lq :: ls) (vL v :: st) M := by
  intro H locs ar hp hs hm hl hv ha
  obtain ⟨e1, e2⟩ := lsR_put2 (i := 11) (v := vL v) ha (by simp) (fun j e => by cases e; exact ⟨_, rfl, hn⟩) rfl
  exact lv_lstore hC.1 hC.2.1 hd e1 (lsR_lt2 ha 11 rfl) rfl (fun a2 h2 => kk H locs a2 hp hs hm (okLs_set2 11 hl rfl hv.1) hv.2 (e2 a2 h2))
theorem R_lstore_12 (hC : CxOK G y C) {l0 l1 l2 l3 l4 l5 l6 l7 l8 l9 l10 l11 : Option V} {l lq : Option V} {v : Int} (hd : decode y.2.1 pc = .ok (.lstore 12, 2)) (hn : noL l11 = true) (kk : RZ G S C Z k w n (pc + 2) (l0 :: l1 :: l2 :: l3 :: l4 :: l5 :: l6 :: l7 :: l8 :: l9 :: l10 :: l11 :: some (vL v) :: none :: ls) st M) : RZ G S C Z k w n pc (l0 :: l1 :: l2 :: l3 :: l4 :: l5 :: l6 :: l7 :: l8 :: l9 :: l10 :: l11 :: l :: lq :: ls) (vL v :: st) M := by
  intro H locs ar hp hs hm hl hv ha
  obtain ⟨e1, e2⟩ := lsR_put2 (i := 12) (v := vL v) ha (by simp) (fun j e => by cases e; exact ⟨_, rfl, hn⟩) rfl
  exact lv_lstore hC.1 hC.2.1 hd e1 (lsR_lt2 ha 12 rfl) rfl (fun a2 h2 => kk H locs a2 hp hs hm (okLs_set2 12 hl rfl hv.1) hv.2 (e2 a2 h2))
theorem R_astore_0 (hC : CxOK G y C)  {l : Option V} {v : Nat} (hd : decode y.2.1 pc = .ok (.astore_n 0, 1))  (kk : RZ G S C Z k w n (pc + 1) (some (vR v) :: ls) st M) : RZ G S C Z k w n pc (l :: ls) (vR v :: st) M := by
  intro H locs ar hp hs hm hl hv ha
  obtain ⟨e1, e2⟩ := lsR_put (i := 0) (v := vR v) ha (by simp) (fun j e => by cases e) rfl
  exact lv_astore_n hC.1 hC.2.1 hd rfl e1 (lsR_lt ha 0 rfl) rfl (fun a2 h2 => kk H locs a2 hp hs hm (okLs_set 0 hl rfl hv.1) hv.2 (e2 a2 h2))
theorem R_astore_1 (hC : CxOK G y C) {l0 : Option V} {l : Option V} {v : Nat} (hd : decode y.2.1 pc = .ok (.astore_n 1, 1)) (hn : noL l0 = true) (kk : RZ G S C Z k w n (pc + 1) (l0 :: some (vR v) :: ls) st M) : RZ G S C Z k w n pc (l0 :: l :: ls) (vR v :: st) M := by
  intro H locs ar hp hs hm hl hv ha
  obtain ⟨e1, e2⟩ := lsR_put (i := 1) (v := vR v) ha (by simp) (fun j e => by cases e; exact ⟨_, rfl, hn⟩) rfl
  exact lv_astore_n hC.1 hC.2.1 hd rfl e1 (lsR_lt ha 1 rfl) rfl (fun a2 h2 => kk H locs a2 hp hs hm (okLs_set 1 hl rfl hv.1) hv.2 (e2 a2 h2))
theorem R_astore_2 (hC : CxOK G y C) {l0 l1 : Option V} {l : Option V} {v : Nat} (hd : decode y.2.1 pc = .ok (.astore_n 2, 1)) (hn : noL l1 = true) (kk : RZ G S C Z k w n (pc + 1) (l0 :: l1 :: some (vR v) :: ls) st M) : RZ G S C Z k w n pc (l0 :: l1 :: l :: ls) (vR v :: st) M := by
  intro H locs ar hp hs hm hl hv ha
  obtain ⟨e1, e2⟩ := lsR_put (i := 2) (v := vR v) ha (by simp) (fun j e => by cases e; exact ⟨_, rfl, hn⟩) rfl
  exact lv_astore_n hC.1 hC.2.1 hd rfl e1 (lsR_lt ha 2 rfl) rfl (fun a2 h2 => kk H locs a2 hp hs hm (okLs_set 2 hl rfl hv.1) hv.2 (e2 a2 h2))
theorem R_astore_3 (hC : CxOK G y C) {l0 l1 l2 : Option V} {l : Option V} {v : Nat} (hd : decode y.2.1 pc = .ok (.astore_n 3, 1)) (hn : noL l2 = true) (kk : RZ G S C Z k w n (pc + 1) (l0 :: l1 :: l2 :: some (vR v) :: ls) st M) : RZ G S C Z k w n pc (l0 :: l1 :: l2 :: l :: ls) (vR v :: st) M := by
  intro H locs ar hp hs hm hl hv ha
  obtain ⟨e1, e2⟩ := lsR_put (i := 3) (v := vR v) ha (by simp) (fun j e => by cases e; exact ⟨_, rfl, hn⟩) rfl
  exact lv_astore_n hC.1 hC.2.1 hd rfl e1 (lsR_lt ha 3 rfl) rfl (fun a2 h2 => kk H locs a2 hp hs hm (okLs_set 3 hl rfl hv.1) hv.2 (e2 a2 h2))
theorem R_astore_4 (hC : CxOK G y C) {l0 l1 l2 l3 : Option V} {l : Option V} {v : Nat} (hd : decode y.2.1 pc = .ok (.astore 4, 2)) (hn : noL l3 = true) (kk : RZ G S C Z k w n (pc + 2) (l0 :: l1 :: l2 :: l3 :: some (vR v) :: ls) st M) : RZ G S C Z k w n pc (l0 :: l1 :: l2 :: l3 :: l :: ls) (vR v :: st) M := by
  intro H locs ar hp hs hm hl hv ha
  obtain ⟨e1, e2⟩ := lsR_put (i := 4) (v := vR v) ha (by simp) (fun j e => by cases e; exact ⟨_, rfl, hn⟩) rfl
  exact lv_astore hC.1 hC.2.1 hd e1 (lsR_lt ha 4 rfl) rfl (fun a2 h2 => kk H locs a2 hp hs hm (okLs_set 4 hl rfl hv.1) hv.2 (e2 a2 h2))
theorem R_astore_5 (hC : CxOK G y C) {l0 l1 l2 l3 l4 : Option V} {l : Option V} {v : Nat} (hd : decode y.2.1 pc = .ok (.astore 5, 2)) (hn : noL l4 = true) (kk : RZ G S C Z k w n (pc + 2) (l0 :: l1 :: l2 :: l3 :: l4 :: some (vR v) :: ls) st M) : RZ G S C Z k w n pc (l0 :: l1 :: l2 :: l3 :: l4 :: l :: ls) (vR v :: st) M := by
  intro H locs ar hp hs hm hl hv ha
  obtain ⟨e1, e2⟩ := lsR_put (i := 5) (v := vR v) ha (by simp) (fun j e => by cases e; exact ⟨_, rfl, hn⟩) rfl
  exact lv_astore hC.1 hC.2.1 hd e1 (lsR_lt ha 5 rfl) rfl (fun a2 h2 => kk H locs a2 hp hs hm (okLs_set 5 hl rfl hv.1) hv.2 (e2 a2 h2))
theorem R_astore_6 (hC : CxOK G y C) {l0 l1 l2 l3 l4 l5 : Option V} {l : Option V} {v : Nat} (hd : decode y.2.1 pc = .ok (.astore 6, 2)) (hn : noL l5 = true) (kk : RZ G S C Z k w n (pc + 2) (l0 :: l1 :: l2 :: l3 :: l4 :: l5 :: some (vR v) :: ls) st M) : RZ G S C Z k w n pc (l0 :: l1 :: l2 :: l3 :: l4 :: l5 :: l :: ls) (vR v :: st) M := by
  intro H locs ar hp hs hm hl hv ha
  obtain ⟨e1, e2⟩ := lsR_put (i := 6) (v := vR v) ha (by simp) (fun j e => by cases e; exact ⟨_, rfl, hn⟩) rfl
  exact lv_astore hC.1 hC.2.1 hd e1 (lsR_lt ha 6 rfl) rfl (fun a2 h2 => kk H locs a2 hp hs hm (okLs_set 6 hl rfl hv.1) hv.2 (e2 a2 h2))
theorem R_astore_7 (hC : CxOK G y C) {l0 l1 l2 l3 l4 l5 l6 : Option V} {l : Option V} {v : Nat} (hd : decode y.2.1 pc = .ok (.astore 7, 2)) (hn : noL l6 = true) (kk : RZ G S C Z k w n (pc + 2) (l0 :: l1 :: l2 :: l3 :: l4 :: l5 :: l6 :: some (vR v) :: ls) st M) : RZ G S C Z k w n pc (l0 :: l1 :: l2 :: l3 :: l4 :: l5 :: l6 :: l :: ls) (vR v :: st) M := by
  intro H locs ar hp hs hm hl hv ha
  obtain ⟨e1, e2⟩ := lsR_put (i := 7) (v := vR v) ha (by simp) (fun j e => by cases e; exact ⟨_, rfl, hn⟩) rfl
  exact lv_astore hC.1 hC.2.1 hd e1 (lsR_lt ha 7 rfl) rfl (fun a2 h2 => kk H locs a2 hp hs hm (okLs_set 7 hl rfl hv.1) hv.2 (e2 a2 h2))
theorem R_astore_8 (hC : CxOK G y C) {l0 l1 l2 l3 l4 l5 l6 l7 : Option V} {l : Option V} {v : Nat} (hd : decode y.2.1 pc = .ok (.astore 8, 2)) (hn : noL l7 = true) (kk : RZ G S C Z k w n (pc + 2) (l0 :: l1 :: l2 :: l3 :: l4 :: l5 :: l6 :: l7 :: some (vR v) :: ls) st M) : RZ G S C Z k w n pc (l0 :: l1 :: l2 :: l3 :: l4 :: l5 :: l6 :: l7 :: l :: ls) (vR v :: st) M := by
  intro H locs ar hp hs hm hl hv ha
  obtain ⟨e1, e2⟩ := lsR_put (i := 8) (v := vR v) ha (by simp) (fun j e => by cases e; exact ⟨_, rfl, hn⟩) rfl
  exact lv_astore hC.1 hC.2.1 hd e1 (lsR_lt ha 8 rfl) rfl (fun a2 h2 => kk H locs a2 hp hs hm (okLs_set 8 hl rfl hv.1) hv.2 (e2 a2 h2))
theorem R_astore_9 (hC : CxOK G y C) {l0 l1 l2 l3 l4 l5 l6 l7 l8 : Option V} {l : Option V} {v : Nat} (hd : decode y.2.1 pc = .ok (.astore 9, 2)) (hn : noL l8 = true) (kk : RZ G S C Z k w n (pc + 2) (l0 :: l1 :: l2 :: l3 :: l4 :: l5 :: l6 :: l7 :: l8 :: some (vR v) :: ls) st M) : RZ G S C Z k w n pc (l0 :: l1 :: l2 :: l3 :: l4 :: l5 :: l6 :: l7 :: l8 :: l :: ls) (vR v :: st) M := by
  intro H locs ar hp hs hm hl hv ha
  obtain ⟨e1, e2⟩ := lsR_put (i := 9) (v := vR v) ha (by simp) (fun j e => by cases e; exact ⟨_, rfl, hn⟩) rfl
  exact lv_astore hC.1 hC.2.1 hd e1 (lsR_lt ha 9 rfl) rfl (fun a2 h2 => kk H locs a2 hp hs hm (okLs_set 9 hl rfl hv.1) hv.2 (e2 a2 h2))
theorem R_astore_10 (hC : CxOK G y C) {l0 l1 l2 l3 l4 l5 l6 l7 l8 l9 : Option V} {l : Option V} {v : Nat} (hd : decode y.2.1 pc = .ok (.astore 10, 2)) (hn : noL l9 = true) (kk : RZ G S C Z k w n (pc + 2) (l0 :: l1 :: l2 :: l3 :: l4 :: l5 :: l6 :: l7 :: l8 :: l9 :: some (vR v) :: ls) st M) : RZ G S C Z k w n pc (l0 :: l1 :: l2 :: l3 :: l4 :: l5 :: l6 :: l7 :: l8 :: l9 :: l :: ls) (vR v :: st) M := by
  intro H locs ar hp hs hm hl hv ha
  obtain ⟨e1, e2⟩ := lsR_put (i := 10) (v := vR v) ha (by simp) (fun j e => by cases e; exact ⟨_, rfl, hn⟩) rfl
  exact lv_astore hC.1 hC.2.1 hd e1 (lsR_lt ha 10 rfl) rfl (fun a2 h2 => kk H locs a2 hp hs hm (okLs_set 10 hl rfl hv.1) hv.2 (e2 a2 h2))
theorem R_astore_11 (hC : CxOK G y C) {l0 l1 l2 l3 l4 l5 l6 l7 l8 l9 l10 : Option V} {l : Option V} {v : Nat} (hd : decode y.2.1 pc = .ok (.astore 11, 2)) (hn : noL l10 = true) (kk : RZ G S C Z k w n (pc + 2) (l0 :: l1 :: l2 :: l3 :: l4 :: l5 :: l6 :: l7 :: l8 :: l9 :: l10 :: some (vR v) :: ls) st M) : RZ G S C Z k w n pc (l0 :: l1 :: l2 :: l3 :: l4 :: l5 :: l6 :: l7 :: l8 :: l9 :: l10 :: l :: ls) (vR v :: st) M := by
  intro H locs ar hp hs hm hl hv ha
  obtain ⟨e1, e2⟩ := lsR_put (i := 11) (v := vR v) ha (by simp) (fun j e => by cases e; exact ⟨_, rfl, hn⟩) rfl
  exact lv_astore hC.1 hC.2.1 hd e1 (lsR_lt ha 11 rfl) rfl (fun a2 h2 => kk H locs a2 hp hs hm (okLs_set 11 hl rfl hv.1) hv.2 (e2 a2 h2))
theorem R_astore_12 (hC : CxOK G y C) {l0 l1 l2 l3 l4 l5 l6 l7 l8 l9 l10 l11 : Option V} {l : Option V} {v : Nat} (hd : decode y.2.1 pc = .ok (.astore 12, 2)) (hn : noL l11 = true) (kk : RZ G S C Z k w n (pc + 2) (l0 :: l1 :: l2 :: l3 :: l4 :: l5 :: l6 :: l7 :: l8 :: l9 :: l10 :: l11 :: some (vR v) :: ls) st M) : RZ G S C Z k w n pc (l0 :: l1 :: l2 :: l3 :: l4 :: l5 :: l6 :: l7 :: l8 :: l9 :: l10 :: l11 :: l :: ls) (vR v :: st) M := by
  intro H locs ar hp hs hm hl hv ha
  obtain ⟨e1, e2⟩ := lsR_put (i := 12) (v := vR v) ha (by simp) (fun j e => by cases e; exact ⟨_, rfl, hn⟩) rfl
  exact lv_astore hC.1 hC.2.1 hd e1 (lsR_lt ha 12 rfl) rfl (fun a2 h2 => kk H locs a2 hp hs hm (okLs_set 12 hl rfl hv.1) hv.2 (e2 a2 h2))
theorem R_iinc_0 (hC : CxOK G y C)  {v c : Int} (hd : decode y.2.1 pc = .ok (.iinc 0 c, 3))  (hc : inI (v + c)) (kk : RZ G S C Z k w n (pc + 3) (some (vI (v + c)) :: ls) st M) : RZ G S C Z k w n pc (some (vI v) :: ls) st M := by
  intro H locs ar hp hs hm hl hv ha
  obtain ⟨e1, e2⟩ := lsR_put (i := 0) (v := vI (v + c)) ha (by simp) (fun j e => by cases e) rfl
  obtain ⟨q, hq⟩ := lsR_pos ha 0 (v := vI v) rfl
  exact lv_iinc hC.1 hC.2.1 hd e1 hq (Int32.ofInt_add _ _).symm (lsR_lt ha 0 rfl) rfl (fun a2 h2 => kk H locs a2 hp hs hm (okLs_set 0 hl rfl hc) hv (e2 a2 h2))
theorem R_iinc_1 (hC : CxOK G y C) {l0 : Option V} {v c : Int} (hd : decode y.2.1 pc = .ok (.iinc 1 c, 3)) (hn : noL l0 = true) (hc : inI (v + c)) (kk : RZ G S C Z k w n (pc + 3) (l0 :: some (vI (v + c)) :: ls) st M) : RZ G S C Z k w n pc (l0 :: some (vI v) :: ls) st M := by
  intro H locs ar hp hs hm hl hv ha
  obtain ⟨e1, e2⟩ := lsR_put (i := 1) (v := vI (v + c)) ha (by simp) (fun j e => by cases e; exact ⟨_, rfl, hn⟩) rfl
  obtain ⟨q, hq⟩ := lsR_pos ha 1 (v := vI v) rfl
  exact lv_iinc hC.1 hC.2.1 hd e1 hq (Int32.ofInt_add _ _).symm (lsR_lt ha 1 rfl) rfl (fun a2 h2 => kk H locs a2 hp hs hm (okLs_set 1 hl rfl hc) hv (e2 a2 h2))
theorem R_iinc_2 (hC : CxOK G y C) {l0 l1 : Option V} {v c : Int} (hd : decode y.2.1 pc = .ok (.iinc 2 c, 3)) (hn : noL l1 = true) (hc : inI (v + c)) (kk : RZ G S C Z k w n (pc + 3) (l0 :: l1 :: some (vI (v + c)) :: ls) st M) : RZ G S C Z k w n pc (l0 :: l1 :: some (vI v) :: ls) st M := by
  intro H locs ar hp hs hm hl hv ha
  obtain ⟨e1, e2⟩ := lsR_put (i := 2) (v := vI (v + c)) ha (by simp) (fun j e => by cases e; exact ⟨_, rfl, hn⟩) rfl
  obtain ⟨q, hq⟩ := lsR_pos ha 2 (v := vI v) rfl
  exact lv_iinc hC.1 hC.2.1 hd e1 hq (Int32.ofInt_add _ _).symm (lsR_lt ha 2 rfl) rfl (fun a2 h2 => kk H locs a2 hp hs hm (okLs_set 2 hl rfl hc) hv (e2 a2 h2))
theorem R_iinc_3 (hC : CxOK G y C) {l0 l1 l2 : Option V} {v c : Int} (hd : decode y.2.1 pc = .ok (.iinc 3 c, 3)) (hn : noL l2 = true) (hc : inI (v + c)) (kk : RZ G S C Z k w n (pc + 3) (l0 :: l1 :: l2 :: some (vI (v + c)) :: ls) st M) : RZ G S C Z k w n pc (l0 :: l1 :: l2 :: some (vI v) :: ls) st M := by
  intro H locs ar hp hs hm hl hv ha
  obtain ⟨e1, e2⟩ := lsR_put (i := 3) (v := vI (v + c)) ha (by simp) (fun j e => by cases e; exact ⟨_, rfl, hn⟩) rfl
  obtain ⟨q, hq⟩ := lsR_pos ha 3 (v := vI v) rfl
  exact lv_iinc hC.1 hC.2.1 hd e1 hq (Int32.ofInt_add _ _).symm (lsR_lt ha 3 rfl) rfl (fun a2 h2 => kk H locs a2 hp hs hm (okLs_set 3 hl rfl hc) hv (e2 a2 h2))
theorem R_iinc_4 (hC : CxOK G y C) {l0 l1 l2 l3 : Option V} {v c : Int} (hd : decode y.2.1 pc = .ok (.iinc 4 c, 3)) (hn : noL l3 = true) (hc : inI (v + c)) (kk : RZ G S C Z k w n (pc + 3) (l0 :: l1 :: l2 :: l3 :: some (vI (v + c)) :: ls) st M) : RZ G S C Z k w n pc (l0 :: l1 :: l2 :: l3 :: some (vI v) :: ls) st M := by
  intro H locs ar hp hs hm hl hv ha
  obtain ⟨e1, e2⟩ := lsR_put (i := 4) (v := vI (v + c)) ha (by simp) (fun j e => by cases e; exact ⟨_, rfl, hn⟩) rfl
  obtain ⟨q, hq⟩ := lsR_pos ha 4 (v := vI v) rfl
  exact lv_iinc hC.1 hC.2.1 hd e1 hq (Int32.ofInt_add _ _).symm (lsR_lt ha 4 rfl) rfl (fun a2 h2 => kk H locs a2 hp hs hm (okLs_set 4 hl rfl hc) hv (e2 a2 h2))
theorem R_iinc_5 (hC : CxOK G y C) {l0 l1 l2 l3 l4 : Option V} {v c : Int} (hd : decode y.2.1 pc = .ok (.iinc 5 c, 3)) (hn : noL l4 = true) (hc : inI (v + c)) (kk : RZ G S C Z k w n (pc + 3) (l0 :: l1 :: l2 :: l3 :: l4 :: some (vI (v + c)) :: ls) st M) : RZ G S C Z k w n pc (l0 :: l1 :: l2 :: l3 :: l4 :: some (vI v) :: ls) st M := by
  intro H locs ar hp hs hm hl hv ha
  obtain ⟨e1, e2⟩ := lsR_put (i := 5) (v := vI (v + c)) ha (by simp) (fun j e => by cases e; exact ⟨_, rfl, hn⟩) rfl
  obtain ⟨q, hq⟩ := lsR_pos ha 5 (v := vI v) rfl
  exact lv_iinc hC.1 hC.2.1 hd e1 hq (Int32.ofInt_add _ _).symm (lsR_lt ha 5 rfl) rfl (fun a2 h2 => kk H locs a2 hp hs hm (okLs_set 5 hl rfl hc) hv (e2 a2 h2))
theorem R_iinc_6 (hC : CxOK G y C) {l0 l1 l2 l3 l4 l5 : Option V} {v c : Int} (hd : decode y.2.1 pc = .ok (.iinc 6 c, 3)) (hn : noL l5 = true) (hc : inI (v + c)) (kk : RZ G S C Z k w n (pc + 3) (l0 :: l1 :: l2 :: l3 :: l4 :: l5 :: some (vI (v + c)) :: ls) st M) : RZ G S C Z k w n pc (l0 :: l1 :: l2 :: l3 :: l4 :: l5 :: some (vI v) :: ls) st M := by
  intro H locs ar hp hs hm hl hv ha
  obtain ⟨e1, e2⟩ := lsR_put (i := 6) (v := vI (v + c)) ha (by simp) (fun j e => by cases e; exact ⟨_, rfl, hn⟩) rfl
  obtain ⟨q, hq⟩ := lsR_pos ha 6 (v := vI v) rfl
  exact lv_iinc hC.1 hC.2.1 hd e1 hq (Int32.ofInt_add _ _).symm (lsR_lt ha 6 rfl) rfl (fun a2 h2 => kk H locs a2 hp hs hm (okLs_set 6 hl rfl hc) hv (e2 a2 h2))
theorem R_iinc_7 (hC : CxOK G y C) {l0 l1 l2 l3 l4 l5 l6 : Option V} {v c : Int} (hd : decode y.2.1 pc = .ok (.iinc 7 c, 3)) (hn : noL l6 = true) (hc : inI (v + c)) (kk : RZ G S C Z k w n (pc + 3) (l0 :: l1 :: l2 :: l3 :: l4 :: l5 :: l6 :: some (vI (v + c)) :: ls) st M) : RZ G S C Z k w n pc (l0 :: l1 :: l2 :: l3 :: l4 :: l5 :: l6 :: some (vI v) :: ls) st M := by
  intro H locs ar hp hs hm hl hv ha
  obtain ⟨e1, e2⟩ := lsR_put (i := 7) (v := vI (v + c)) ha (by simp) (fun j e => by cases e; exact ⟨_, rfl, hn⟩) rfl
  obtain ⟨q, hq⟩ := lsR_pos ha 7 (v := vI v) rfl
  exact lv_iinc hC.1 hC.2.1 hd e1 hq (Int32.ofInt_add _ _).symm (lsR_lt ha 7 rfl) rfl (fun a2 h2 => kk H locs a2 hp hs hm (okLs_set 7 hl rfl hc) hv (e2 a2 h2))
theorem R_iinc_8 (hC : CxOK G y C) {l0 l1 l2 l3 l4 l5 l6 l7 : Option V} {v c : Int} (hd : decode y.2.1 pc = .ok (.iinc 8 c, 3)) (hn : noL l7 = true) (hc : inI (v + c)) (kk : RZ G S C Z k w n (pc + 3) (l0 :: l1 :: l2 :: l3 :: l4 :: l5 :: l6 :: l7 :: some (vI (v + c)) :: ls) st M) : RZ G S C Z k w n pc (l0 :: l1 :: l2 :: l3 :: l4 :: l5 :: l6 :: l7 :: some (vI v) :: ls) st M := by
  intro H locs ar hp hs hm hl hv ha
  obtain ⟨e1, e2⟩ := lsR_put (i := 8) (v := vI (v + c)) ha (by simp) (fun j e => by cases e; exact ⟨_, rfl, hn⟩) rfl
  obtain ⟨q, hq⟩ := lsR_pos ha 8 (v := vI v) rfl
  exact lv_iinc hC.1 hC.2.1 hd e1 hq (Int32.ofInt_add _ _).symm (lsR_lt ha 8 rfl) rfl (fun a2 h2 => kk H locs a2 hp hs hm (okLs_set 8 hl rfl hc) hv (e2 a2 h2))
theorem R_iinc_9 (hC : CxOK G y C) {l0 l1 l2 l3 l4 l5 l6 l7 l8 : Option V} {v c : Int} (hd : decode y.2.1 pc = .ok (.iinc 9 c, 3)) (hn : noL l8 = true) (hc : inI (v + c)) (kk : RZ G S C Z k w n (pc + 3) (l0 :: l1 :: l2 :: l3 :: l4 :: l5 :: l6 :: l7 :: l8 :: some (vI (v + c)) :: ls) st M) : RZ G S C Z k w n pc (l0 :: l1 :: l2 :: l3 :: l4 :: l5 :: l6 :: l7 :: l8 :: some (vI v) :: ls) st M := by
  intro H locs ar hp hs hm hl hv ha
  obtain ⟨e1, e2⟩ := lsR_put (i := 9) (v := vI (v + c)) ha (by simp) (fun j e => by cases e; exact ⟨_, rfl, hn⟩) rfl
  obtain ⟨q, hq⟩ := lsR_pos ha 9 (v := vI v) rfl
  exact lv_iinc hC.1 hC.2.1 hd e1 hq (Int32.ofInt_add _ _).symm (lsR_lt ha 9 rfl) rfl (fun a2 h2 => kk H locs a2 hp hs hm (okLs_set 9 hl rfl hc) hv (e2 a2 h2))
theorem R_iinc_10 (hC : CxOK G y C) {l0 l1 l2 l3 l4 l5 l6 l7 l8 l9 : Option V} {v c : Int} (hd : decode y.2.1 pc = .ok (.iinc 10 c, 3)) (hn : noL l9 = true) (hc : inI (v + c)) (kk : RZ G S C Z k w n (pc + 3) (l0 :: l1 :: l2 :: l3 :: l4 :: l5 :: l6 :: l7 :: l8 :: l9 :: some (vI (v + c)) :: ls) st M) : RZ G S C Z k w n pc (l0 :: l1 :: l2 :: l3 :: l4 :: l5 :: l6 :: l7 :: l8 :: l9 :: some (vI v) :: ls) st M := by
  intro H locs ar hp hs hm hl hv ha
  obtain ⟨e1, e2⟩ := lsR_put (i := 10) (v := vI (v + c)) ha (by simp) (fun j e => by cases e; exact ⟨_, rfl, hn⟩) rfl
  obtain ⟨q, hq⟩ := lsR_pos ha 10 (v := vI v) rfl
  exact lv_iinc hC.1 hC.2.1 hd e1 hq (Int32.ofInt_add _ _).symm (lsR_lt ha 10 rfl) rfl (fun a2 h2 => kk H locs a2 hp hs hm (okLs_set 10 hl rfl hc) hv (e2 a2 h2))
theorem R_iinc_11 (hC : CxOK G y C) {l0 l1 l2 l3 l4 l5 l6 l7 l8 l9 l10 : Option V} {v c : Int} (hd : decode y.2.1 pc = .ok (.iinc 11 c, 3)) (hn : noL l10 = true) (hc : inI (v + c)) (kk : RZ G S C Z k w n (pc + 3) (l0 :: l1 :: l2 :: l3 :: l4 :: l5 :: l6 :: l7 :: l8 :: l9 :: l10 :: some (vI (v + c)) :: ls) st M) : RZ G S C Z k w n pc (l0 :: l1 :: l2 :: l3 :: l4 :: l5 :: l6 :: l7 :: l8 :: l9 :: l10 :: some (vI v) :: ls) st M := by
  intro H locs ar hp hs hm hl hv ha
  obtain ⟨e1, e2⟩ := lsR_put (i := 11) (v := vI (v + c)) ha (by simp) (fun j e => by cases e; exact ⟨_, rfl, hn⟩) rfl
  obtain ⟨q, hq⟩ := lsR_pos ha 11 (v := vI v) rfl
  exact lv_iinc hC.1 hC.2.1 hd e1 hq (Int32.ofInt_add _ _).symm (lsR_lt ha 11 rfl) rfl (fun a2 h2 => kk H locs a2 hp hs hm (okLs_set 11 hl rfl hc) hv (e2 a2 h2))
theorem R_iinc_12 (hC : CxOK G y C) {l0 l1 l2 l3 l4 l5 l6 l7 l8 l9 l10 l11 : Option V} {v c : Int} (hd : decode y.2.1 pc = .ok (.iinc 12 c, 3)) (hn : noL l11 = true) (hc : inI (v + c)) (kk : RZ G S C Z k w n (pc + 3) (l0 :: l1 :: l2 :: l3 :: l4 :: l5 :: l6 :: l7 :: l8 :: l9 :: l10 :: l11 :: some (vI (v + c)) :: ls) st M) : RZ G S C Z k w n pc (l0 :: l1 :: l2 :: l3 :: l4 :: l5 :: l6 :: l7 :: l8 :: l9 :: l10 :: l11 :: some (vI v) :: ls) st M := by
  intro H locs ar hp hs hm hl hv ha
  obtain ⟨e1, e2⟩ := lsR_put (i := 12) (v := vI (v + c)) ha (by simp) (fun j e => by cases e; exact ⟨_, rfl, hn⟩) rfl
  obtain ⟨q, hq⟩ := lsR_pos ha 12 (v := vI v) rfl
  exact lv_iinc hC.1 hC.2.1 hd e1 hq (Int32.ofInt_add _ _).symm (lsR_lt ha 12 rfl) rfl (fun a2 h2 => kk H locs a2 hp hs hm (okLs_set 12 hl rfl hc) hv (e2 a2 h2))
theorem R_ok (h : okM S M → okLs ls → okVs st → RZ G S C Z k w n pc ls st M) : RZ G S C Z k w n pc ls st M :=
  fun H locs a hp hs hm hl hv ha => h hm hl hv H locs a hp hs hm hl hv ha
theorem uM_ne {M : Mem} {h h' : Nat} {j v : Int} (e : h' ≠ h) : uM M h j v h' = M h' := by
  funext b
  exact if_neg (fun q => e q.1)
theorem ent_ne {M : Mem} {h h' : Nat} {j v : Int} (e : h' ≠ h) : ent G S (uM M h j v) h' = ent G S M h' := by
  unfold ent
  rw [uM_ne e]
theorem wsM_len : (wsM G S n M).length = n := by simp [wsM]
theorem wsM_at {h : Nat} (hh : h < n) : (wsM G S n M)[h]? = some (G.1 h, ent G S M h) := by
  simp [wsM, hh]
theorem wsM_set {M' : Mem} {h : Nat} (he : ∀ h', h' ≠ h → ent G S M' h' = ent G S M h') : (wsM G S n M).set h (G.1 h, ent G S M' h) = wsM G S n M' := by
  apply List.ext_getElem?
  intro i
  by_cases e : i = h
  · subst e
    by_cases hi : i < n
    · rw [List.getElem?_set_self (by rw [wsM_len]; exact hi), wsM_at hi]
    · rw [List.getElem?_eq_none (by rw [List.length_set, wsM_len]; omega), List.getElem?_eq_none (by rw [wsM_len]; omega)]
  · rw [List.getElem?_set_ne (Ne.symm e)]
    by_cases hi : i < n
    · rw [wsM_at hi, wsM_at hi, he i e]
    · rw [List.getElem?_eq_none (by rw [wsM_len]; omega), List.getElem?_eq_none (by rw [wsM_len]; omega)]
theorem ent_arr {h a N : Nat} (hk : S.1 h = (a, N)) (h1 : ¬ a < 14) (h2 : a ≠ 21) : ent G S M h = .inl (G.2.2.2 a, N, .inl (fun j => Int32.ofInt (M h (j : Nat)))) := by
  unfold ent
  rw [hk, if_neg h1, if_neg h2]
theorem ent_arrL {h N : Nat} (hk : S.1 h = (21, N)) : ent G S M h = .inl (G.2.2.2 21, N, .inr (.inl (fun j => Int64.ofInt (M h (j : Nat))))) := by
  unfold ent
  rw [hk, if_neg (show ¬ (21 < 14) by decide), if_pos rfl]
theorem ent_obj {h ci N : Nat} (hk : S.1 h = (ci, N)) (h1 : ci < 14) : ent G S M h = .inr (ci, (List.range N).map (fun k => encF G (S.2 ci k) (M h (k : Nat)))) := by
  unfold ent
  rw [hk, if_pos h1]
theorem okM_uI {h N a : Nat} {j v : Int} (hm : okM S M) (hk : S.1 h = (a, N)) (h2 : a ≠ 21) (hv : inI v) : okM S (uM M h j v) := by
  intro h' k'
  unfold uM
  by_cases e : h' = h ∧ k' = j
  · rw [if_pos e, e.1, hk, if_neg h2]
    exact hv
  · rw [if_neg e]
    exact hm h' k'
theorem okM_uL {h N : Nat} {j v : Int} (hm : okM S M) (hk : S.1 h = (21, N)) (hv : inL v) : okM S (uM M h j v) := by
  intro h' k'
  unfold uM
  by_cases e : h' = h ∧ k' = j
  · rw [if_pos e, e.1, hk, if_pos rfl]
    exact hv
  · rw [if_neg e]
    exact hm h' k'
theorem okM_I (hm : okM S M) {h a N : Nat} (j : Int) (hk : S.1 h = (a, N)) (h2 : a ≠ 21) : inI (M h j) := by
  have := hm h j
  rw [hk, if_neg h2] at this
  exact this
theorem okM_L (hm : okM S M) {h N : Nat} (j : Int) (hk : S.1 h = (21, N)) : inL (M h j) := by
  have := hm h j
  rw [hk, if_pos rfl] at this
  exact this
/-! arrays -/
theorem R_iaload (hC : CxOK G y C) {h N : Nat} {i : Int} (hd : decode y.2.1 pc = .ok (.iaload, 1)) (hh : h < n) (hk : S.1 h = (20, N)) (h0 : 0 ≤ i) (h1 : i < N) (kk : RZ G S C Z k w n (pc + 1) ls (vI (M h i) :: st) M) : RZ G S C Z k w n pc ls (vI i :: vR h :: st) M := by
  intro H locs ar hp hs hm hl hv ha
  refine va_iald (D := G.2.2.1) (cl := vwCl) hC.1 hC.2.1 hC.2.2.2.2.2.1.1 hp.1 h 0 ((wsM_at hh).trans (by rw [ent_arr hk (by decide) (by decide)])) rfl (i_in hv.1 h0 h1) hd ?_
  rw [i_cl hv.1, Int.toNat_of_nonneg h0]
  exact kk H locs ar hp hs hm hl ⟨okM_I hm _ hk (by decide), hv.2.2⟩ ha
theorem R_baload (hC : CxOK G y C) {h N : Nat} {i : Int} (hd : decode y.2.1 pc = .ok (.baload, 1)) (hh : h < n) (hk : S.1 h = (22, N)) (h0 : 0 ≤ i) (h1 : i < N) (kk : RZ G S C Z k w n (pc + 1) ls (vI (M h i) :: st) M) : RZ G S C Z k w n pc ls (vI i :: vR h :: st) M := by
  intro H locs ar hp hs hm hl hv ha
  refine va_bald (D := G.2.2.1) (cl := vwCl) hC.1 hC.2.1 hC.2.2.2.2.2.1.1 hp.1 h 2 ((wsM_at hh).trans (by rw [ent_arr hk (by decide) (by decide)])) rfl (i_in hv.1 h0 h1) hd ?_
  rw [i_cl hv.1, Int.toNat_of_nonneg h0]
  exact kk H locs ar hp hs hm hl ⟨okM_I hm _ hk (by decide), hv.2.2⟩ ha
theorem R_zaload (hC : CxOK G y C) {h N : Nat} {i : Int} (hd : decode y.2.1 pc = .ok (.baload, 1)) (hh : h < n) (hk : S.1 h = (23, N)) (h0 : 0 ≤ i) (h1 : i < N) (kk : RZ G S C Z k w n (pc + 1) ls (vI (M h i) :: st) M) : RZ G S C Z k w n pc ls (vI i :: vR h :: st) M := by
  intro H locs ar hp hs hm hl hv ha
  refine va_zald (D := G.2.2.1) (cl := vwCl) hC.1 hC.2.1 hC.2.2.2.2.2.1.1 hp.1 h 3 ((wsM_at hh).trans (by rw [ent_arr hk (by decide) (by decide)])) rfl (i_in hv.1 h0 h1) hd ?_
  rw [i_cl hv.1, Int.toNat_of_nonneg h0]
  exact kk H locs ar hp hs hm hl ⟨okM_I hm _ hk (by decide), hv.2.2⟩ ha
theorem R_laload (hC : CxOK G y C) {h N : Nat} {i : Int} (hd : decode y.2.1 pc = .ok (.laload, 1)) (hh : h < n) (hk : S.1 h = (21, N)) (h0 : 0 ≤ i) (h1 : i < N) (kk : RZ G S C Z k w n (pc + 1) ls (vL (M h i) :: st) M) : RZ G S C Z k w n pc ls (vI i :: vR h :: st) M := by
  intro H locs ar hp hs hm hl hv ha
  refine va_lald (D := G.2.2.1) (cl := vwCl) hC.1 hC.2.1 hC.2.2.2.2.2.1.1 hp.1 h 1 ((wsM_at hh).trans (by rw [ent_arrL hk])) rfl (i_in hv.1 h0 h1) hd ?_
  rw [i_cl hv.1, Int.toNat_of_nonneg h0]
  exact kk H locs ar hp hs hm hl ⟨okM_L hm _ hk, hv.2.2⟩ ha
theorem R_alen (hC : CxOK G y C) {h N a : Nat} (hd : decode y.2.1 pc = .ok (.arraylength, 1)) (hh : h < n) (hk : S.1 h = (a, N)) (h20 : 20 ≤ a) (h23 : a ≤ 23) (hN : N ≤ 2147483647) (kk : RZ G S C Z k w n (pc + 1) ls (vI N :: st) M) : RZ G S C Z k w n pc ls (vR h :: st) M := by
  intro H locs ar hp hs hm hl hv ha
  have kk2 := kk H locs ar hp hs hm hl ⟨show inI (N : Int) from ⟨by omega, by omega⟩, hv.2⟩ ha
  by_cases h2 : a = 21
  · subst h2
    have e := (wsM_at (G := G) (S := S) (M := M) hh).trans (by rw [ent_arrL (G := G) (M := M) hk])
    exact va_alen (D := G.2.2.1) (cl := vwCl) hC.1 hC.2.1 hC.2.2.2.2.2.1.1 hp.1 h 1 e rfl (nI_ofInt N) hd kk2
  · have e := (wsM_at (G := G) (S := S) (M := M) hh).trans (by rw [ent_arr (G := G) (M := M) hk (by omega) h2])
    rcases (show a = 20 ∨ a = 22 ∨ a = 23 by omega) with q | q | q
    · subst q; exact va_alen (D := G.2.2.1) (cl := vwCl) hC.1 hC.2.1 hC.2.2.2.2.2.1.1 hp.1 h 0 e rfl (nI_ofInt N) hd kk2
    · subst q; exact va_alen (D := G.2.2.1) (cl := vwCl) hC.1 hC.2.1 hC.2.2.2.2.2.1.1 hp.1 h 2 e rfl (nI_ofInt N) hd kk2
    · subst q; exact va_alen (D := G.2.2.1) (cl := vwCl) hC.1 hC.2.1 hC.2.2.2.2.2.1.1 hp.1 h 3 e rfl (nI_ofInt N) hd kk2
theorem set_I {h N a : Nat} {i v : Int} (hk : S.1 h = (a, N)) (h1 : ¬ a < 14) (h2 : a ≠ 21) (hi : inI i) (h0 : 0 ≤ i) : (wsM G S n M).set h (G.1 h, .inl (G.2.2.2 a, N, .inl (upd (fun j => Int32.ofInt (M h (j : Nat))) (Int32.ofInt i).toNatClampNeg (Int32.ofInt v)))) = wsM G S n (uM M h i v) := by
  have e : ent G S (uM M h i v) h = .inl (G.2.2.2 a, N, .inl (upd (fun j => Int32.ofInt (M h (j : Nat))) (Int32.ofInt i).toNatClampNeg (Int32.ofInt v))) := by
    rw [ent_arr hk h1 h2, i_cl hi]
    refine congrArg (fun f => (Sum.inl (G.2.2.2 a, N, Sum.inl f) : va_E)) (funext fun j => ?_)
    unfold upd uM
    by_cases e : j = i.toNat
    · rw [if_pos e, if_pos ⟨rfl, by omega⟩]
    · rw [if_neg e, if_neg (fun q => e (by omega))]
  rw [← e]
  exact wsM_set (fun h' e => ent_ne e)
theorem R_iastore (hC : CxOK G y C) {h N : Nat} {i v : Int} (hd : decode y.2.1 pc = .ok (.iastore, 1)) (hh : h < n) (hk : S.1 h = (20, N)) (h0 : 0 ≤ i) (h1 : i < N) (kk : RZ G S C Z k w n (pc + 1) ls st (uM M h i v)) : RZ G S C Z k w n pc ls (vI v :: vI i :: vR h :: st) M := by
  intro H locs ar hp hs hm hl hv ha
  refine va_iast (D := G.2.2.1) (cl := vwCl) hC.1 hC.2.1 hC.2.2.2.2.2.1.1 hp.1 hp.2 hs h 0 ((wsM_at hh).trans (by rw [ent_arr hk (by decide) (by decide)])) rfl (i_in hv.2.1 h0 h1) hd (fun H1 l1 e1 e2 e3 => ?_)
  rw [set_I hk (by decide) (by decide) hv.2.1 h0] at e1 e2
  exact kk H1 l1 ar ⟨e1, e2⟩ e3 (okM_uI hm hk (by decide) hv.1) hl hv.2.2.2 ha
theorem R_bastore (hC : CxOK G y C) {h N : Nat} {i v : Int} (hd : decode y.2.1 pc = .ok (.bastore, 1)) (hh : h < n) (hk : S.1 h = (22, N)) (h0 : 0 ≤ i) (h1 : i < N) (hb : -128 ≤ v ∧ v ≤ 127) (kk : RZ G S C Z k w n (pc + 1) ls st (uM M h i v)) : RZ G S C Z k w n pc ls (vI v :: vI i :: vR h :: st) M := by
  intro H locs ar hp hs hm hl hv ha
  refine va_bast (D := G.2.2.1) (cl := vwCl) hC.1 hC.2.1 hC.2.2.2.2.2.1.1 hp.1 hp.2 hs h 2 ((wsM_at hh).trans (by rw [ent_arr hk (by decide) (by decide)])) rfl (i_in hv.2.1 h0 h1) hd (fun H1 l1 e1 e2 e3 => ?_)
  have e : vp_nar .byte (Int32.ofInt v) = Int32.ofInt v := by
    rw [vp_nar_byte, i_i2b]
    congr 1
    exact Int.bmod_eq_of_le (by omega) (by omega)
  rw [e, set_I hk (by decide) (by decide) hv.2.1 h0] at e1 e2
  exact kk H1 l1 ar ⟨e1, e2⟩ e3 (okM_uI hm hk (by decide) hv.1) hl hv.2.2.2 ha
theorem nar_z {v : Int} (hb : v = 0 ∨ v = 1) : vp_nar .boolean (Int32.ofInt v) = Int32.ofInt v := by
  rcases hb with rfl | rfl <;> decide +kernel
theorem R_zastore (hC : CxOK G y C) {h N : Nat} {i v : Int} (hd : decode y.2.1 pc = .ok (.bastore, 1)) (hh : h < n) (hk : S.1 h = (23, N)) (h0 : 0 ≤ i) (h1 : i < N) (hb : v = 0 ∨ v = 1) (kk : RZ G S C Z k w n (pc + 1) ls st (uM M h i v)) : RZ G S C Z k w n pc ls (vI v :: vI i :: vR h :: st) M := by
  intro H locs ar hp hs hm hl hv ha
  refine va_zast (D := G.2.2.1) (cl := vwCl) hC.1 hC.2.1 hC.2.2.2.2.2.1.1 hp.1 hp.2 hs h 3 ((wsM_at hh).trans (by rw [ent_arr hk (by decide) (by decide)])) rfl (i_in hv.2.1 h0 h1) hd (fun H1 l1 e1 e2 e3 => ?_)
  rw [nar_z hb, set_I hk (by decide) (by decide) hv.2.1 h0] at e1 e2
  exact kk H1 l1 ar ⟨e1, e2⟩ e3 (okM_uI hm hk (by decide) hv.1) hl hv.2.2.2 ha
theorem R_lastore (hC : CxOK G y C) {h N : Nat} {i v : Int} (hd : decode y.2.1 pc = .ok (.lastore, 1)) (hh : h < n) (hk : S.1 h = (21, N)) (h0 : 0 ≤ i) (h1 : i < N) (kk : RZ G S C Z k w n (pc + 1) ls st (uM M h i v)) : RZ G S C Z k w n pc ls (vL v :: vI i :: vR h :: st) M := by
  intro H locs ar hp hs hm hl hv ha
  refine va_last (D := G.2.2.1) (cl := vwCl) hC.1 hC.2.1 hC.2.2.2.2.2.1.1 hp.1 hp.2 hs h 1 ((wsM_at hh).trans (by rw [ent_arrL hk])) rfl (i_in hv.2.1 h0 h1) hd (fun H1 l1 e1 e2 e3 => ?_)
  have es : (wsM G S n M).set h (G.1 h, .inl (G.2.2.2 21, N, .inr (.inl (vp_updL (fun j => Int64.ofInt (M h (j : Nat))) (Int32.ofInt i).toNatClampNeg (Int64.ofInt v))))) = wsM G S n (uM M h i v) := by
    have e : ent G S (uM M h i v) h = .inl (G.2.2.2 21, N, .inr (.inl (vp_updL (fun j => Int64.ofInt (M h (j : Nat))) (Int32.ofInt i).toNatClampNeg (Int64.ofInt v)))) := by
      rw [ent_arrL hk, i_cl hv.2.1]
      refine congrArg (fun f => (Sum.inl (G.2.2.2 21, N, Sum.inr (Sum.inl f)) : va_E)) (funext fun j => ?_)
      unfold vp_updL uM
      by_cases e : j = i.toNat
      · rw [if_pos e, if_pos ⟨rfl, by omega⟩]
      · rw [if_neg e, if_neg (fun q => e (by omega))]
    rw [← e]
    exact wsM_set (fun h' e => ent_ne e)
  rw [es] at e1 e2
  exact kk H1 l1 ar ⟨e1, e2⟩ e3 (okM_uL hm hk hv.1) hl hv.2.2.2 ha
/-! fields -/
def ClOK (ci : Nat) (Cn : String) (T : u_T) (N : Nat) (ty : Nat → FieldType) : Prop :=
  vwCl[ci]? = some (Cn, T, N) ∧ (∀ q ∈ u_ws Cn T N, q ∈ Ts) ∧ (∀ k, k < N → parseFieldDescriptor (T k).2.2.1 = some (ty k)) ∧ ∀ a, a < N → ∀ b, b < N → a ≠ b → (T a).2.1 ≠ (T b).2.1
def tagOf : FieldType → Nat
  | .int => 0
  | .boolean => 1
  | .byte => 1
  | .object _ => 2
  | .array _ => 2
  | _ => 3
/-- the field that entry idx of class own names: class ci, place f, tag t, final or not -/
def FL (own : String) (idx ci f t : Nat) (fin : Bool) : Prop :=
  ∃ (Cn : String) (T : u_T) (N : Nat) (ty : Nat → FieldType), ClOK ci Cn T N ty ∧ f < N ∧ Cond.fieldLink own idx (T f).1 (T f).2.1 (T f).2.2.1 ∈ Ts ∧ tagOf (ty f) = t ∧ (T f).2.2.2 = fin
theorem cl_lt {ci : Nat} {q : vw_C} (h : vwCl[ci]? = some q) : ci < 14 := (List.getElem?_eq_some_iff.mp h).1
theorem R_getI (hC : CxOK G y C) {h ci f t idx N : Nat} {fin : Bool} (hd : decode y.2.1 pc = .ok (.getfield idx, 3)) (hf : FL y.1.cls idx ci f t fin) (hh : h < n) (hk : S.1 h = (ci, N)) (hfN : f < N) (hS : S.2 ci f < 2) {fi : Int} (hfi : (f : Int) = fi) (kk : RZ G S C Z k w n (pc + 3) ls (vI (M h fi) :: st) M) : RZ G S C Z k w n pc ls (vR h :: st) M := by
  subst hfi
  intro H locs ar hp hs hm hl hv ha
  obtain ⟨Cn, T, N2, ty, ⟨hc, hin, -, -⟩, hlt, hlk, -, -⟩ := hf
  refine va_get (D := G.2.2.1) hC.1 hC.2.1 (hC.2.2.2.2.1) hin hC.2.2.2.1 hC.2.2.2.2.2.1.1 hp.1 h ((wsM_at hh).trans (by rw [ent_obj hk (cl_lt hc)])) hc f hlt (hC.2.2.2.2.1 _ hlk) (fun _ q => q) (v := .int (Int32.ofInt (M h f))) ?_ hd (kk H locs ar hp hs hm hl ⟨okM_I hm _ hk (by have := cl_lt hc; omega), hv.2⟩ ha)
  simp [hfN, encF, hS]
theorem R_getR (hC : CxOK G y C) {h ci f t idx N r : Nat} {fin : Bool} (hd : decode y.2.1 pc = .ok (.getfield idx, 3)) (hf : FL y.1.cls idx ci f t fin) (hh : h < n) (hk : S.1 h = (ci, N)) (hfN : f < N) (hS : S.2 ci f = 2) {fi : Int} (hfi : (f : Int) = fi) (hr : M h fi = (r : Int)) (kk : RZ G S C Z k w n (pc + 3) ls (vR r :: st) M) : RZ G S C Z k w n pc ls (vR h :: st) M := by
  subst hfi
  intro H locs ar hp hs hm hl hv ha
  obtain ⟨Cn, T, N2, ty, ⟨hc, hin, -, -⟩, hlt, hlk, -, -⟩ := hf
  refine va_get (D := G.2.2.1) hC.1 hC.2.1 (hC.2.2.2.2.1) hin hC.2.2.2.1 hC.2.2.2.2.2.1.1 hp.1 h ((wsM_at hh).trans (by rw [ent_obj hk (cl_lt hc)])) hc f hlt (hC.2.2.2.2.1 _ hlk) (fun _ q => q) (v := .ref (G.1 r)) ?_ hd (kk H locs ar hp hs hm hl ⟨trivial, hv.2⟩ ha)
  rw [List.getElem?_map, List.getElem?_range hfN, Option.map_some, hS, hr]
  unfold encF
  rw [if_neg (by decide), if_neg (by omega)]
  rfl
theorem set_F {h ci N f : Nat} {v : Int} {u : Value} (hk : S.1 h = (ci, N)) (h1 : ci < 14) (hfN : f < N) (hu : encF G (S.2 ci f) v = u) : (wsM G S n M).set h (G.1 h, .inr (ci, ((List.range N).map (fun k => encF G (S.2 ci k) (M h (k : Nat)))).set f u)) = wsM G S n (uM M h (f : Int) v) := by
  have e : ent G S (uM M h (f : Int) v) h = .inr (ci, ((List.range N).map (fun k => encF G (S.2 ci k) (M h (k : Nat)))).set f u) := by
    rw [ent_obj hk h1]
    refine congrArg (fun q => (Sum.inr (ci, q) : va_E)) (List.ext_getElem? fun i => ?_)
    by_cases e : i = f
    · subst e
      rw [List.getElem?_set_self (by simp; exact hfN), List.getElem?_map, List.getElem?_range hfN, Option.map_some, ← hu]
      simp [uM]
    · rw [List.getElem?_set_ne (Ne.symm e), List.getElem?_map, List.getElem?_map]
      by_cases hi : i < N
      · rw [List.getElem?_range hi, Option.map_some, Option.map_some]
        have e2 : ¬ (i : Int) = (f : Int) := by omega
        simp [uM, e2]
      · rw [List.getElem?_eq_none (by simp; omega)]
        rfl
  rw [← e]
  exact wsM_set (fun h' e => ent_ne e)
theorem R_put0 (hC : CxOK G y C) {h ci f t idx N : Nat} {u : Value} {v : Int} (hd : decode y.2.1 pc = .ok (.putfield idx, 3)) (hf : FL y.1.cls idx ci f t false) (hh : h < n) (hk : S.1 h = (ci, N)) (hfN : f < N) (hu : encF G (S.2 ci f) v = u)
    (hn : ∀ ty, tagOf ty = t → narrow ty u = u ∧ fits ty u = true) (hi : inI v) (kk : RZ G S C Z k w n (pc + 3) ls st (uM M h (f : Int) v)) :
    ∀ (H : Heap) (locs : List Loc) (a : Array Slot), Hp G S n M H → va_S (aA G) C.2.2.2.2.1.heap H locs → okM S M → okLs ls → okVs st → lsR G C.2.2.2.2.2.2.2.2.2.maxLocals ls a →
    W C.1 C.2.1 C.2.2.1 C.2.2.2.1 C.2.2.2.2.1 C.2.2.2.2.2.1 C.2.2.2.2.2.2.1 C.2.2.2.2.2.2.2.1 C.2.2.2.2.2.2.2.2.1 C.2.2.2.2.2.2.2.2.2 H locs k w Z (F0 C.2.2.2.2.2.1 pc a (u :: .ref (G.1 h) :: st.map (enc G))) := by
  intro H locs ar hp hs hm hl hv ha
  obtain ⟨Cn, T, N2, ty, ⟨hc, hin, hty, hnm⟩, hlt, hlk, htg, hfin⟩ := hf
  obtain ⟨hn1, hn2⟩ := hn (ty f) htg
  refine va_put (D := G.2.2.1) hC.1 hC.2.1 (hC.2.2.2.2.1) hin ty hty hnm hC.2.2.2.1 hC.2.2.2.2.2.1.1 hp.1 hp.2 hs h ((wsM_at hh).trans (by rw [ent_obj hk (cl_lt hc)])) hc f hlt (hC.2.2.2.2.1 _ hlk) (fun _ q => q) hfin (hty f hlt) hn1 hn2 (by simp; exact hfN) hd (fun H1 l1 e1 e2 e3 => ?_)
  rw [set_F hk (cl_lt hc) hfN hu] at e1 e2
  exact kk H1 l1 ar ⟨e1, e2⟩ e3 (okM_uI hm hk (by have := cl_lt hc; omega) hi) hl hv ha
theorem R_putI (hC : CxOK G y C) {h ci f idx N : Nat} {v : Int} (hd : decode y.2.1 pc = .ok (.putfield idx, 3)) (hf : FL y.1.cls idx ci f 0 false) (hh : h < n) (hk : S.1 h = (ci, N)) (hfN : f < N) (hS : S.2 ci f = 0) {fi : Int} (hfi : (f : Int) = fi) (kk : RZ G S C Z k w n (pc + 3) ls st (uM M h fi v)) : RZ G S C Z k w n pc ls (vI v :: vR h :: st) M := by
  subst hfi
  intro H locs ar hp hs hm hl hv ha
  exact R_put0 hC hd hf hh hk hfN (u := .int (Int32.ofInt v)) (by rw [hS]; rfl) (fun ty e => by cases ty <;> first | exact ⟨rfl, rfl⟩ | cases e) hv.1 kk H locs ar hp hs hm hl hv.2.2 ha
theorem R_putZ (hC : CxOK G y C) {h ci f idx N : Nat} {v : Int} (hd : decode y.2.1 pc = .ok (.putfield idx, 3)) (hf : FL y.1.cls idx ci f 1 false) (hh : h < n) (hk : S.1 h = (ci, N)) (hfN : f < N) (hS : S.2 ci f = 1) (hb : v = 0 ∨ v = 1) {fi : Int} (hfi : (f : Int) = fi) (kk : RZ G S C Z k w n (pc + 3) ls st (uM M h fi v)) : RZ G S C Z k w n pc ls (vI v :: vR h :: st) M := by
  subst hfi
  intro H locs ar hp hs hm hl hv ha
  refine R_put0 hC hd hf hh hk hfN (u := .int (Int32.ofInt v)) (by rw [hS]; rfl) (fun ty e => ?_) hv.1 kk H locs ar hp hs hm hl hv.2.2 ha
  cases ty <;> first | (rcases hb with rfl | rfl <;> exact ⟨by decide +kernel, by decide +kernel⟩) | cases e
theorem R_putR (hC : CxOK G y C) {h ci f idx N r : Nat} (hd : decode y.2.1 pc = .ok (.putfield idx, 3)) (hf : FL y.1.cls idx ci f 2 false) (hh : h < n) (hk : S.1 h = (ci, N)) (hfN : f < N) (hS : S.2 ci f = 2) (hr : r < 1000) {fi : Int} (hfi : (f : Int) = fi) (kk : RZ G S C Z k w n (pc + 3) ls st (uM M h fi r)) : RZ G S C Z k w n pc ls (vR r :: vR h :: st) M := by
  subst hfi
  intro H locs ar hp hs hm hl hv ha
  refine R_put0 hC hd hf hh hk hfN (u := .ref (G.1 r)) (v := (r : Int)) (by rw [hS]; unfold encF; rw [if_neg (by decide), if_neg (by omega)]; rfl) (fun ty e => ?_) ⟨by omega, by omega⟩ kk H locs ar hp hs hm hl hv.2.2 ha
  cases ty <;> first | exact ⟨rfl, rfl⟩ | cases e
/-! contracts, calls, returns -/
/-- room for d frames more -/
def RmOK (C : Cx) (d : Nat) : Prop := d ≤ C.2.2.2.1.frames ∧ 40 * d + 40 ≤ C.2.2.2.1.locals
def rmD (d : Nat) : Room := { frames := d, cells := 0, slots := 0, locals := 40 * d + 40 }
def wsY (y : Mt) : List Cond := .code y.1 y.2.1 y.2.2.1 y.2.2.2 :: Ts
def Qn (G : Gl) (S : Sh) (n : Nat) (Q : Option V → Mem → Prop) : Array Value → State → Outcome → State → Prop := fun _ st o t =>
  (∃ (r : Option V) (M : Mem), o = .returned (r.map (enc G)) ∧ Q r M ∧ Hp G S n M t.heap ∧ okM S M ∧ okVs r.toList) ∧ va_F (aA G) st t
def Pn (G : Gl) (S : Sh) (n : Nat) (args : List V) (M : Mem) : Array Value → State → Prop := fun a U =>
  a = (args.map (enc G)).toArray ∧ Hp G S n M U.heap ∧ KK G U ∧ okM S M ∧ okVs args ∧ ∀ q : Nat, U.heap.size ≤ q → aA G q
/-- method y, called with args at memory M, returns so that Q holds of what it returns and of the memory then -/
def Ct (G : Gl) (S : Sh) (n : Nat) (l : Launch) (d : Nat) (y : Mt) (args : List V) (M : Mem) (Q : Option V → Mem → Prop) : Prop :=
  Met l y.1 (wsY y) (rmD d) (Pn G S n args M) (Qn G S n Q) 0 0 (aA G)
def Zn (G : Gl) (S : Sh) (n : Nat) (C : Cx) (Q : Option V → Mem → Prop) : State → Prop := MQ C.2.2.2.2.2.2.2.1 (Qn G S n Q) C.2.2.2.2.2.2.1 C.2.2.2.2.1 0 0 (aA G)
theorem R_start {l : Launch} {d : Nat} {args : List V} {Q : Option V → Mem → Prop} (hy : plainName y.1.cls = true) (hlen : (aL args).length ≤ y.2.2.1)
    (h : ∀ C : Cx, CxOK G y C → RmOK C d → C.2.1 = l → RZ G S C (Zn G S n C Q) 0 0 n 0 (aL args ++ List.replicate (y.2.2.1 - (aL args).length) none) [] M) : Ct G S n l d y args M Q := by
  refine Met.ofW (cc := y.2.1) (maxL := y.2.2.1) (ret := y.2.2.2) hy rfl ?_
  intro p e s m ars below meth c s₁ B hml hv
  obtain ⟨rfl, hp, hK, hm, hv, hz⟩ := hv
  have hts : ∀ q ∈ Ts, q.before (args.map (enc G)).toArray s = true := fun q hq => atoms_spec (ws := wsY y) B.pre q (List.mem_cons_of_mem _ hq)
  have hC : CxOK G y (p, l, e, (headSpec (wsY y) (rmD d)).room, s, m, (args.map (enc G)).toArray, below, meth, c) :=
    ⟨B.exec, B.bytes, hml, findClass_of_methodNamed B.named, hts, hK, B.notSynchronized, B.returns, hz⟩
  have hW := h _ hC ⟨Nat.le_refl _, Nat.le_refl _⟩ rfl s.heap [] _ hp va_S.rf hm (okLs_aL args _ hv) trivial (by
    show lsR G c.maxLocals _ _
    rw [hml]
    exact lsR_entry G args hlen)
  rw [lg_entry_eq]
  exact hW
theorem R_ireturn (hC : CxOK G y C) {v : Int} {Q : Option V → Mem → Prop} (hd : decode y.2.1 pc = .ok (.ireturn, 1)) (hr : y.2.2.2 = some .int) (hq : Q (some (vI v)) M) : RZ G S C (Zn G S n C Q) 0 0 n pc ls [vI v] M := by
  intro H locs ar hp hs hm hl hv ha
  exact W.iret hC.1 hC.2.1 (hC.2.2.2.2.2.2.2.1.trans hr) (fun t ht hW => ⟨⟨some (vI v), M, rfl, hq, by rw [ht]; exact hp, hm, hv.1, trivial⟩, hs.F ht⟩) hs.2.2 hd hC.2.2.2.2.2.2.1
theorem R_zreturn (hC : CxOK G y C) {v : Int} {Q : Option V → Mem → Prop} (hd : decode y.2.1 pc = .ok (.ireturn, 1)) (hr : y.2.2.2 = some .boolean) (hb : v = 0 ∨ v = 1) (hq : Q (some (vI v)) M) : RZ G S C (Zn G S n C Q) 0 0 n pc ls [vI v] M := by
  intro H locs ar hp hs hm hl hv ha
  exact W.zret hC.1 hC.2.1 (hC.2.2.2.2.2.2.2.1.trans hr) (by rcases hb with rfl | rfl <;> decide +kernel) (fun t ht hW => ⟨⟨some (vI v), M, rfl, hq, by rw [ht]; exact hp, hm, hv.1, trivial⟩, hs.F ht⟩) hs.2.2 hd hC.2.2.2.2.2.2.1
theorem R_lreturn (hC : CxOK G y C) {v : Int} {Q : Option V → Mem → Prop} (hd : decode y.2.1 pc = .ok (.lreturn, 1)) (hr : y.2.2.2 = some .long) (hq : Q (some (vL v)) M) : RZ G S C (Zn G S n C Q) 0 0 n pc ls [vL v] M := by
  intro H locs ar hp hs hm hl hv ha
  exact W.lret hC.1 hC.2.1 (hC.2.2.2.2.2.2.2.1.trans hr) (fun t ht hW => ⟨⟨some (vL v), M, rfl, hq, by rw [ht]; exact hp, hm, hv.1, trivial⟩, hs.F ht⟩) hs.2.2 hd hC.2.2.2.2.2.2.1
theorem R_return (hC : CxOK G y C) {Q : Option V → Mem → Prop} (hd : decode y.2.1 pc = .ok (.return_, 1)) (hr : y.2.2.2 = none) (hq : Q none M) : RZ G S C (Zn G S n C Q) 0 0 n pc ls [] M := by
  intro H locs ar hp hs hm hl hv ha
  exact W.vret hC.1 hC.2.1 (hC.2.2.2.2.2.2.2.1.trans hr) (fun t ht hW => ⟨⟨none, M, rfl, hq, by rw [ht]; exact hp, hm, trivial⟩, hs.F ht⟩) hs.2.2 hd hC.2.2.2.2.2.2.1
/-- a method's own words stand in the tables: so many arguments beside the receiver -/
def MO (y : Mt) (na : Nat) (stat : Bool) : Prop :=
  Cond.code y.1 y.2.1 y.2.2.1 y.2.2.2 ∈ Ts ∧ Cond.initialized y.1.cls ∈ Ts ∧ (y.1.cls ≠ "java/lang/invoke/MethodHandle" ∧ y.1.cls ≠ "java/lang/invoke/VarHandle" ∧ (parseMethodDescriptor y.1.desc).map (fun d => d.parameters.length) = some na) ∧
  if stat = true then Cond.static y.1 ∈ Ts else Cond.instanceMethod y.1 ∈ Ts ∧ Cond.selects y.1.cls y.1 y.1 ∈ Ts
theorem good_wsY {z : Mt} (h : Cond.code z.1 z.2.1 z.2.2.1 z.2.2.2 ∈ Ts) : GoodIn Ts (wsY z) := by
  intro q hq
  have hq : q ∈ Ts := by
    rcases List.mem_cons.mp hq with e | e
    · rw [e]; exact h
    · exact e
  exact ⟨hq, good_of_word (List.mem_filter.mp hq).2⟩
theorem KK.moved {U U' : State} (hW : U.WarmedH U'.vm) (hh : ∀ a : Nat, a < U.heap.size → ¬ aA G a → U'.heap[a]? = U.heap[a]?) (h : KK G U) : KK G U' := by
  refine ⟨va_K.moved hW.alike h.1, fun q hq e => ?_, h.2.2.1, (XW.moved hW h.2.2.2).kept hh⟩
  have hq2 := h.2.1 q hq e
  cases q <;> first | exact va_Nw.warmM hW hq2 | exact cast_al hW.alike hq2 | cases e
theorem KK.calling {U : State} {g : JFrame} {mk : MethodId} {a : Array Value} (h : KK G U) : KK G (U.calling g mk a) := by
  refine ⟨va_K.moved (u := U) (U := U.calling g mk a) (Vm.Alike.refl U.vm) h.1, fun q hq e => ?_, h.2.2.1, XW.same (u := U) (U := U.calling g mk a) rfl h.2.2.2⟩
  have hq2 := h.2.1 q hq e
  cases q <;> first | exact va_Nw.same rfl (u := U) (U := U.calling g mk a) rfl hq2 | exact cast_al (Vm.Alike.refl _) hq2 | cases e
theorem R_call {args : List V} {Q : Option V → Mem → Prop} {Zs : List Value} (hC : CxOK G y C) (hcat : (st.map vcat).sum ≤ 8)
    {H : Heap} {locs : List Loc} {ar : Array Slot} (hs : va_S (aA G) C.2.2.2.2.1.heap H locs) (hl : okLs ls) (hv : okVs st) (ha : lsR G C.2.2.2.2.2.2.2.2.2.maxLocals ls ar)
    (hr : va_Run C.1 C.2.1 C.2.2.1 C.2.2.2.1 C.2.2.2.2.1 C.2.2.2.2.2.1 C.2.2.2.2.2.2.1 C.2.2.2.2.2.2.2.1 C.2.2.2.2.2.2.2.2.1 C.2.2.2.2.2.2.2.2.2 H locs k w 0 0 (F0 C.2.2.2.2.2.1 pc ar Zs) (st.map (enc G)) (Qn G S n Q (args.map (enc G)).toArray) (aA G))
    (kk : ∀ (r : Option V) (M' : Mem), Q r M' → RZ G S C Z k w n (pc + 3) ls (r.toList ++ st) M') :
    W C.1 C.2.1 C.2.2.1 C.2.2.2.1 C.2.2.2.2.1 C.2.2.2.2.2.1 C.2.2.2.2.2.2.1 C.2.2.2.2.2.2.2.1 C.2.2.2.2.2.2.2.2.1 C.2.2.2.2.2.2.2.2.2 H locs k w Z (F0 C.2.2.2.2.2.1 pc ar Zs) := by
  intro T hT X
  obtain ⟨v, st₀, t, T', L, h0, X', hL, e1, e2, ⟨⟨r, M', hvr, hq, hp, hm, hvv⟩, hz, hk⟩, sg⟩ := hr T hT X
  cases hvr
  rw [h0] at hz hk
  have hp' : Hp G S n M' T'.heap := by rw [e1]; exact hp
  have hS : va_S (aA G) C.2.2.2.2.1.heap T'.heap (locs ++ L) := ⟨Nat.le_trans hs.1 (by rw [e1]; exact hz), fun q h1 h2 => by rw [e1, hk q (Nat.lt_of_lt_of_le h1 hs.1) h2]; exact hs.2.1 q h1 h2, fun q hq => (List.mem_append.mp hq).elim (hs.2.2 q) (hL q)⟩
  have hvs : okVs (r.toList ++ st) := by
    cases r with
    | none => exact hv
    | some u => exact ⟨hvv.1, hv⟩
  obtain ⟨t2, a1, b1⟩ := kk r M' hq T'.heap (locs ++ L) ar hp' hS hm hl hvs ha T' rfl X'
  refine ⟨t2, sg t2 ?_, b1⟩
  have e : (r.map (enc G)).toList ++ st.map (enc G) = (r.toList ++ st).map (enc G) := by cases r <;> rfl
  show Steps _ _ _ (T'.setTop { F0 C.2.2.2.2.2.1 pc ar Zs with pc := pc + 3, stack := (r.map (enc G)).toList ++ st.map (enc G) }) t2
  rw [e]
  exact a1
theorem okVs_app : ∀ (a b : List V), okVs (a ++ b) ↔ okVs a ∧ okVs b
  | [], b => ⟨fun h => ⟨trivial, h⟩, fun h => h.2⟩
  | v :: a, b => ⟨fun h => ⟨⟨h.1, ((okVs_app a b).mp h.2).1⟩, ((okVs_app a b).mp h.2).2⟩, fun h => ⟨h.1.1, (okVs_app a b).mpr ⟨h.1.2, h.2⟩⟩⟩
theorem okVs_rev (a : List V) (h : okVs a.reverse) : okVs a := by
  induction a with
  | nil => trivial
  | cons v a ih =>
    rw [List.reverse_cons, okVs_app] at h
    exact ⟨h.2.1, ih h.1⟩
theorem Pn.pre (hC : CxOK G y C) {H : Heap} {locs : List Loc} {args : List V} {M : Mem} (hp : Hp G S n M H) (hs : va_S (aA G) C.2.2.2.2.1.heap H locs) (hm : okM S M) (hv : okVs args) : FrameBlind (Pn G S n args M) ∧ ∀ U : State, U.heap = H → C.2.2.2.2.1.WarmedH U.vm → Pn G S n args M (args.map (enc G)).toArray U := by
  refine ⟨fun a U g mk q => ⟨q.1, q.2.1, q.2.2.1.calling, q.2.2.2⟩, fun U hU hW => ⟨rfl, by rw [hU]; exact hp, hC.2.2.2.2.2.1.moved hW (by rw [hU]; exact hs.2.1), hm, hv, by rw [hU]; exact fun q hq => hC.2.2.2.2.2.2.2.2 q (Nat.le_trans hs.1 hq)⟩⟩
theorem R_callV {d na idx h ci nf : Nat} {z : Mt} {as : List V} {st0 : List V} {Q : Option V → Mem → Prop} (hC : CxOK G y C) (hd : decode y.2.1 pc = .ok (.invokevirtual idx, 3)) (hz : MO z na false) (hlk : Cond.methodLink y.1.cls idx z.1 ∈ Ts)
    (hh : h < n) (hk : S.1 h = (ci, nf)) (hci : (vwCl[ci]?).map (fun q => q.1) = some z.1.cls) (hct : Ct G S n C.2.1 d z (vR h :: as) M Q) (hst : st0 = as.reverse ++ vR h :: st) (hna : as.length = na)
    (hR : d + 1 ≤ C.2.2.2.1.frames ∧ 8 + (z.2.2.1 + 11) + (40 * d + 40) ≤ C.2.2.2.1.locals ∧ k ≤ C.2.2.2.1.cells ∧ w ≤ C.2.2.2.1.slots) (hcat : (st.map vcat).sum ≤ 8)
    (kk : ∀ (r : Option V) (M' : Mem), Q r M' → RZ G S C Z k w n (pc + 3) ls (r.toList ++ st) M') : RZ G S C Z k w n pc ls st0 M := by
  intro H locs ar hp hs hm hl hv ha
  obtain ⟨z1, z2, z3, z4⟩ := hz
  rw [if_neg (by decide)] at z4
  subst hst
  have hv2 := (okVs_app _ _).mp hv
  have hq : ∃ q, vwCl[ci]? = some q ∧ q.1 = z.1.cls := by
    cases e : vwCl[ci]? with
    | none => rw [e] at hci; cases hci
    | some q => rw [e] at hci; exact ⟨q, rfl, Option.some.inj hci⟩
  obtain ⟨q, hq1, hq2⟩ := hq
  have hrv := va_recv hC.2.2.2.2.2.1.1 hp.1 hq1 ((wsM_at hh).trans (by rw [ent_obj hk (cl_lt hq1)]))
  rw [hq2] at hrv
  have hGo : GoodIn Ts (wsV y.1.cls idx z.1.cls z.1 (wsY z)) := by
    intro u hu
    have hu2 : u ∈ Ts := by
      unfold wsV at hu
      rcases List.mem_append.mp hu with e | e
      · rcases List.mem_cons.mp e with e | e
        · rw [e]; exact hlk
        rcases List.mem_cons.mp e with e | e
        · rw [e]; exact z4.1
        rcases List.mem_cons.mp e with e | e
        · rw [e]; exact z4.2
        rcases List.mem_cons.mp e with e | e
        · rw [e]; exact z2
        · cases e
      · exact (good_wsY z1 u e).1
    exact ⟨hu2, good_of_word (List.mem_filter.mp hu2).2⟩
  have hpre := Pn.pre (args := vR h :: as) hC hp hs hm ⟨trivial, okVs_rev _ hv2.1⟩
  refine R_call (args := vR h :: as) hC hcat hs hl hv2.2.2 ha ?_ kk
  refine va_runV (As := as.map (enc G)) (b := G.1 h) (ws := wsY z) (nL := C.2.2.2.2.2.2.2.2.2.maxLocals) (cc := y.2.1) ⟨hC.1, hC.2.1, rfl, hC.2.2.2.1, hC.2.2.2.2.1⟩ hct (cwV na (hC.2.2.2.2.1) hGo rfl rfl rfl ⟨rfl, z3⟩ ⟨hR.1, hR.2.1⟩) ⟨hpre.1, hrv, hpre.2⟩ rfl (by rw [List.length_map]; exact hna) ha.1 ?_ (lv_room (by rw [enc_cats]; exact hcat)) hd ⟨hR.2.2.1, hR.2.2.2⟩
  show List.map (enc G) (as.reverse ++ vR h :: st) = _
  rw [List.map_append, List.map_reverse]
  rfl
theorem R_callS {d na idx : Nat} {z : Mt} {as : List V} {st0 : List V} {Q : Option V → Mem → Prop} (hC : CxOK G y C) (hd : decode y.2.1 pc = .ok (.invokestatic idx, 3)) (hz : MO z na true) (hlk : Cond.methodLink y.1.cls idx z.1 ∈ Ts)
    (hct : Ct G S n C.2.1 d z as M Q) (hst : st0 = as.reverse ++ st) (hna : as.length = na)
    (hR : d + 1 ≤ C.2.2.2.1.frames ∧ 8 + (z.2.2.1 + 11) + (40 * d + 40) ≤ C.2.2.2.1.locals ∧ k ≤ C.2.2.2.1.cells ∧ w ≤ C.2.2.2.1.slots) (hcat : (st.map vcat).sum ≤ 8)
    (kk : ∀ (r : Option V) (M' : Mem), Q r M' → RZ G S C Z k w n (pc + 3) ls (r.toList ++ st) M') : RZ G S C Z k w n pc ls st0 M := by
  intro H locs ar hp hs hm hl hv ha
  obtain ⟨z1, z2, z3, z4⟩ := hz
  rw [if_pos rfl] at z4
  subst hst
  have hv2 := (okVs_app _ _).mp hv
  have hGo : GoodIn Ts (va_wsS y.1.cls idx z.1 (wsY z)) := by
    intro u hu
    have hu2 : u ∈ Ts := by
      unfold va_wsS at hu
      rcases List.mem_append.mp hu with e | e
      · rcases List.mem_cons.mp e with e | e
        · rw [e]; exact hlk
        rcases List.mem_cons.mp e with e | e
        · rw [e]; exact z4
        rcases List.mem_cons.mp e with e | e
        · rw [e]; exact z2
        · cases e
      · exact (good_wsY z1 u e).1
    exact ⟨hu2, good_of_word (List.mem_filter.mp hu2).2⟩
  have hpre := Pn.pre (args := as) hC hp hs hm (okVs_rev _ hv2.1)
  refine R_call (args := as) hC hcat hs hl hv2.2 ha ?_ kk
  refine va_runS (As := as.map (enc G)) (ws := wsY z) (nL := C.2.2.2.2.2.2.2.2.2.maxLocals) (cc := y.2.1) (Ts := Ts) (own := y.1.cls) ⟨hC.1, hC.2.1, rfl, hC.2.2.2.1, hC.2.2.2.2.1⟩ hct (va_cwS na (hC.2.2.2.2.1) hGo rfl rfl rfl z3 ⟨hR.1, hR.2.1⟩) hpre rfl (by rw [List.length_map]; exact hna) ha.1 ?_ (lv_room (by rw [enc_cats]; exact hcat)) hd ⟨hR.2.2.1, hR.2.2.2⟩
  show List.map (enc G) (as.reverse ++ st) = _
  rw [List.map_append, List.map_reverse]
theorem R_callSN {d na idx : Nat} {z : Mt} {host : String} {as : List V} {st0 : List V} {Q : Option V → Mem → Prop} (hC : CxOK G y C) (hd : decode y.2.1 pc = .ok (.invokestatic idx, 3)) (hz : MO z na true) (hlk : Cond.methodLinkNest y.1.cls idx z.1 host ∈ lw_tbl)
    (hct : Ct G S n C.2.1 d z as M Q) (hst : st0 = as.reverse ++ st) (hna : as.length = na)
    (hR : d + 1 ≤ C.2.2.2.1.frames ∧ 8 + (z.2.2.1 + 11) + (40 * d + 40) ≤ C.2.2.2.1.locals ∧ k ≤ C.2.2.2.1.cells ∧ w ≤ C.2.2.2.1.slots) (hcat : (st.map vcat).sum ≤ 8)
    (kk : ∀ (r : Option V) (M' : Mem), Q r M' → RZ G S C Z k w n (pc + 3) ls (r.toList ++ st) M') : RZ G S C Z k w n pc ls st0 M := by
  intro H locs ar hp hs hm hl hv ha
  obtain ⟨z1, z2, z3, z4⟩ := hz
  rw [if_pos rfl] at z4
  subst hst
  have hv2 := (okVs_app _ _).mp hv
  have hpre := Pn.pre (args := as) hC hp hs hm (okVs_rev _ hv2.1)
  refine R_call (args := as) hC hcat hs hl hv2.2 ha ?_ kk
  refine va_runSN (As := as.map (enc G)) (ws := wsY z) (nL := C.2.2.2.2.2.2.2.2.2.maxLocals) (cc := y.2.1) (Ts := Ts) (own := y.1.cls) (host := host) ⟨hC.1, hC.2.1, rfl, hC.2.2.2.1, hC.2.2.2.2.1⟩ hct ⟨va_cnB na (hC.2.2.2.2.1) (good_wsY z1) rfl rfl rfl (hC.2.2.2.2.2.1.2.1 _ hlk rfl) (hC.2.2.2.2.1 _ z2) z3 ⟨hR.1, hR.2.1⟩, hC.2.2.2.2.1 _ z4, trivial⟩ hpre rfl (by rw [List.length_map]; exact hna) ha.1 ?_ (lv_room (by rw [enc_cats]; exact hcat)) hd ⟨hR.2.2.1, hR.2.2.2⟩
  show List.map (enc G) (as.reverse ++ st) = _
  rw [List.map_append, List.map_reverse]

def Ret (v : V) (M : Mem) : Option V → Mem → Prop := fun r M' => r = some v ∧ M' = M
def RV (P : Mem → Prop) : Option V → Mem → Prop := fun r M' => r = none ∧ P M'
def RP (P : Int → Mem → Prop) : Option V → Mem → Prop := fun r M' => ∃ v : Int, r = some (vI v) ∧ P v M'
theorem room_ok {d d' : Nat} {mL : Nat} (h : RmOK C d') (h1 : d + 1 ≤ d') (h2 : mL ≤ 21) : d + 1 ≤ C.2.2.2.1.frames ∧ 8 + (mL + 11) + (40 * d + 40) ≤ C.2.2.2.1.locals ∧ 0 ≤ C.2.2.2.1.cells ∧ 0 ≤ C.2.2.2.1.slots :=
  ⟨Nat.le_trans h1 h.1, by have := h.2; omega, Nat.zero_le _, Nat.zero_le _⟩
theorem R_callVq {d na idx h ci nf : Nat} {z : Mt} {as : List V} {st0 : List V} {v : V} (hC : CxOK G y C) (hd : decode y.2.1 pc = .ok (.invokevirtual idx, 3)) (hz : MO z na false) (hlk : Cond.methodLink y.1.cls idx z.1 ∈ Ts)
    (hh : h < n) (hk : S.1 h = (ci, nf)) (hci : (vwCl[ci]?).map (fun q => q.1) = some z.1.cls) (hct : Ct G S n C.2.1 d z (vR h :: as) M (Ret v M)) (hst : st0 = as.reverse ++ vR h :: st) (hna : as.length = na)
    {d' : Nat} (hR : RmOK C d') (hdd : d + 1 ≤ d') (hmx : z.2.2.1 ≤ 21) (hcat : (st.map vcat).sum ≤ 8)
    (kk : RZ G S C Z 0 0 n (pc + 3) ls (v :: st) M) : RZ G S C Z 0 0 n pc ls st0 M :=
  R_callV hC hd hz hlk hh hk hci hct hst hna (room_ok hR hdd hmx) hcat (fun r M' h => by obtain ⟨rfl, rfl⟩ := h; exact kk)
theorem R_callVv {d na idx h ci nf : Nat} {z : Mt} {as : List V} {st0 : List V} {P : Mem → Prop} (hC : CxOK G y C) (hd : decode y.2.1 pc = .ok (.invokevirtual idx, 3)) (hz : MO z na false) (hlk : Cond.methodLink y.1.cls idx z.1 ∈ Ts)
    (hh : h < n) (hk : S.1 h = (ci, nf)) (hci : (vwCl[ci]?).map (fun q => q.1) = some z.1.cls) (hct : Ct G S n C.2.1 d z (vR h :: as) M (RV P)) (hst : st0 = as.reverse ++ vR h :: st) (hna : as.length = na)
    {d' : Nat} (hR : RmOK C d') (hdd : d + 1 ≤ d') (hmx : z.2.2.1 ≤ 21) (hcat : (st.map vcat).sum ≤ 8)
    (kk : ∀ M' : Mem, P M' → RZ G S C Z 0 0 n (pc + 3) ls st M') : RZ G S C Z 0 0 n pc ls st0 M :=
  R_callV hC hd hz hlk hh hk hci hct hst hna (room_ok hR hdd hmx) hcat (fun r M' h => by obtain ⟨rfl, h⟩ := h; exact kk M' h)
theorem R_callVp {d na idx h ci nf : Nat} {z : Mt} {as : List V} {st0 : List V} {P : Int → Mem → Prop} (hC : CxOK G y C) (hd : decode y.2.1 pc = .ok (.invokevirtual idx, 3)) (hz : MO z na false) (hlk : Cond.methodLink y.1.cls idx z.1 ∈ Ts)
    (hh : h < n) (hk : S.1 h = (ci, nf)) (hci : (vwCl[ci]?).map (fun q => q.1) = some z.1.cls) (hct : Ct G S n C.2.1 d z (vR h :: as) M (RP P)) (hst : st0 = as.reverse ++ vR h :: st) (hna : as.length = na)
    {d' : Nat} (hR : RmOK C d') (hdd : d + 1 ≤ d') (hmx : z.2.2.1 ≤ 21) (hcat : (st.map vcat).sum ≤ 8)
    (kk : ∀ (v : Int) (M' : Mem), P v M' → RZ G S C Z 0 0 n (pc + 3) ls (vI v :: st) M') : RZ G S C Z 0 0 n pc ls st0 M :=
  R_callV hC hd hz hlk hh hk hci hct hst hna (room_ok hR hdd hmx) hcat (fun r M' h => by obtain ⟨v, rfl, h⟩ := h; exact kk v M' h)
theorem R_callSq {d na idx : Nat} {z : Mt} {as : List V} {st0 : List V} {v : V} (hC : CxOK G y C) (hd : decode y.2.1 pc = .ok (.invokestatic idx, 3)) (hz : MO z na true) (hlk : Cond.methodLink y.1.cls idx z.1 ∈ Ts)
    (hct : Ct G S n C.2.1 d z as M (Ret v M)) (hst : st0 = as.reverse ++ st) (hna : as.length = na)
    {d' : Nat} (hR : RmOK C d') (hdd : d + 1 ≤ d') (hmx : z.2.2.1 ≤ 21) (hcat : (st.map vcat).sum ≤ 8)
    (kk : RZ G S C Z 0 0 n (pc + 3) ls (v :: st) M) : RZ G S C Z 0 0 n pc ls st0 M :=
  R_callS hC hd hz hlk hct hst hna (room_ok hR hdd hmx) hcat (fun r M' h => by obtain ⟨rfl, rfl⟩ := h; exact kk)
theorem R_callSv {d na idx : Nat} {z : Mt} {as : List V} {st0 : List V} {P : Mem → Prop} (hC : CxOK G y C) (hd : decode y.2.1 pc = .ok (.invokestatic idx, 3)) (hz : MO z na true) (hlk : Cond.methodLink y.1.cls idx z.1 ∈ Ts)
    (hct : Ct G S n C.2.1 d z as M (RV P)) (hst : st0 = as.reverse ++ st) (hna : as.length = na)
    {d' : Nat} (hR : RmOK C d') (hdd : d + 1 ≤ d') (hmx : z.2.2.1 ≤ 21) (hcat : (st.map vcat).sum ≤ 8)
    (kk : ∀ M' : Mem, P M' → RZ G S C Z 0 0 n (pc + 3) ls st M') : RZ G S C Z 0 0 n pc ls st0 M :=
  R_callS hC hd hz hlk hct hst hna (room_ok hR hdd hmx) hcat (fun r M' h => by obtain ⟨rfl, h⟩ := h; exact kk M' h)
theorem R_callSp {d na idx : Nat} {z : Mt} {as : List V} {st0 : List V} {P : Int → Mem → Prop} (hC : CxOK G y C) (hd : decode y.2.1 pc = .ok (.invokestatic idx, 3)) (hz : MO z na true) (hlk : Cond.methodLink y.1.cls idx z.1 ∈ Ts)
    (hct : Ct G S n C.2.1 d z as M (RP P)) (hst : st0 = as.reverse ++ st) (hna : as.length = na)
    {d' : Nat} (hR : RmOK C d') (hdd : d + 1 ≤ d') (hmx : z.2.2.1 ≤ 21) (hcat : (st.map vcat).sum ≤ 8)
    (kk : ∀ (v : Int) (M' : Mem), P v M' → RZ G S C Z 0 0 n (pc + 3) ls (vI v :: st) M') : RZ G S C Z 0 0 n pc ls st0 M :=
  R_callS hC hd hz hlk hct hst hna (room_ok hR hdd hmx) hcat (fun r M' h => by obtain ⟨v, rfl, h⟩ := h; exact kk v M' h)
theorem R_callSNq {d na idx : Nat} {z : Mt} {host : String} {as : List V} {st0 : List V} {v : V} (hC : CxOK G y C) (hd : decode y.2.1 pc = .ok (.invokestatic idx, 3)) (hz : MO z na true) (hlk : Cond.methodLinkNest y.1.cls idx z.1 host ∈ lw_tbl)
    (hct : Ct G S n C.2.1 d z as M (Ret v M)) (hst : st0 = as.reverse ++ st) (hna : as.length = na)
    {d' : Nat} (hR : RmOK C d') (hdd : d + 1 ≤ d') (hmx : z.2.2.1 ≤ 21) (hcat : (st.map vcat).sum ≤ 8)
    (kk : RZ G S C Z 0 0 n (pc + 3) ls (v :: st) M) : RZ G S C Z 0 0 n pc ls st0 M :=
  R_callSN hC hd hz hlk hct hst hna (room_ok hR hdd hmx) hcat (fun r M' h => by obtain ⟨rfl, rfl⟩ := h; exact kk)
theorem R_callSNv {d na idx : Nat} {z : Mt} {host : String} {as : List V} {st0 : List V} {P : Mem → Prop} (hC : CxOK G y C) (hd : decode y.2.1 pc = .ok (.invokestatic idx, 3)) (hz : MO z na true) (hlk : Cond.methodLinkNest y.1.cls idx z.1 host ∈ lw_tbl)
    (hct : Ct G S n C.2.1 d z as M (RV P)) (hst : st0 = as.reverse ++ st) (hna : as.length = na)
    {d' : Nat} (hR : RmOK C d') (hdd : d + 1 ≤ d') (hmx : z.2.2.1 ≤ 21) (hcat : (st.map vcat).sum ≤ 8)
    (kk : ∀ M' : Mem, P M' → RZ G S C Z 0 0 n (pc + 3) ls st M') : RZ G S C Z 0 0 n pc ls st0 M :=
  R_callSN hC hd hz hlk hct hst hna (room_ok hR hdd hmx) hcat (fun r M' h => by obtain ⟨rfl, h⟩ := h; exact kk M' h)
theorem R_callSNp {d na idx : Nat} {z : Mt} {host : String} {as : List V} {st0 : List V} {P : Int → Mem → Prop} (hC : CxOK G y C) (hd : decode y.2.1 pc = .ok (.invokestatic idx, 3)) (hz : MO z na true) (hlk : Cond.methodLinkNest y.1.cls idx z.1 host ∈ lw_tbl)
    (hct : Ct G S n C.2.1 d z as M (RP P)) (hst : st0 = as.reverse ++ st) (hna : as.length = na)
    {d' : Nat} (hR : RmOK C d') (hdd : d + 1 ≤ d') (hmx : z.2.2.1 ≤ 21) (hcat : (st.map vcat).sum ≤ 8)
    (kk : ∀ (v : Int) (M' : Mem), P v M' → RZ G S C Z 0 0 n (pc + 3) ls (vI v :: st) M') : RZ G S C Z 0 0 n pc ls st0 M :=
  R_callSN hC hd hz hlk hct hst hna (room_ok hR hdd hmx) hcat (fun r M' h => by obtain ⟨v, rfl, h⟩ := h; exact kk v M' h)


end RULES
