/-! ===== numbers: machine ints by whole numbers ===== -/
def iI (z : Int) : Int32 := Int32.ofInt z
def lI (z : Int) : Int64 := Int64.ofInt z
abbrev vI (z : Int) : Value := .int (iI z)
abbrev vL (z : Int) : Value := .long (lI z)
theorem iI_of (x : Int32) : iI x.toInt = x := Int32.ofInt_toInt x
theorem lI_of (x : Int64) : lI x.toInt = x := Int64.ofInt_toInt x
theorem i32_rg (x : Int32) : -2147483648 ≤ x.toInt ∧ x.toInt < 2147483648 := ⟨Int32.le_toInt x, Int32.toInt_lt x⟩
theorem i64_rg (x : Int64) : -9223372036854775808 ≤ x.toInt ∧ x.toInt < 9223372036854775808 := ⟨Int64.le_toInt x, Int64.toInt_lt x⟩
theorem iI_toInt {a : Int} (h : -2147483648 ≤ a ∧ a < 2147483648) : (iI a).toInt = a := Int32.toInt_ofInt_of_le h.1 h.2
theorem lI_toInt {a : Int} (h : -9223372036854775808 ≤ a ∧ a < 9223372036854775808) : (lI a).toInt = a := Int64.toInt_ofInt_of_le h.1 h.2
theorem iI_add (a b : Int) : iI a + iI b = iI (a + b) := (Int32.ofInt_add a b).symm
theorem iI_sub (a b : Int) : iI a - iI b = iI (a - b) := (Int32.ofInt_sub a b).symm
theorem iI_mul (a b : Int) : iI a * iI b = iI (a * b) := (Int32.ofInt_mul a b).symm
theorem lI_add (a b : Int) : lI a + lI b = lI (a + b) := (Int64.ofInt_add a b).symm
theorem lI_sub (a b : Int) : lI a - lI b = lI (a - b) := (Int64.ofInt_sub a b).symm
theorem lI_mul (a b : Int) : lI a * lI b = lI (a * b) := (Int64.ofInt_mul a b).symm
theorem iI_lt {a b : Int} (ha : -2147483648 ≤ a ∧ a < 2147483648) (hb : -2147483648 ≤ b ∧ b < 2147483648) : iI a < iI b ↔ a < b := by rw [Int32.lt_iff_toInt_lt, iI_toInt ha, iI_toInt hb]
theorem iI_le {a b : Int} (ha : -2147483648 ≤ a ∧ a < 2147483648) (hb : -2147483648 ≤ b ∧ b < 2147483648) : iI a ≤ iI b ↔ a ≤ b := by rw [Int32.le_iff_toInt_le, iI_toInt ha, iI_toInt hb]
theorem iI_eq {a b : Int} (ha : -2147483648 ≤ a ∧ a < 2147483648) (hb : -2147483648 ≤ b ∧ b < 2147483648) : iI a = iI b ↔ a = b := by rw [← Int32.toInt_inj, iI_toInt ha, iI_toInt hb]
theorem lI_lt {a b : Int} (ha : -9223372036854775808 ≤ a ∧ a < 9223372036854775808) (hb : -9223372036854775808 ≤ b ∧ b < 9223372036854775808) : lI a < lI b ↔ a < b := by rw [Int64.lt_iff_toInt_lt, lI_toInt ha, lI_toInt hb]
theorem lI_eq {a b : Int} (ha : -9223372036854775808 ≤ a ∧ a < 9223372036854775808) (hb : -9223372036854775808 ≤ b ∧ b < 9223372036854775808) : lI a = lI b ↔ a = b := by rw [← Int64.toInt_inj, lI_toInt ha, lI_toInt hb]
theorem iI_cl {a : Int} (h : -2147483648 ≤ a ∧ a < 2147483648) : (iI a).toNatClampNeg = a.toNat := Int32.toNatClampNeg_ofInt_of_le h.1 h.2
theorem iI_in {a : Int} {n : Nat} (h : 0 ≤ a ∧ a < n) (hn : n < 2147483648) : vp_in (iI a) n := vp_in_iff.mpr (by rw [iI_toInt (by omega)]; exact h)
theorem iI_0 : iI 0 = 0 := rfl
theorem lI_0 : lI 0 = 0 := rfl
theorem iI_div {a b : Int} (ha : 0 ≤ a ∧ a < 2147483648) (hb : 0 < b ∧ b < 2147483648) : iI a / iI b = iI (a / b) := by
  have h1 : Int32.minValue.toInt = -2147483648 := rfl
  have h2 : Int32.maxValue.toInt = 2147483647 := rfl
  rw [← Int.tdiv_eq_ediv_of_nonneg ha.1]
  exact (Int32.ofInt_tdiv (by omega) (by omega) (by omega) (by omega)).symm
theorem iI_rem {a b : Int} (ha : 0 ≤ a ∧ a < 2147483648) (hb : 0 < b ∧ b < 2147483648) : iI a - iI a / iI b * iI b = iI (a % b) := by
  rw [iI_div ha hb, iI_mul, iI_sub, Int.emod_def, Int.mul_comm]
theorem lI_div {a b : Int} (ha : 0 ≤ a ∧ a < 9223372036854775808) (hb : 0 < b ∧ b < 9223372036854775808) : lI a / lI b = lI (a / b) := by
  have h1 : Int64.minValue.toInt = -9223372036854775808 := rfl
  have h2 : Int64.maxValue.toInt = 9223372036854775807 := rfl
  rw [← Int.tdiv_eq_ediv_of_nonneg ha.1]
  exact (Int64.ofInt_tdiv (by omega) (by omega) (by omega) (by omega)).symm
theorem lI_rem {a b : Int} (ha : 0 ≤ a ∧ a < 9223372036854775808) (hb : 0 < b ∧ b < 9223372036854775808) : lI a - lI a / lI b * lI b = lI (a % b) := by
  rw [lI_div ha hb, lI_mul, lI_sub, Int.emod_def, Int.mul_comm]
theorem iI_l {a : Int} (h : -2147483648 ≤ a ∧ a < 2147483648) : (iI a).toInt64 = lI a := by
  have h1 : Int32.minValue.toInt = -2147483648 := rfl
  have h2 : Int32.maxValue.toInt = 2147483647 := rfl
  exact Int32.toInt64_ofInt (by omega) (by omega)
theorem lI_i (a : Int) : (lI a).toInt32 = iI a := Int64.toInt32_ofInt
theorem iI_nat (n : Nat) : nI n = iI (n : Int) := (Int32.ofInt_eq_ofNat).symm
theorem iI_bits (a : Int) : (iI a).toBitVec.toNat = (a % 4294967296).toNat := by
  show (BitVec.ofInt 32 a).toNat = _
  rw [BitVec.toNat_ofInt]
  rfl
theorem iI_and (a : Int) (k : Nat) {mk : Int} (hm : (iI mk).toBitVec.toNat = 2 ^ k - 1) (hk : k ≤ 31) : iI a &&& iI mk = iI (a % ((2 ^ k : Nat) : Int)) := by
  rw [pk_and (iI a) k hm, iI_bits, iI_nat]
  congr 1
  have h32 : (4294967296 : Nat) = 2 ^ k * 2 ^ (32 - k) := by rw [← Nat.pow_add, show k + (32 - k) = 32 by omega]
  have h1 : (0 : Int) ≤ a % 4294967296 := Int.emod_nonneg _ (by decide)
  rw [Int.natCast_emod, Int.toNat_of_nonneg h1]
  have h2 : (((2 ^ k : Nat) : Int)) ∣ (4294967296 : Int) := ⟨((2 ^ (32 - k) : Nat) : Int), by rw [← Int.natCast_mul, ← h32]; rfl⟩
  exact Int.emod_emod_of_dvd a h2
theorem iI_shr16 {a : Int} (h : 0 ≤ a ∧ a < 2147483648) : iI a >>> (iI 16 &&& 31) = iI (a / 65536) := by
  obtain ⟨n, rfl⟩ := Int.eq_ofNat_of_zero_le h.1
  rw [← iI_nat, pk_shrN (by omega) _ 16 (by decide), iI_nat]
  rfl
theorem iI_shl1 : ∀ k : Nat, k < 4 → iI 1 <<< (iI (k : Int) &&& 31) = iI ((2 ^ k : Nat) : Int) := by decide +kernel
def orI (a b : Int) : Int := ((a.toNat ||| b.toNat : Nat) : Int)
theorem iI_or {a b : Int} (ha : 0 ≤ a ∧ a < 2147483648) (hb : 0 ≤ b ∧ b < 2147483648) : iI a ||| iI b = iI (orI a b) := by
  obtain ⟨n, rfl⟩ := Int.eq_ofNat_of_zero_le ha.1
  obtain ⟨k, rfl⟩ := Int.eq_ofNat_of_zero_le hb.1
  rw [← iI_nat, ← iI_nat]
  show nI n ||| nI k = iI ((n ||| k : Nat) : Int)
  rw [← iI_nat]
  apply Int32.toBitVec.inj
  apply BitVec.eq_of_toNat_eq
  show ((nI n).toBitVec ||| (nI k).toBitVec).toNat = _
  have h1 : n ||| k < 2 ^ 31 := Nat.or_lt_two_pow (by omega) (by omega)
  rw [BitVec.toNat_or, pk_tn (by omega), pk_tn (by omega), pk_tn (by omega)]
def w8 (a : Int) : Int := (Int8.ofInt a).toInt
def w16 (a : Int) : Int := (Int16.ofInt a).toInt
theorem iI_b (a : Int) : (iI a).toInt8.toInt32 = iI (w8 a) := by
  rw [show (iI a).toInt8 = Int8.ofInt a from Int32.toInt8_ofInt]
  exact (Int32.toInt_inj.mp (by rw [iI_toInt ⟨by have := Int8.le_toInt (Int8.ofInt a); unfold w8; omega, by have := Int8.toInt_lt (Int8.ofInt a); unfold w8; omega⟩]; simp [w8])).symm
theorem iI_s (a : Int) : (iI a).toInt16.toInt32 = iI (w16 a) := by
  rw [show (iI a).toInt16 = Int16.ofInt a from Int32.toInt16_ofInt]
  exact (Int32.toInt_inj.mp (by rw [iI_toInt ⟨by have := Int16.le_toInt (Int16.ofInt a); unfold w16; omega, by have := Int16.toInt_lt (Int16.ofInt a); unfold w16; omega⟩]; simp [w16])).symm
theorem w8_rg (a : Int) : -128 ≤ w8 a ∧ w8 a < 128 := ⟨Int8.le_toInt _, Int8.toInt_lt _⟩
theorem w16_rg (a : Int) : -32768 ≤ w16 a ∧ w16 a < 32768 := ⟨Int16.le_toInt _, Int16.toInt_lt _⟩
def cmpI (a b : Int) : Int := if b < a then 1 else if a = b then 0 else -1
theorem lI_cmp {a b : Int} (ha : -9223372036854775808 ≤ a ∧ a < 9223372036854775808) (hb : -9223372036854775808 ≤ b ∧ b < 9223372036854775808) : lg_cmp (lI a) (lI b) = iI (cmpI a b) := by
  unfold lg_cmp cmpI
  simp only [GT.gt, lI_lt hb ha, lI_eq ha hb]
  split
  · rfl
  · split <;> rfl
def bI (p : Prop) [Decidable p] : Int := if p then 1 else 0
theorem bI_pos {p : Prop} [Decidable p] (h : p) : bI p = 1 := if_pos h
theorem bI_neg {p : Prop} [Decidable p] (h : ¬ p) : bI p = 0 := if_neg h
theorem bI_01 (p : Prop) [Decidable p] : bI p = 0 ∨ bI p = 1 := by unfold bI; split <;> simp

/-! ===== the state: cluster c (0 the class, 1 .. 14 its books, 15 16 its pasts, 17 its tape, 18 .. 21 its sheets, 22 the reference), field j, place i ===== -/
abbrev St : Type := Nat → Nat → Nat → Int
abbrev GT : Type := Launch × (Nat → Nat → Nat) × (Nat → Prop) × va_G × (Nat → Nat → ClassId) × (Nat → Nat) × Nat × Nat × (Nat → Int32)
abbrev MKT : Type := String × MethodName × ByteArray × Nat × Option FieldType × Nat
def oR (G : GT) (c : Nat) : Value := .ref (G.2.1 c 0)
def aR (G : GT) (c j : Nat) : Value := .ref (G.2.1 c (j + 1))
def kd (c : Nat) : Nat := if c = 0 then 4 else if c ≤ 14 then 0 else if c ≤ 16 then 1 else if c = 17 then 3 else if c ≤ 21 then 2 else 5
def fl_Book (G : GT) (S : St) (c : Nat) : List Value := [aR G c 0, vI (S c 1 0), vI (S c 2 0), aR G c 3, aR G c 4, aR G c 5, aR G c 6, aR G c 7, vI (S c 8 0), aR G c 9, vI (S c 10 0), aR G c 11, aR G c 12]
def fl_Past (G : GT) (S : St) (c : Nat) : List Value := [aR G c 0, vI (S c 1 0), vI (S c 2 0)]
def fl_Sheet (G : GT) (S : St) (c : Nat) : List Value := [vI (S c 0 0), vI (S c 1 0), aR G c 2]
def fl_Tape (G : GT) (S : St) (c : Nat) : List Value := [aR G c 0, vI (S c 1 0), aR G c 2, aR G c 3, vI (S c 4 0)]
def fl_Mix (G : GT) (S : St) (c : Nat) : List Value := [oR G 1, oR G 15, oR G 8, oR G 16, vI (S c 4 0), oR G 17, aR G c 6]
def fl_Model (G : GT) (S : St) (c : Nat) : List Value := [aR G c 0, aR G c 1, aR G c 2, aR G c 3, vI (S c 4 0), vI (S c 5 0), vI (S c 6 0), aR G c 7, vI (S c 8 0), aR G c 9, aR G c 10, vI (S c 11 0), aR G c 12, aR G c 13, aR G c 14, aR G c 15]
def fl (G : GT) (S : St) (c : Nat) : List Value := match kd c with
  | 0 => fl_Book G S c
  | 1 => fl_Past G S c
  | 2 => fl_Sheet G S c
  | 3 => fl_Tape G S c
  | 4 => fl_Mix G S c
  | _ => fl_Model G S c
def lnk (k j : Nat) : Nat := match k, j with
  | 0, 0 => 4
  | 0, 3 => 79
  | 0, 4 => 79
  | 0, 5 => 79
  | 0, 6 => 79
  | 0, 7 => 79
  | 0, 9 => 15
  | 0, 11 => 72
  | 0, 12 => 180
  | 1, 0 => 6
  | 2, 2 => 24
  | 3, 0 => 90
  | 3, 2 => 90
  | 3, 3 => 90
  | 4, 6 => 4
  | 5, 0 => 402
  | 5, 1 => 12
  | 5, 2 => 12
  | 5, 3 => 90
  | 5, 7 => 2412
  | 5, 9 => 402
  | 5, 10 => 2412
  | 5, 12 => 4
  | 5, 13 => 4
  | 5, 14 => 96
  | 5, 15 => 24
  | _, _ => 0
def akk (k j : Nat) : Nat := match k, j with
  | 0, 0 => 1
  | 0, 3 => 1
  | 0, 4 => 1
  | 0, 5 => 1
  | 0, 6 => 1
  | 0, 7 => 1
  | 0, 9 => 1
  | 0, 11 => 1
  | 0, 12 => 1
  | 1, 0 => 3
  | 2, 2 => 2
  | 3, 0 => 1
  | 3, 2 => 1
  | 3, 3 => 1
  | 4, 6 => 3
  | 5, 0 => 1
  | 5, 1 => 1
  | 5, 2 => 1
  | 5, 3 => 1
  | 5, 7 => 1
  | 5, 9 => 1
  | 5, 10 => 1
  | 5, 12 => 1
  | 5, 13 => 1
  | 5, 14 => 2
  | 5, 15 => 2
  | _, _ => 0
def ln (c j : Nat) : Nat := lnk (kd c) j
def ak (c j : Nat) : Nat := akk (kd c) j
def rf (c k : Nat) : Nat := if c = 0 then 18 + k else if c = 15 then 2 + k else 9 + k
def aty (c j : Nat) : FieldType := if ak c j = 1 then .int else if ak c j = 2 then .long else if c = 0 then .object "MixRounds$Sheet" else .object "MixRounds$Book"
def mkc (G : GT) (S : St) (c j : Nat) : (Nat → Int32) ⊕ (Nat → Int64) ⊕ (Nat → UInt32) ⊕ (Nat → UInt64) ⊕ (Nat → Option Nat) := if ak c j = 1 then .inl (fun k => iI (S c j k)) else if ak c j = 2 then .inr (.inl (fun k => lI (S c j k))) else .inr (.inr (.inr (.inr (fun k => some (G.2.1 (rf c k) 0)))))
def mk (G : GT) (S : St) (c t : Nat) : va_E := match t with
  | 0 => .inr (kd c, fl G S c)
  | j + 1 => .inl (G.2.2.2.2.1 c j, ln c j, mkc G S c j)
def vs : List (Nat × Nat) := [(0, 0), (0, 7), (1, 0), (1, 1), (1, 4), (1, 5), (1, 6), (1, 7), (1, 8), (1, 10), (1, 12), (1, 13), (2, 0), (2, 1), (2, 4), (2, 5), (2, 6), (2, 7), (2, 8), (2, 10), (2, 12), (2, 13), (3, 0), (3, 1), (3, 4), (3, 5), (3, 6), (3, 7), (3, 8), (3, 10), (3, 12), (3, 13), (4, 0), (4, 1), (4, 4), (4, 5), (4, 6), (4, 7), (4, 8), (4, 10), (4, 12), (4, 13), (5, 0), (5, 1), (5, 4), (5, 5), (5, 6), (5, 7), (5, 8), (5, 10), (5, 12), (5, 13), (6, 0), (6, 1), (6, 4), (6, 5), (6, 6), (6, 7), (6, 8), (6, 10), (6, 12), (6, 13), (7, 0), (7, 1), (7, 4), (7, 5), (7, 6), (7, 7), (7, 8), (7, 10), (7, 12), (7, 13), (8, 0), (8, 1), (8, 4), (8, 5), (8, 6), (8, 7), (8, 8), (8, 10), (8, 12), (8, 13), (9, 0), (9, 1), (9, 4), (9, 5), (9, 6), (9, 7), (9, 8), (9, 10), (9, 12), (9, 13), (10, 0), (10, 1), (10, 4), (10, 5), (10, 6), (10, 7), (10, 8), (10, 10), (10, 12), (10, 13), (11, 0), (11, 1), (11, 4), (11, 5), (11, 6), (11, 7), (11, 8), (11, 10), (11, 12), (11, 13), (12, 0), (12, 1), (12, 4), (12, 5), (12, 6), (12, 7), (12, 8), (12, 10), (12, 12), (12, 13), (13, 0), (13, 1), (13, 4), (13, 5), (13, 6), (13, 7), (13, 8), (13, 10), (13, 12), (13, 13), (14, 0), (14, 1), (14, 4), (14, 5), (14, 6), (14, 7), (14, 8), (14, 10), (14, 12), (14, 13), (15, 0), (15, 1), (16, 0), (16, 1), (17, 0), (17, 1), (17, 3), (17, 4), (18, 0), (18, 3), (19, 0), (19, 3), (20, 0), (20, 3), (21, 0), (21, 3), (22, 0), (22, 1), (22, 2), (22, 3), (22, 4), (22, 8), (22, 10), (22, 11), (22, 13), (22, 14), (22, 15), (22, 16)]
def Wd (G : GT) (S : St) : va_W := vs.map fun q => (G.2.1 q.1 q.2, mk G S q.1 q.2)
def tysG (G : GT) : List (ClassId × FieldType) := vs.filterMap fun q => if q.2 = 0 then none else some (G.2.2.2.2.1 q.1 (q.2 - 1), aty q.1 (q.2 - 1))
def st3 (S : St) (c j i : Nat) (x : Int) : St := fun c1 j1 i1 => if c1 = c ∧ j1 = j ∧ i1 = i then x else S c1 j1 i1
theorem vs_nd : vs.Nodup := by decide +kernel
theorem vs_obj : ∀ c, c < 23 → (c, 0) ∈ vs := by decide +kernel
theorem vs_arr0 : ∀ c, c < 23 → ∀ j, j < 16 → (ak c j = 0 ∨ (c, j + 1) ∈ vs) := by decide +kernel
theorem vs_arr (c : Nat) (hc : c < 23) (j : Nat) (hj : j < 16) (h : ak c j ≠ 0) : (c, j + 1) ∈ vs := (vs_arr0 c hc j hj).resolve_left h
theorem vs_ok : ∀ q ∈ vs, q.1 < 23 ∧ (q.2 = 0 ∨ (q.2 - 1 < 16 ∧ ak q.1 (q.2 - 1) ≠ 0)) := by decide +kernel
theorem ln_small : ∀ c, c < 23 → ∀ j, j < 16 → ln c j < 3000 := by decide +kernel
def RhoOk (G : GT) : Prop := (∀ p ∈ vs, ∀ q ∈ vs, G.2.1 p.1 p.2 = G.2.1 q.1 q.2 → p = q) ∧ ∀ q ∈ vs, G.2.2.1 (G.2.1 q.1 q.2)
theorem Wd_at {G : GT} {S : St} {q : Nat × Nat} (h : q ∈ vs) : ∃ k : Nat, vs[k]? = some q ∧ (Wd G S)[k]? = some (G.2.1 q.1 q.2, mk G S q.1 q.2) := by
  obtain ⟨k, hk⟩ := List.getElem?_of_mem h
  exact ⟨k, hk, by rw [Wd, List.getElem?_map, hk]; rfl⟩
theorem Wd_D {G : GT} {S : St} (h : RhoOk G) : va_D G.2.2.1 (Wd G S) := by
  refine ⟨fun i j p q hi hj e => ?_, fun k q hk => ?_⟩
  · rw [Wd, List.getElem?_map] at hi hj
    cases h1 : vs[i]? with
    | none => rw [h1] at hi; cases hi
    | some a =>
      cases h2 : vs[j]? with
      | none => rw [h2] at hj; cases hj
      | some b =>
        rw [h1] at hi; rw [h2] at hj
        cases hi; cases hj
        have e2 := h.1 a (List.mem_of_getElem? h1) b (List.mem_of_getElem? h2) e
        subst e2
        obtain ⟨li, gi⟩ := List.getElem?_eq_some_iff.mp h1
        obtain ⟨lj, gj⟩ := List.getElem?_eq_some_iff.mp h2
        exact (List.getElem?_inj li vs_nd).mp (h1.trans h2.symm)
  · rw [Wd, List.getElem?_map] at hk
    cases h1 : vs[k]? with
    | none => rw [h1] at hk; cases hk
    | some a =>
      rw [h1] at hk; cases hk
      exact h.2 a (List.mem_of_getElem? h1)
/-- one cell written -/
theorem Wd_set {G : GT} {S S' : St} {k : Nat} {q : Nat × Nat} (hk : vs[k]? = some q) (h : ∀ p ∈ vs, p ≠ q → mk G S' p.1 p.2 = mk G S p.1 p.2) : (Wd G S).set k (G.2.1 q.1 q.2, mk G S' q.1 q.2) = Wd G S' := by
  apply List.ext_getElem?
  intro i
  rw [List.getElem?_set]
  obtain ⟨lk, gk⟩ := List.getElem?_eq_some_iff.mp hk
  by_cases hi : k = i
  · subst hi
    have hl : k < (Wd G S).length := by rw [Wd, List.length_map]; exact lk
    rw [if_pos rfl, if_pos hl]
    simp only [Wd, List.getElem?_map, hk]
    rfl
  · rw [if_neg hi]
    simp only [Wd, List.getElem?_map]
    cases h1 : vs[i]? with
    | none => rfl
    | some a =>
      obtain ⟨li, gi⟩ := List.getElem?_eq_some_iff.mp h1
      have hne : a ≠ q := fun e => hi ((List.getElem?_inj lk vs_nd).mp (hk.trans ((congrArg some e.symm).trans h1.symm)))
      show some (_, mk G S a.1 a.2) = some (_, mk G S' a.1 a.2)
      rw [h a (List.mem_of_getElem? h1) hne]
theorem st3_s (S : St) (c j i : Nat) (x : Int) : st3 S c j i x c j i = x := if_pos ⟨rfl, rfl, rfl⟩
theorem st3_c {S : St} {c j i c1 j1 i1 : Nat} {x : Int} (h : c1 ≠ c) : st3 S c j i x c1 j1 i1 = S c1 j1 i1 := if_neg (fun q => h q.1)
theorem st3_j {S : St} {c j i c1 j1 i1 : Nat} {x : Int} (h : j1 ≠ j) : st3 S c j i x c1 j1 i1 = S c1 j1 i1 := if_neg (fun q => h q.2.1)
theorem st3_i {S : St} {c j i c1 j1 i1 : Nat} {x : Int} (h : i1 ≠ i) : st3 S c j i x c1 j1 i1 = S c1 j1 i1 := if_neg (fun q => h q.2.2)
theorem kd_cases (c : Nat) (h : c < 23) : kd c = 0 ∨ kd c = 1 ∨ kd c = 2 ∨ kd c = 3 ∨ kd c = 4 ∨ kd c = 5 := by
  have : ∀ c, c < 23 → kd c = 0 ∨ kd c = 1 ∨ kd c = 2 ∨ kd c = 3 ∨ kd c = 4 ∨ kd c = 5 := by decide +kernel
  exact this c h
theorem kd_book {c : Nat} (h : 1 ≤ c ∧ c ≤ 14) : kd c = 0 := by unfold kd; rw [if_neg (by omega), if_pos (by omega)]
theorem kd_past {c : Nat} (h : 15 ≤ c ∧ c ≤ 16) : kd c = 1 := by unfold kd; rw [if_neg (by omega), if_neg (by omega), if_pos (by omega)]
theorem kd_sheet {c : Nat} (h : 18 ≤ c ∧ c ≤ 21) : kd c = 2 := by unfold kd; rw [if_neg (by omega), if_neg (by omega), if_neg (by omega), if_neg (by omega), if_pos (by omega)]
/-- an element written: the other cells stay -/
theorem mk_arr {G : GT} {S : St} {c j i : Nat} {x : Int} (hc : c < 23) (ha : ak c j ≠ 0) {p : Nat × Nat} (hp : p ∈ vs) (hne : p ≠ (c, j + 1)) : mk G (st3 S c j i x) p.1 p.2 = mk G S p.1 p.2 := by
  obtain ⟨pc, pt⟩ := p
  have hok := vs_ok _ hp
  dsimp only at hok ⊢
  cases pt with
  | zero =>
    show (Sum.inr (kd pc, fl G (st3 S c j i x) pc) : va_E) = Sum.inr (kd pc, fl G S pc)
    have e : fl G (st3 S c j i x) pc = fl G S pc := by
      by_cases hcc : pc = c
      · subst hcc
        unfold ak at ha
        rcases kd_cases pc hc with h | h | h | h | h | h <;> rw [h] at ha <;> simp only [fl, h, fl_Book, fl_Past, fl_Sheet, fl_Tape, fl_Mix, fl_Model] <;>
          (congr <;> exact st3_j (fun e => ha (by rw [← e]; rfl)))
      · unfold fl
        have hz : ∀ j1 i1, st3 S c j i x pc j1 i1 = S pc j1 i1 := fun j1 i1 => st3_c hcc
        split <;> simp only [fl_Book, fl_Past, fl_Sheet, fl_Tape, fl_Mix, fl_Model, hz]
    rw [e]
  | succ t =>
    show (Sum.inl (G.2.2.2.2.1 pc t, ln pc t, mkc G (st3 S c j i x) pc t) : va_E) = Sum.inl (G.2.2.2.2.1 pc t, ln pc t, mkc G S pc t)
    have e : mkc G (st3 S c j i x) pc t = mkc G S pc t := by
      have hz : ∀ k, st3 S c j i x pc t k = S pc t k := fun k => if_neg (fun q => hne (by rw [q.1, q.2.1]))
      unfold mkc
      simp only [hz]
    rw [e]
/-- a field written: the other cells stay -/
theorem mk_fld {G : GT} {S : St} {c j : Nat} {x : Int} (ha : ak c j = 0) {p : Nat × Nat} (hp : p ∈ vs) (hne : p ≠ (c, 0)) : mk G (st3 S c j 0 x) p.1 p.2 = mk G S p.1 p.2 := by
  obtain ⟨pc, pt⟩ := p
  have hok := vs_ok _ hp
  dsimp only at hok ⊢
  cases pt with
  | zero =>
    have hcc : pc ≠ c := fun e => hne (by rw [e])
    show (Sum.inr (kd pc, fl G (st3 S c j 0 x) pc) : va_E) = Sum.inr (kd pc, fl G S pc)
    have hz : ∀ j1 i1, st3 S c j 0 x pc j1 i1 = S pc j1 i1 := fun j1 i1 => st3_c hcc
    have e : fl G (st3 S c j 0 x) pc = fl G S pc := by
      unfold fl
      split <;> simp only [fl_Book, fl_Past, fl_Sheet, fl_Tape, fl_Mix, fl_Model, hz]
    rw [e]
  | succ t =>
    have e : mkc G (st3 S c j 0 x) pc t = mkc G S pc t := by
      have hz : ∀ k, st3 S c j 0 x pc t k = S pc t k := by
        intro k
        refine if_neg (fun q => ?_)
        rcases hok.2 with h | h
        · cases h
        · apply h.2
          rw [q.1, show t + 1 - 1 = t from rfl, q.2.1]
          exact ha
      unfold mkc
      simp only [hz]
    show (Sum.inl (G.2.2.2.2.1 pc t, ln pc t, mkc G (st3 S c j 0 x) pc t) : va_E) = Sum.inl (G.2.2.2.2.1 pc t, ln pc t, mkc G S pc t)
    rw [e]
theorem tys_at {G : GT} {c j : Nat} (hc : c < 23) (hj : j < 16) (ha : ak c j ≠ 0) : ∃ k : Nat, (tysG G)[k]? = some (G.2.2.2.2.1 c j, aty c j) := by
  apply List.getElem?_of_mem
  exact List.mem_filterMap.mpr ⟨(c, j + 1), vs_arr c hc j hj ha, by simp⟩

/-! ===== the judgement ===== -/
def tb : List Cond := lw_tbl.filter goodWord
theorem tb_of {w : Cond} (h : w ∈ lw_tbl) (g : goodWord w = true) : w ∈ tb := List.mem_filter.mpr ⟨h, g⟩
theorem tb_at {w : Cond} (i : Nat) (h : lw_tbl[i]? = some w) (g : goodWord w = true) : w ∈ tb := tb_of (List.mem_of_getElem? h) g
theorem tb_good {w : Cond} (h : w ∈ tb) : goodWord w = true := (List.mem_filter.mp h).2
def NW (U : State) : Prop := ∀ x ∈ NWl, va_Nw (.methodLinkNest x.1 x.2.1 x.2.2.1 x.2.2.2) U
def leastJ (j : Nat) : Int := if j = 1 then 1 else 0
def mostJ (j : Nat) : Int := if j = 0 then 3 else if j = 1 then 8 else if j = 2 then 4 else 3
def Hd (G : GT) (S : St) (H : Heap) : Prop := va_P G.2.2.2.1 vwCl (Wd G S) H
def SZ (G : GT) (U : State) : Prop := (va_Z "MixRounds" "LEAST" "[I" (.ref (G.2.2.2.2.2.1 0)) G.2.2.1 U U.heap ∧ va_T .int (G.2.2.2.2.2.1 0) 4 (fun j => vI (leastJ j)) G.2.2.1 U U.heap) ∧ (va_Z "MixRounds" "MOST" "[I" (.ref (G.2.2.2.2.2.1 1)) G.2.2.1 U U.heap ∧ va_T .int (G.2.2.2.2.2.1 1) 4 (fun j => vI (mostJ j)) G.2.2.1 U U.heap)
def Kd (G : GT) (U : State) : Prop := va_K G.2.2.2.1 vwCl (tysG G) U ∧ RhoOk G ∧ SZ G U ∧ NW U
theorem SZ.to {G : GT} {u U : State} (h : SZ G u) (hvm : u.vm.Alike U.vm) (hS : ∀ a : Nat, a < u.heap.size → ¬ G.2.2.1 a → U.heap[a]? = u.heap[a]?) : SZ G U :=
  ⟨⟨(h.1.1.kept hS).moved hvm, (h.1.2.kept hS).moved hvm⟩, ⟨(h.2.1.kept hS).moved hvm, (h.2.2.kept hS).moved hvm⟩⟩
theorem Kd.to {G : GT} {u U : State} (h : Kd G u) (hW : u.WarmedH U.vm) (hS : ∀ a : Nat, a < u.heap.size → ¬ G.2.2.1 a → U.heap[a]? = u.heap[a]?) : Kd G U := ⟨h.1.moved hW.alike, h.2.1, h.2.2.1.to hW.alike hS, fun x hx => va_Nw.warmM hW (h.2.2.2 x hx)⟩
theorem Kd.calling {G : GT} {U : State} (h : Kd G U) (g : JFrame) (mk : MethodId) (a : Array Value) : Kd G (U.calling g mk a) := ⟨va_K.moved (u := U) (U := U.calling g mk a) (Vm.Alike.refl U.vm) h.1, h.2.1, SZ.to (u := U) (U := U.calling g mk a) h.2.2.1 (Vm.Alike.refl U.vm) (fun _ _ _ => rfl), fun x hx => va_Nw.same (u := U) (U := U.calling g mk a) rfl rfl (h.2.2.2 x hx)⟩
def OkX (G : GT) (q : MKT) (p : Program) (R : Room) (s : State) (m : MethodId) (args : Array Value) (c : Code) : Prop :=
  p.tables.exec = Jvm.exec ∧ c.code = q.2.2.1 ∧ c.maxLocals = q.2.2.2.1 ∧ s.vm.findClass q.1 = some m.cls ∧ (∀ w ∈ tb, w.before args s = true) ∧ Kd G s ∧ (q.2.2.2.2.2 ≤ R.frames ∧ 40 * q.2.2.2.2.2 ≤ R.locals) ∧
  (q.1 = "MixRoundsLaw" → va_X G.2.2.2.2.2.2.1 G.2.2.2.2.2.2.2.1 G.2.2.2.2.2.2.2.2 s s.heap ∧ G.2.2.2.2.2.2.1 < s.heap.size ∧ ¬ G.2.2.1 G.2.2.2.2.2.2.1)
def Rt (q : MKT) (pc : Nat) (r : Option Value) : Prop :=
  (∃ z, r = some (.int z) ∧ decode q.2.2.1 pc = .ok (.ireturn, 1) ∧ (q.2.2.2.2.1 = some .int ∨ (q.2.2.2.2.1 = some .boolean ∧ (z = 0 ∨ z = 1)))) ∨ (∃ z, r = some (.long z) ∧ decode q.2.2.1 pc = .ok (.lreturn, 1) ∧ q.2.2.2.2.1 = some .long) ∨ (r = none ∧ decode q.2.2.1 pc = .ok (.return_, 1) ∧ q.2.2.2.2.1 = none)
/-- the locals by their places -/
def lvL : Nat → List (Option Value) → List (Nat × Value)
  | _, [] => []
  | i, none :: r => lvL (i + 1) r
  | i, some v :: r => (i, v) :: lvL (i + 1) r
def lg : Nat → List (Option Value) → Option Value
  | _, [] => none
  | 0, a :: _ => a
  | i + 1, _ :: r => lg i r
def ls1 (v : Value) : Nat → List (Option Value) → List (Option Value)
  | _, [] => []
  | 0, _ :: r => some v :: r
  | i + 1, a :: r => a :: ls1 v i r
theorem lvL_mem : ∀ (lv : List (Option Value)) (k : Nat) (q : Nat × Value), q ∈ lvL k lv ↔ ∃ i, q.1 = k + i ∧ lg i lv = some q.2 := by
  intro lv
  induction lv with
  | nil => intro k q; simp [lvL, lg]
  | cons a r ih =>
    intro k q
    have key : (∃ i, q.1 = k + i ∧ lg i (a :: r) = some q.2) ↔ ((q.1 = k ∧ a = some q.2) ∨ ∃ i, q.1 = k + 1 + i ∧ lg i r = some q.2) := by
      constructor
      · rintro ⟨i, h1, h2⟩
        cases i with
        | zero => exact Or.inl ⟨h1, h2⟩
        | succ i => exact Or.inr ⟨i, by omega, h2⟩
      · rintro (⟨h1, h2⟩ | ⟨i, h1, h2⟩)
        · exact ⟨0, h1, h2⟩
        · exact ⟨i + 1, by omega, h2⟩
    rw [key, ← ih]
    cases a with
    | none => simp [lvL]
    | some v =>
      simp only [lvL, List.mem_cons]
      constructor
      · rintro (h | h)
        · subst h; exact Or.inl ⟨rfl, rfl⟩
        · exact Or.inr h
      · rintro (⟨h1, h2⟩ | h)
        · left
          obtain ⟨q1, q2⟩ := q
          cases h2; cases h1; rfl
        · exact Or.inr h
def lvH (ls : Array Slot) (n : Nat) (lv : List (Option Value)) : Prop := lv_has ls n (lvL 0 lv)
theorem lvH.at {ls : Array Slot} {n i : Nat} {lv : List (Option Value)} {v : Value} (h : lvH ls n lv) (hl : lg i lv = some v) : ls[i]? = some (.val v) :=
  h.2.2 (i, v) ((lvL_mem lv 0 (i, v)).mpr ⟨i, by simp, hl⟩)
/-- no second half of a long is overwritten: what stands ahead of place i is no long -/
def nl (i : Nat) (lv : List (Option Value)) : Bool := match i with
  | 0 => true
  | j + 1 => match lg j lv with
    | some v => v.category == 1
    | none => true
theorem lg_ls1 (v : Value) : ∀ (lv : List (Option Value)) (i k : Nat), lg k (ls1 v i lv) = if k = i ∧ k < lv.length then some v else lg k lv := by
  intro lv
  induction lv with
  | nil => intro i k; simp [ls1, lg]
  | cons a r ih =>
    intro i k
    cases i with
    | zero =>
      cases k with
      | zero => simp [ls1, lg]
      | succ k => simp [ls1, lg]
    | succ i =>
      cases k with
      | zero => simp [ls1, lg]
      | succ k => simp only [ls1, lg, ih, List.length_cons]; simp
theorem lvH.cut1 {ls' : Array Slot} {n i : Nat} {lv : List (Option Value)} {v : Value} (hn : nl i lv = true) (h : lv_has ls' n ((i, v) :: (lvL 0 lv).filter (fun q => !(q.1 == i) && !(q.1 + 1 == i && q.2.category == 2)))) : lvH ls' n (ls1 v i lv) := by
  refine ⟨h.1, h.2.1, fun q hq => ?_⟩
  obtain ⟨k, hk, hv⟩ := (lvL_mem _ 0 q).mp hq
  rw [Nat.zero_add] at hk
  apply h.2.2
  rw [lg_ls1] at hv
  split at hv
  next hc =>
    obtain ⟨q1, q2⟩ := q
    dsimp only at hk hv
    cases hv
    rw [hk, hc.1]
    exact List.mem_cons_self
  next hc =>
    by_cases hki : k = i
    · exfalso
      subst hki
      have : ¬ k < lv.length := fun hl => hc ⟨rfl, hl⟩
      have hz : ∀ (lv : List (Option Value)) (k : Nat), ¬ k < lv.length → lg k lv = none := by
        intro lv
        induction lv with
        | nil => intro k _; cases k <;> rfl
        | cons a r ih =>
          intro k hk
          cases k with
          | zero => simp at hk
          | succ k => exact ih k (by simpa using hk)
      rw [hz lv k this] at hv
      cases hv
    · refine List.mem_cons_of_mem _ (List.mem_filter.mpr ⟨(lvL_mem lv 0 q).mpr ⟨k, by omega, hv⟩, ?_⟩)
      simp only [Bool.and_eq_true, Bool.not_eq_true', beq_eq_false_iff_ne, Bool.and_eq_false_iff]
      refine ⟨by omega, ?_⟩
      by_cases h1 : q.1 + 1 = i
      · right
        have h2 : i = k + 1 := by omega
        rw [h2] at hn
        unfold nl at hn
        dsimp only at hn
        rw [hv] at hn
        dsimp only at hn
        have := (beq_iff_eq).mp hn
        rw [this]
        decide
      · left
        exact h1

def Go (G : GT) (q : MKT) (pc : Nat) (lv : List (Option Value)) (st : List Value) (S : St) (Post : Option Value → St → Prop) : Prop :=
  ∀ (p : Program) (e : Env) (R : Room) (s : State) (m : MethodId) (args : Array Value) (below : List Frame) (meth : Method) (c : Code) (cells slots : Nat) (Q : State → Prop) (H : Heap) (locs : List Loc) (ls : Array Slot),
    OkX G q p R s m args c → cells ≤ R.cells → slots ≤ R.slots →
    (∀ (r : Option Value) (S' : St) (H' : Heap) (locs' : List Loc) (pc' : Nat) (ls' : Array Slot), Post r S' → Rt q pc' r → Hd G S' H' → va_S G.2.2.1 s.heap H' locs' → W p G.1 e R s m args below meth c H' locs' cells slots Q (F0 m pc' ls' r.toList)) →
    lvH ls q.2.2.2.1 lv → Hd G S H → va_S G.2.2.1 s.heap H locs → W p G.1 e R s m args below meth c H locs cells slots Q (F0 m pc ls st)
def rmG (n : Nat) : Room := { frames := n, cells := 0, slots := 0, locals := 40 * n }
def wsG (q : MKT) : List Cond := .code q.2.1 q.2.2.1 q.2.2.2.1 q.2.2.2.2.1 :: tb
def QcG (G : GT) (Post : Option Value → St → Prop) : Array Value → State → Outcome → State → Prop := fun _ s oc t => (∃ (r : Option Value) (S' : St), oc = .returned r ∧ Post r S' ∧ Hd G S' t.heap) ∧ va_F G.2.2.1 s t
def PcG (G : GT) (av : List Value) (S : St) : Array Value → State → Prop := va_Pc av (fun U => Hd G S U.heap ∧ Kd G U)
/-- a method's contract: from S it returns, with Post -/
def Fn (G : GT) (q : MKT) (av : List Value) (S : St) (Post : Option Value → St → Prop) : Prop := Met G.1 q.2.1 (wsG q) (rmG q.2.2.2.2.2) (PcG G av S) (QcG G Post) 0 0 G.2.2.1
def lvE : List Value → List (Option Value)
  | [] => []
  | v :: r => if v.category = 2 then some v :: none :: lvE r else some v :: lvE r
theorem lvE_mem : ∀ (av : List Value) (k : Nat) (n : Nat) (q : Nat × Value), q ∈ lvL k (lvE av ++ List.replicate n none) → q ∈ lv_args k av := by
  intro av
  induction av with
  | nil =>
    intro k n q h
    exfalso
    have hz : ∀ (n k : Nat), lvL k (List.replicate n none) = [] := by
      intro n
      induction n with
      | zero => intro k; rfl
      | succ n ih => intro k; simp only [List.replicate_succ, lvL]; exact ih (k + 1)
    simp only [lvE, List.nil_append, hz] at h
    cases h
  | cons v r ih =>
    intro k n q h
    unfold lvE at h
    unfold lv_args
    by_cases hc : v.category = 2
    · rw [if_pos hc] at h ⊢
      simp only [List.cons_append, lvL, List.mem_cons] at h ⊢
      rcases h with h | h
      · exact Or.inl h
      · exact Or.inr (ih _ _ _ h)
    · rw [if_neg hc] at h ⊢
      simp only [List.cons_append, lvL, List.mem_cons] at h ⊢
      rcases h with h | h
      · exact Or.inl h
      · exact Or.inr (ih _ _ _ h)
set_option maxHeartbeats 4000000 in
theorem Fn.of {G : GT} {q : MKT} {av : List Value} {S : St} {Post : Option Value → St → Prop} (lv : List (Option Value)) (n : Nat) (hlv : lvE av ++ List.replicate n none = lv) (hy : plainName q.2.1.cls = true) (hown : q.1 = q.2.1.cls) (hlen : (lg_sl av).length ≤ q.2.2.2.1) (hnl : q.1 ≠ "MixRoundsLaw")
    (h : Go G q 0 lv [] S Post) : Fn G q av S Post := by
  refine Met.ofW (cc := q.2.2.1) (maxL := q.2.2.2.1) (ret := q.2.2.2.2.1) hy rfl ?_
  intro p e s m args below meth c s₁ B hml hv
  obtain ⟨rfl, hP, hK⟩ := hv
  have hts : ∀ w ∈ tb, w.before av.toArray s = true := fun w hw => atoms_spec (ws := wsG q) B.pre w (List.mem_cons_of_mem _ hw)
  have hr : meth.sig.returnType = q.2.2.2.2.1 := B.returns
  have hlocks := B.notSynchronized
  have hl := lv_entry av (n := q.2.2.2.1) hlen
  rw [lg_entry_eq]
  generalize (lg_sl av ++ List.replicate (q.2.2.2.1 - (lg_sl av).length) Slot.unset).toArray = ls at hl ⊢
  have hl2 : lvH ls q.2.2.2.1 lv := by
    refine ⟨hl.1, hl.2.1, fun z hz => ?_⟩
    rw [← hlv] at hz
    exact hl.2.2 z (lvE_mem av 0 n z hz)
  refine h p e (rmG q.2.2.2.2.2) s m av.toArray below meth c 0 0 _ s.heap [] ls ⟨B.exec, B.bytes, hml, by rw [hown]; exact findClass_of_methodNamed B.named, hts, hK, ⟨Nat.le_refl _, Nat.le_refl _⟩, fun hq => absurd hq hnl⟩ (Nat.le_refl 0) (Nat.le_refl 0) ?_ hl2 hP va_S.rf
  intro r S' H' locs' pc' ls' hpost hrt hP' hS'
  rcases hrt with ⟨z, rfl, hd, ht⟩ | ⟨z, rfl, hd, ht⟩ | ⟨rfl, hd, ht⟩
  · rcases ht with ht | ⟨ht, hz⟩
    · exact W.iret B.exec B.bytes (hr.trans ht) (fun t ht2 _ => ⟨⟨_, S', rfl, hpost, by rw [ht2]; exact hP'⟩, hS'.F ht2⟩) (fun x hx => hS'.2.2 x hx) hd
    · exact W.zret B.exec B.bytes (hr.trans ht) (by rcases hz with rfl | rfl <;> rfl) (fun t ht2 _ => ⟨⟨_, S', rfl, hpost, by rw [ht2]; exact hP'⟩, hS'.F ht2⟩) (fun x hx => hS'.2.2 x hx) hd
  · exact W.lret B.exec B.bytes (hr.trans ht) (fun t ht2 _ => ⟨⟨_, S', rfl, hpost, by rw [ht2]; exact hP'⟩, hS'.F ht2⟩) (fun x hx => hS'.2.2 x hx) hd
  · exact W.vret B.exec B.bytes (hr.trans ht) (fun t ht2 _ => ⟨⟨_, S', rfl, hpost, by rw [ht2]; exact hP'⟩, hS'.F ht2⟩) (fun x hx => hS'.2.2 x hx) hd

