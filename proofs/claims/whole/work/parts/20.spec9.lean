/-! ===== sheets ===== -/
def w32 (v : Int) : Int := (iI v).toInt
theorem w32_rg (v : Int) : -2147483648 ≤ w32 v ∧ w32 v < 2147483648 := i32_rg _
theorem w32_iI (v : Int) : vI v = vI (w32 v) := by show Value.int (iI v) = Value.int (iI (iI v).toInt); rw [iI_of]
def cutV (v l : Int) : Int := if l = 0 then w8 v else if l = 1 then w16 v else if l = 2 then w32 v else v
theorem cutV_rg {v l : Int} (h : -9223372036854775808 ≤ v ∧ v < 9223372036854775808) : -9223372036854775808 ≤ cutV v l ∧ cutV v l < 9223372036854775808 := by
  unfold cutV
  have a := w8_rg v
  have b := w16_rg v
  have c := w32_rg v
  (repeat' split) <;> omega
/-- what refuses n items of sheet s -/
def whyV (LN SZ : Row) (s l i n : Int) : Int := if LN s.toNat < 0 then -11 else if LN s.toNat ≠ l then -12 else if i < 0 ∨ SZ s.toNat - i < n then -13 else 0
def ShOk (S : St) : Prop := (∀ k : Nat, k < 4 → (-1 ≤ S 22 12 k ∧ S 22 12 k ≤ 3) ∧ (0 ≤ S 22 13 k ∧ S 22 13 k ≤ 24)) ∧ ∀ k : Nat, -9223372036854775808 ≤ S 22 14 k ∧ S 22 14 k < 9223372036854775808
noncomputable def stL (N : Row) (p i : Int) : Int × Int := cif (begP N p False (i + 1)) (i + 1 + (N 3 - shr N p (i + 1 + N 3)), shr N p (i + 1 + N 3)) (i + 1, 0)
noncomputable def stT (N : Row) (p i : Int) : Int × Int := cif (begP N p True i) (i + (N 3 - shr N p (i + N 3)), shr N p (i + N 3)) (i, 0)
/-- c letters come, one behind the other: how many are inside then, how many went -/
noncomputable def ltr (N : Row) (p : Int) : Nat → Int → Option (Int × Int)
  | 0, i => some (i, 0)
  | c + 1, i => match ltr N p c i with
    | none => none
    | some (j, g) => if 12 ≤ j then none else some ((stL N p j).1, g + (stL N p j).2)
/-- k pairs of a row -/
noncomputable def soF (N : Row) (p : Int) (IT : Row) (a : Nat) : Nat → Option Int
  | 0 => some 0
  | k + 1 => match soF N p IT a k with
    | none => none
    | some i => match ltr N p (IT (a + 2 * k)).toNat i with
      | none => none
      | some (j, g) => if g + (stT N p j).2 = IT (a + 2 * k + 1) then some (stT N p j).1 else none
theorem soF_z {N : Row} {p : Int} {IT : Row} {a k : Nat} (h : soF N p IT a k = none) : ∀ m, soF N p IT a (k + m) = none := by
  intro m
  induction m with
  | zero => exact h
  | succ m ih =>
    show (match soF N p IT a (k + m) with | none => none | some i => _) = none
    rw [ih]
theorem ltr_z {N : Row} {p i : Int} {c : Nat} (h : ltr N p c i = none) : ∀ m, ltr N p (c + m) i = none := by
  intro m
  induction m with
  | zero => exact h
  | succ m ih =>
    show (match ltr N p (c + m) i with | none => none | some (j, g) => _) = none
    rw [ih]
theorem shr_rg {N : Row} {p n : Int} (h2 : 0 ≤ N 2 ∧ N 2 ≤ 4) (hn : 0 ≤ n) (hp : (p = 1 ∨ p = 2) → N 2 ≤ n) (hp0 : 0 ≤ p ∧ p ≤ 3) : 0 ≤ shr N p n ∧ shr N p n ≤ n := by
  unfold shr
  split
  · omega
  · split <;> omega
theorem stL_rg {N : Row} {p i : Int} (h : NR N) (hp : 0 ≤ p ∧ p ≤ 3) (hi : 0 ≤ i) : (0 ≤ (stL N p i).1 ∧ (stL N p i).1 ≤ i + 4) ∧ 0 ≤ (stL N p i).2 ∧ (stL N p i).2 ≤ i + 4 := by
  obtain ⟨-, i0, i1, i2, i3, i4, i5, i6⟩ := id h
  unfold stL
  by_cases hb : begP N p False (i + 1)
  · rw [cif_pos hb]
    have := shr_rg (N := N) (p := p) (n := i + 1 + N 3) i2 (by omega) (by
      intro hq
      unfold begP at hb
      rcases hq with rfl | rfl
      · simp at hb; omega
      · simp at hb) hp
    dsimp only
    omega
  · rw [cif_neg hb]; dsimp only; omega
theorem stT_rg {N : Row} {p i : Int} (h : NR N) (hp : 0 ≤ p ∧ p ≤ 3) (hi : 0 ≤ i) : (0 ≤ (stT N p i).1 ∧ (stT N p i).1 ≤ i + 3) ∧ 0 ≤ (stT N p i).2 ∧ (stT N p i).2 ≤ i + 3 := by
  obtain ⟨-, i0, i1, i2, i3, i4, i5, i6⟩ := id h
  unfold stT
  by_cases hb : begP N p True i
  · rw [cif_pos hb]
    have := shr_rg (N := N) (p := p) (n := i + N 3) i2 (by omega) (by
      intro hq
      unfold begP at hb
      rcases hq with rfl | rfl
      · simp at hb
      · simp at hb; omega) hp
    dsimp only
    omega
  · rw [cif_neg hb]; dsimp only; omega
theorem ltr_rg {N : Row} {p i0 : Int} (h : NR N) (hp : 0 ≤ p ∧ p ≤ 3) (hi : 0 ≤ i0 ∧ i0 ≤ 100) : ∀ (c : Nat) (j g : Int), ltr N p c i0 = some (j, g) → (0 ≤ j ∧ j ≤ 100) ∧ 0 ≤ g ∧ g ≤ 20 * c := by
  intro c
  induction c with
  | zero => intro j g hg; cases hg; exact ⟨hi, by omega, by omega⟩
  | succ c ih =>
    intro j g hg
    unfold ltr at hg
    split at hg
    · cases hg
    · next j1 g1 he =>
      obtain ⟨a1, a2⟩ := ih j1 g1 he
      split at hg
      · cases hg
      · cases hg
        have := stL_rg h hp (i := j1) a1.1
        omega
theorem soF_rg {N : Row} {p : Int} {IT : Row} {a : Nat} (h : NR N) (hp : 0 ≤ p ∧ p ≤ 3) : ∀ (k : Nat) (i : Int), k ≤ 8 → soF N p IT a k = some i → 0 ≤ i ∧ i ≤ 16 + 4 * k := by
  intro k
  induction k with
  | zero => intro i _ hk; cases hk; omega
  | succ k ih =>
    intro i hk8 hk
    unfold soF at hk
    split at hk
    · cases hk
    · next i1 he =>
      have b1 := ih i1 (by omega) he
      split at hk
      · cases hk
      · next j g hl =>
        split at hk
        · cases hk
          have c1 : (0 ≤ j) ∧ (j ≤ 16 + 4 * k) := by
            have : ∀ (c : Nat) (j g : Int), ltr N p c i1 = some (j, g) → 0 ≤ j ∧ j ≤ 16 + 4 * k := by
              intro c
              induction c with
              | zero => intro j g hg; cases hg; exact b1
              | succ c ihc =>
                intro j g hg
                unfold ltr at hg
                split at hg
                · cases hg
                · next j1 g1 he1 =>
                  have := ihc j1 g1 he1
                  split at hg
                  · cases hg
                  · cases hg
                    have := stL_rg h hp (i := j1) this.1
                    omega
            exact this _ j g hl
          have := stT_rg h hp (i := j) c1.1
          omega
        · cases hk
noncomputable def setF (N : Row) (IT : Row) (a n : Nat) : Nat → Int
  | 0 => 0
  | p + 1 => if (soF N (p : Int) IT a n).isSome then orI (setF N IT a n p) ((2 ^ p : Nat) : Int) else setF N IT a n p
theorem setF_rg (N : Row) (IT : Row) (a n : Nat) : ∀ p, 0 ≤ setF N IT a n p ∧ setF N IT a n p < ((2 ^ p : Nat) : Int) := by
  intro p
  induction p with
  | zero => simp [setF]
  | succ p ih =>
    have hp : ((2 ^ (p + 1) : Nat) : Int) = 2 * ((2 ^ p : Nat) : Int) := by rw [Nat.pow_succ]; omega
    unfold setF
    split
    · unfold orI
      refine ⟨by omega, ?_⟩
      have h1 : (setF N IT a n p).toNat < 2 ^ (p + 1) := by rw [Nat.pow_succ]; omega
      have h2 : (((2 ^ p : Nat) : Int)).toNat < 2 ^ (p + 1) := by rw [Nat.pow_succ]; have := Nat.pos_of_ne_zero (show 2 ^ p ≠ 0 by simp); omega
      have := Nat.or_lt_two_pow h1 h2
      omega
    · omega
def zeroR (A : Row) (off k : Nat) : Row := fun j => if off ≤ j ∧ j < off + k then 0 else A j
theorem zeroR_S (A : Row) (off k : Nat) : up (zeroR A off k) (off + k) 0 = zeroR A off (k + 1) := by
  funext j
  unfold up zeroR
  (repeat' split) <;> first | rfl | omega
theorem zeroR_0 (A : Row) (off : Nat) : zeroR A off 0 = A := by funext j; unfold zeroR; rw [if_neg (by omega)]
theorem orI_0 {a : Int} (h : 0 ≤ a) : orI a 0 = a := by
  unfold orI
  rw [show (0 : Int).toNat = 0 from rfl, Nat.or_zero]
  omega
