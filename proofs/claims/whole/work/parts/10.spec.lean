/-! ===== the reference's row 'now', as a mathematical thing ===== -/
abbrev Row : Type := Nat → Int
def lf (N : Row) (i w : Int) : Int := N (7 + 5 * i + w).toNat
def up (N : Row) (k : Nat) (x : Int) : Row := fun j => if j = k then x else N j
theorem up_s (N : Row) (k : Nat) (x : Int) : up N k x k = x := if_pos rfl
theorem up_n {N : Row} {k j : Nat} {x : Int} (h : j ≠ k) : up N k x j = N j := if_neg h
/-- cluster c's field j is the row N -/
def sR (S : St) (c j : Nat) (N : Row) : St := fun c1 j1 i => if c1 = c ∧ j1 = j then N i else S c1 j1 i
theorem sR_s (S : St) (c j : Nat) (N : Row) : sR S c j N c j = N := by funext i; exact if_pos ⟨rfl, rfl⟩
theorem sR_si (S : St) (c j : Nat) (N : Row) (i : Nat) : sR S c j N c j i = N i := if_pos ⟨rfl, rfl⟩
theorem sR_c {S : St} {c j c1 j1 : Nat} {N : Row} (h : c1 ≠ c) : sR S c j N c1 j1 = S c1 j1 := by funext i; exact if_neg (fun q => h q.1)
theorem sR_j {S : St} {c j c1 j1 : Nat} {N : Row} (h : j1 ≠ j) : sR S c j N c1 j1 = S c1 j1 := by funext i; exact if_neg (fun q => h q.2)
theorem sR_ci {S : St} {c j c1 j1 i : Nat} {N : Row} (h : c1 ≠ c) : sR S c j N c1 j1 i = S c1 j1 i := if_neg (fun q => h q.1)
theorem sR_ji {S : St} {c j c1 j1 i : Nat} {N : Row} (h : j1 ≠ j) : sR S c j N c1 j1 i = S c1 j1 i := if_neg (fun q => h q.2)
theorem sR_id (S : St) (c j : Nat) : sR S c j (S c j) = S := by
  funext c1 j1 i
  unfold sR
  split
  next h => rw [h.1, h.2]
  next => rfl
theorem sR_sR (S : St) (c j : Nat) (N N' : Row) : sR (sR S c j N) c j N' = sR S c j N' := by
  funext c1 j1 i
  unfold sR
  split <;> rfl
theorem st3_sR (S : St) (c j i : Nat) (x : Int) : st3 S c j i x = sR S c j (up (S c j) i x) := by
  funext c1 j1 i1
  unfold st3 sR up
  by_cases h : c1 = c ∧ j1 = j
  · obtain ⟨rfl, rfl⟩ := h
    simp
  · rw [if_neg (fun q => h ⟨q.1, q.2.1⟩), if_neg h]
theorem st3_sR2 (S : St) (c j i : Nat) (N : Row) (x : Int) : st3 (sR S c j N) c j i x = sR S c j (up N i x) := by rw [st3_sR, sR_sR, sR_s]
/-! letters that stand -/
def cnt (N : Row) : Nat → Int
  | 0 => 0
  | n + 1 => cnt N n + bI (lf N (n : Int) 3 = -4)
theorem cnt_0 (N : Row) (n : Nat) : 0 ≤ cnt N n ∧ cnt N n ≤ n := by
  induction n with
  | zero => simp [cnt]
  | succ n ih =>
    have := bI_01 (lf N (n : Int) 3 = -4)
    simp only [cnt]
    omega
theorem cnt_mono (N : Row) {m n : Nat} (h : m ≤ n) : cnt N m ≤ cnt N n := by
  induction n with
  | zero => rw [show m = 0 by omega]; exact Int.le_refl _
  | succ n ih =>
    by_cases hm : m = n + 1
    · rw [hm]; exact Int.le_refl _
    · have := ih (by omega)
      have := bI_01 (lf N (n : Int) 3 = -4)
      simp only [cnt]
      omega
theorem cnt_S (N : Row) (i : Int) (h : 0 ≤ i) : cnt N (i + 1).toNat = cnt N i.toNat + bI (lf N i 3 = -4) := by
  rw [show (i + 1).toNat = i.toNat + 1 by omega]
  simp only [cnt]
  rw [show ((i.toNat : Nat) : Int) = i by omega]
/-- the letter that stands at place k; -4: none -/
def sat (N : Row) (k : Int) : Nat → Int
  | 0 => -4
  | n + 1 => if lf N (n : Int) 3 = -4 ∧ cnt N n = k then (n : Int) else sat N k n
theorem sat_at {N : Row} {k : Int} {i n : Nat} (h : i < n) (h1 : lf N (i : Int) 3 = -4) (h2 : cnt N i = k) : sat N k n = i := by
  induction n with
  | zero => omega
  | succ n ih =>
    unfold sat
    by_cases hi : i = n
    · subst hi; rw [if_pos ⟨h1, h2⟩]
    · rw [if_neg ?_]
      · exact ih (by omega)
      · rintro ⟨h3, h4⟩
        have h5 : cnt N (i + 1) ≤ cnt N n := cnt_mono N (by omega)
        simp only [cnt, bI_pos h1] at h5
        omega
theorem sat_no {N : Row} {k : Int} {n : Nat} (h : ∀ i : Nat, i < n → ¬ (lf N (i : Int) 3 = -4 ∧ cnt N i = k)) : sat N k n = -4 := by
  induction n with
  | zero => rfl
  | succ n ih =>
    unfold sat
    rw [if_neg (h n (by omega))]
    exact ih (fun i hi => h i (by omega))
theorem sat_ex {N : Row} {k : Int} {n : Nat} (h0 : 0 ≤ k) (h : k < cnt N n) : ∃ i : Nat, i < n ∧ lf N (i : Int) 3 = -4 ∧ cnt N i = k ∧ sat N k n = i := by
  induction n with
  | zero => simp only [cnt] at h; omega
  | succ n ih =>
    by_cases hk : k < cnt N n
    · obtain ⟨i, h1, h2, h3, -⟩ := ih hk
      exact ⟨i, by omega, h2, h3, sat_at (by omega) h2 h3⟩
    · simp only [cnt] at h
      by_cases hs : lf N (n : Int) 3 = -4
      · rw [bI_pos hs] at h
        exact ⟨n, by omega, hs, by omega, sat_at (by omega) hs (by omega)⟩
      · rw [bI_neg hs] at h; omega
theorem sat_none {N : Row} {k : Int} {n : Nat} (h : k < 0 ∨ cnt N n ≤ k) : sat N k n = -4 := by
  refine sat_no (fun i hi => ?_)
  rintro ⟨h1, h2⟩
  have h3 := cnt_mono N (show i + 1 ≤ n by omega)
  simp only [cnt, bI_pos h1] at h3
  have := (cnt_0 N i).1
  omega
theorem sat_S (N : Row) (k i : Int) (h : 0 ≤ i) : sat N k (i + 1).toNat = if lf N i 3 = -4 ∧ cnt N i.toNat = k then i else sat N k i.toNat := by
  rw [show (i + 1).toNat = i.toNat + 1 by omega]
  show (if lf N ((i.toNat : Nat) : Int) 3 = -4 ∧ cnt N i.toNat = k then ((i.toNat : Nat) : Int) else sat N k i.toNat) = _
  rw [show ((i.toNat : Nat) : Int) = i by omega]
/-! the draw, letters that come, rounds -/
def dr (x : Int) : Int := (x * 1103515245 + 12345) % 2147483648
theorem dr_rg (x : Int) : 0 ≤ dr x ∧ dr x < 2147483648 := ⟨Int.emod_nonneg _ (by decide), Int.emod_lt_of_pos _ (by decide)⟩
def drN (N : Row) : Row := up N 4 (dr (N 4))
def addN (N : Row) (s r : Int) : Row := fun k => if k = 5 then N 5 + 1 else if (k : Int) = 7 + 5 * N 5 then s else if (k : Int) = 7 + 5 * N 5 + 1 then r else if (k : Int) = 7 + 5 * N 5 + 2 then N 6 else if (k : Int) = 7 + 5 * N 5 + 3 then -4 else if (k : Int) = 7 + 5 * N 5 + 4 then -4 else N k
/-- how many of n go, by policy p -/
def shr (N : Row) (p n : Int) : Int := if p = 0 then n else if p = 3 then (n + 1) / 2 else n - N 2
/-- whether n inside begin a round -/
def begP (N : Row) (p : Int) (tk : Prop) (n : Int) : Prop := if p = 0 then ¬ tk ∧ N 1 ≤ n else if p = 1 then ¬ tk ∧ N 1 + N 2 ≤ n else if p = 2 then tk ∧ N 2 < n else tk ∧ 0 < n
def dumN (N : Row) : Nat → Row
  | 0 => N
  | d + 1 => addN (drN (dumN N d)) 8 (dr (dumN N d 4) / 65536 % 8)
/-- letter i goes out as out k of the round that is -/
def goN (N : Row) (i k : Int) : Row := fun j => if (j : Int) = 7 + 5 * i + 3 then N 6 else if (j : Int) = 7 + 5 * i + 4 then k else N j
def out1 (N : Row) (k : Int) : Row := goN (drN N) (sat N (dr (N 4) / 65536 % cnt N (N 5).toNat) (N 5).toNat) k
def outsN (N : Row) : Nat → Row
  | 0 => N
  | k + 1 => out1 (outsN N k) k
def rndGo (N : Row) : Int := shr N (N 0) (cnt (dumN N (N 3).toNat) ((N 5) + (N 3)).toNat)
def rndN (N : Row) : Row := up (outsN (dumN N (N 3).toNat) (rndGo N).toNat) 6 (N 6 + 1)
