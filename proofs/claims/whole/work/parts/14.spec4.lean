/-! ===== the watcher's numbers ===== -/
noncomputable def mM (N : Row) (q : Nat) : Int := rof N (q : Int) 3 (N 5).toNat
noncomputable def mJ (N : Row) (q : Nat) : Int := rof N (q : Int) 4 (N 5).toNat
def sh (x : Int) : Int := if 0 < x then x else 1
/-- shares of the rounds from f on, k of them, multiplied -/
def prS (H : Row) (f : Nat) : Nat → Int
  | 0 => 1
  | k + 1 => prS H f k * sh (H (f + k))
def prK (H J : Row) (f : Nat) : Nat → Int
  | 0 => 1
  | k + 1 => prK H J f k * (H (f + k) - J (f + k))
/-- what is left of w -/
def lfN (H J : Row) (w : Int) (f : Nat) : Nat → Int
  | 0 => w
  | k + 1 => lfN H J w f k / H (f + k) * (H (f + k) - J (f + k))
theorem sh_pos (x : Int) : 0 < sh x := by unfold sh; split <;> omega
theorem prS_pos (H : Row) (f k : Nat) : 0 < prS H f k := by
  induction k with
  | zero => exact (by decide : (0 : Int) < 1)
  | succ k ih => exact Int.mul_pos ih (sh_pos _)
theorem prS_le {H : Row} {f k : Nat} (hb : ∀ q, f ≤ q → q < f + k → H q ≤ 15) : prS H f k ≤ 15 ^ k := by
  induction k with
  | zero => exact (by decide : (1 : Int) ≤ 1)
  | succ k ih =>
    have h1 := ih (fun q a b => hb q a (by omega))
    have h2 : sh (H (f + k)) ≤ 15 := by unfold sh; have := hb (f + k) (by omega) (by omega); split <;> omega
    have h3 := sh_pos (H (f + k))
    have h4 := prS_pos H f k
    calc prS H f k * sh (H (f + k)) ≤ 15 ^ k * sh (H (f + k)) := Int.mul_le_mul_of_nonneg_right h1 (by omega)
      _ ≤ 15 ^ k * 15 := Int.mul_le_mul_of_nonneg_left h2 (by omega)
      _ = 15 ^ (k + 1) := (Int.pow_succ 15 k).symm
theorem p15_le {k : Nat} (h : k ≤ 12) : (15 : Int) ^ k ≤ 129746337890625 := by
  have : ∀ k, k < 13 → (15 : Int) ^ k ≤ 129746337890625 := by decide +kernel
  exact this k (by omega)
theorem prS_rg {H : Row} {f k : Nat} (hk : k ≤ 12) (hb : ∀ q, f ≤ q → q < f + k → H q ≤ 15) : 1 ≤ prS H f k ∧ prS H f k ≤ 129746337890625 := ⟨prS_pos H f k, Int.le_trans (prS_le hb) (p15_le hk)⟩
theorem prS_app (H : Row) (f a b : Nat) : prS H f (a + b) = prS H f a * prS H (f + a) b := by
  induction b with
  | zero => simp [prS]
  | succ b ih =>
    show prS H f (a + b) * sh (H (f + (a + b))) = prS H f a * (prS H (f + a) b * sh (H (f + a + b)))
    rw [ih, Int.mul_assoc, Nat.add_assoc]
theorem lfN_rg {H J : Row} {w : Int} {f : Nat} (hw : 0 ≤ w) : ∀ k, (∀ q, f ≤ q → q < f + k → 0 ≤ J q ∧ J q ≤ H q) → 0 ≤ lfN H J w f k ∧ lfN H J w f k ≤ w := by
  intro k
  induction k with
  | zero => intro _; exact ⟨hw, Int.le_refl _⟩
  | succ k ih =>
    intro h
    obtain ⟨i1, i2⟩ := ih (fun q a b => h q a (by omega))
    obtain ⟨j1, j2⟩ := h (f + k) (by omega) (by omega)
    show 0 ≤ lfN H J w f k / H (f + k) * (H (f + k) - J (f + k)) ∧ lfN H J w f k / H (f + k) * (H (f + k) - J (f + k)) ≤ w
    have d1 : 0 ≤ lfN H J w f k / H (f + k) := Int.ediv_nonneg i1 (by omega)
    refine ⟨Int.mul_nonneg d1 (by omega), ?_⟩
    by_cases hz : H (f + k) = 0
    · rw [hz, Int.ediv_zero, Int.zero_mul]; exact hw
    · have d2 : lfN H J w f k / H (f + k) * (H (f + k) - J (f + k)) ≤ lfN H J w f k / H (f + k) * H (f + k) := Int.mul_le_mul_of_nonneg_left (by omega) d1
      have d3 : lfN H J w f k / H (f + k) * H (f + k) ≤ lfN H J w f k := Int.ediv_mul_le _ hz
      omega
theorem lfN_z {H J : Row} {w : Int} {f k : Nat} (h : lfN H J w f k = 0) : ∀ m, lfN H J w f (k + m) = 0 := by
  intro m
  induction m with
  | zero => exact h
  | succ m ih =>
    show lfN H J w f (k + m) / H (f + (k + m)) * _ = 0
    rw [ih, Int.zero_ediv, Int.zero_mul]
/-- the chance that what went in round r is letter i, as a part of w -/
def chV (N H J : Row) (w : Int) (g r i : Int) : Int := if lf N g 0 = 9 then (if i = g then w else 0) else if lf N i 0 = 9 ∨ r < lf N i 2 then 0 else lfN H J w (lf N i 2).toNat (r - lf N i 2).toNat / H r.toNat
def seV (N H J : Row) (w : Int) (g r u : Int) : Nat → Int
  | 0 => 0
  | n + 1 => seV N H J w g r u n + (if lf N (n : Int) 0 = u then chV N H J w g r (n : Int) else 0)
theorem seV_S (N H J : Row) (w g r u i : Int) (h : 0 ≤ i) : seV N H J w g r u (i + 1).toNat = seV N H J w g r u i.toNat + (if lf N i 0 = u then chV N H J w g r i else 0) := by
  rw [show (i + 1).toNat = i.toNat + 1 by omega]
  simp only [seV]
  rw [show ((i.toNat : Nat) : Int) = i by omega]
def exV (N H J : Row) (w : Int) (u v : Int) : Nat → Int
  | 0 => 0
  | n + 1 => exV N H J w u v n + (if lf N (n : Int) 3 ≠ -4 ∧ lf N (n : Int) 1 = v then seV N H J w (n : Int) (lf N (n : Int) 3) u (N 5).toNat else 0)
theorem exV_S (N H J : Row) (w u v i : Int) (h : 0 ≤ i) : exV N H J w u v (i + 1).toNat = exV N H J w u v i.toNat + (if lf N i 3 ≠ -4 ∧ lf N i 1 = v then seV N H J w i (lf N i 3) u (N 5).toNat else 0) := by
  rw [show (i + 1).toNat = i.toNat + 1 by omega]
  simp only [exV]
  rw [show ((i.toNat : Nat) : Int) = i by omega]
def frV (a b v : Int) : Int := (if v = 0 then a else b) / (Int.gcd a b : Int)
/-- 'had' and 'lost' are filled, nothing else has changed -/
def HL (S S1 : St) : Prop := (∀ q : Nat, (q : Int) < S 22 0 6 → S1 22 1 q = mM (S 22 0) q ∧ S1 22 2 q = mJ (S 22 0) q) ∧ ∀ c j, ¬ (c = 22 ∧ (j = 1 ∨ j = 2)) → S1 c j = S c j
/-- how many it may be, and which is the likeliest, among the first n -/
def nmV (N H J : Row) (w : Int) (g r : Int) : Nat → Int
  | 0 => 0
  | n + 1 => nmV N H J w g r n + bI (0 < chV N H J w g r (n : Int))
def mxV (N H J : Row) (w : Int) (g r : Int) : Nat → Int × Int
  | 0 => (0, -1)
  | n + 1 => if (mxV N H J w g r n).2 < chV N H J w g r (n : Int) then ((n : Int), chV N H J w g r (n : Int)) else mxV N H J w g r n
theorem nmV_S (N H J : Row) (w g r i : Int) (h : 0 ≤ i) : nmV N H J w g r (i + 1).toNat = nmV N H J w g r i.toNat + bI (0 < chV N H J w g r i) := by
  rw [show (i + 1).toNat = i.toNat + 1 by omega]
  simp only [nmV]
  rw [show ((i.toNat : Nat) : Int) = i by omega]
theorem mxV_S (N H J : Row) (w g r i : Int) (h : 0 ≤ i) : mxV N H J w g r (i + 1).toNat = if (mxV N H J w g r i.toNat).2 < chV N H J w g r i then (i, chV N H J w g r i) else mxV N H J w g r i.toNat := by
  rw [show (i + 1).toNat = i.toNat + 1 by omega]
  simp only [mxV]
  rw [show ((i.toNat : Nat) : Int) = i by omega]
/-- what the watcher's loops need of a row, and of 'had' and 'lost' -/
def WR (N H J : Row) : Prop := NR N ∧ (∀ i : Int, 0 ≤ i → i < N 5 → 0 ≤ lf N i 2 ∧ lf N i 2 ≤ 12) ∧ (∀ q : Nat, (q : Int) < N 6 → 0 ≤ J q ∧ J q ≤ H q ∧ H q ≤ 15) ∧
  (∀ (i : Int) (w : Int) (k : Nat), 0 ≤ i → i < N 5 → lf N i 0 ≠ 9 → (lf N i 2).toNat + k < (N 6).toNat → 0 < lfN H J w (lf N i 2).toNat k → 0 < H ((lf N i 2).toNat + k))
theorem chV_rg {N H J : Row} (hW : WR N H J) {w g r i : Int} (hw : 0 ≤ w) (hi : 0 ≤ i ∧ i < N 5) (hr : 0 ≤ r ∧ r < N 6) : 0 ≤ chV N H J w g r i ∧ chV N H J w g r i ≤ w := by
  obtain ⟨h1, h2, h3, h4⟩ := hW
  have h12 := h1.2.2.2.2.2.2.2
  unfold chV
  split
  · split <;> omega
  · split
    · omega
    · next hn =>
      have hf := h2 i hi.1 hi.2
      obtain ⟨l1, l2⟩ := lfN_rg (H := H) (J := J) (f := (lf N i 2).toNat) hw (r - lf N i 2).toNat (fun q a b => by have := h3 q (by omega); omega)
      have hH := h3 r.toNat (by omega)
      refine ⟨Int.ediv_nonneg l1 (by omega), ?_⟩
      exact Int.le_trans (Int.ediv_le_self _ l1) l2
theorem seV_rg {N H J : Row} (hW : WR N H J) {w g r u : Int} (hw : 0 ≤ w) (hr : 0 ≤ r ∧ r < N 6) : ∀ n : Nat, (n : Int) ≤ N 5 → 0 ≤ seV N H J w g r u n ∧ seV N H J w g r u n ≤ n * w := by
  intro n
  induction n with
  | zero => intro _; simp [seV]
  | succ n ih =>
    intro hn
    have h1 := ih (by omega)
    have h2 := chV_rg hW (g := g) (i := (n : Int)) hw (by omega) hr
    simp only [seV]
    rw [show ((n + 1 : Nat) : Int) * w = n * w + w by rw [Int.natCast_add, Int.add_mul]; simp]
    split <;> omega
