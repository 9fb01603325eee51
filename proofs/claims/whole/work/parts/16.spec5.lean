/-! ===== rows that agree where it counts ===== -/
theorem lfN_ext {H J H' J' : Row} {w : Int} {f : Nat} : ∀ k, (∀ q, f ≤ q → q < f + k → H q = H' q ∧ J q = J' q) → lfN H J w f k = lfN H' J' w f k := by
  intro k
  induction k with
  | zero => intro _; rfl
  | succ k ih =>
    intro h
    obtain ⟨e1, e2⟩ := h (f + k) (by omega) (by omega)
    show lfN H J w f k / H (f + k) * (H (f + k) - J (f + k)) = lfN H' J' w f k / H' (f + k) * (H' (f + k) - J' (f + k))
    rw [ih (fun q a b => h q a (by omega)), e1, e2]
theorem WR.ext {N H J H' J' : Row} (hW : WR N H' J') (h : ∀ q : Nat, (q : Int) < N 6 → H q = H' q ∧ J q = J' q) : WR N H J := by
  obtain ⟨h1, h2, h3, h4⟩ := hW
  refine ⟨h1, h2, fun q hq => ?_, fun i w k a b c d e => ?_⟩
  · rw [(h q hq).1, (h q hq).2]; exact h3 q hq
  · rw [(h _ (by omega)).1]
    refine h4 i w k a b c d ?_
    rw [← lfN_ext k (fun q _ q2 => h q (by omega))]
    exact e
theorem chV_ext {N H J H' J' : Row} (h : ∀ q : Nat, (q : Int) < N 6 → H q = H' q ∧ J q = J' q) {w g r i : Int} (hr : 0 ≤ r ∧ r < N 6) (hi : 0 ≤ lf N i 2) : chV N H J w g r i = chV N H' J' w g r i := by
  unfold chV
  split
  · rfl
  · split
    · rfl
    · next hn => rw [lfN_ext _ (fun q a b => h q (by omega)), (h r.toNat (by omega)).1]
theorem seV_ext {N H J H' J' : Row} (h : ∀ q : Nat, (q : Int) < N 6 → H q = H' q ∧ J q = J' q) {w g r u : Int} (hr : 0 ≤ r ∧ r < N 6) (hf : ∀ i : Int, 0 ≤ i → i < N 5 → 0 ≤ lf N i 2) : ∀ n : Nat, (n : Int) ≤ N 5 → seV N H J w g r u n = seV N H' J' w g r u n := by
  intro n
  induction n with
  | zero => intro _; rfl
  | succ n ih =>
    intro hn
    simp only [seV]
    rw [ih (by omega), chV_ext h hr (hf n (by omega) (by omega))]
/-- what the watcher needs of a row -/
def WN (N : Row) : Prop := WR N (mM N) (mJ N) ∧ (∀ g : Int, 0 ≤ g → g < N 5 → lf N g 0 ≠ 9 → 0 ≤ lf N g 3 → 0 < mM N (lf N g 3).toNat) ∧ (∀ g : Int, 0 ≤ g → g < N 5 → lf N g 3 = -4 ∨ (0 ≤ lf N g 3 ∧ lf N g 3 < N 6))
theorem HL.eq {S S1 : St} (h : HL S S1) : ∀ q : Nat, (q : Int) < S 22 0 6 → S1 22 1 q = mM (S 22 0) q ∧ S1 22 2 q = mJ (S 22 0) q := h.1
theorem HL.e0 {S S1 : St} (h : HL S S1) : S1 22 0 = S 22 0 := h.2 22 0 (by decide)
theorem HL.WR {S S1 : St} (h : HL S S1) (hW : WN (S 22 0)) : WR (S1 22 0) (S1 22 1) (S1 22 2) := by
  rw [h.e0]
  exact hW.1.ext h.1
theorem HL.ch {S S1 : St} (h : HL S S1) (hW : WN (S 22 0)) {w g r i : Int} (hr : 0 ≤ r ∧ r < S 22 0 6) (hi : 0 ≤ i ∧ i < S 22 0 5) : chV (S1 22 0) (S1 22 1) (S1 22 2) w g r i = chV (S 22 0) (mM (S 22 0)) (mJ (S 22 0)) w g r i := by
  rw [h.e0]
  exact chV_ext h.1 hr (hW.1.2.1 i hi.1 hi.2).1
theorem HL.se {S S1 : St} (h : HL S S1) (hW : WN (S 22 0)) {w g r u : Int} (hr : 0 ≤ r ∧ r < S 22 0 6) : seV (S1 22 0) (S1 22 1) (S1 22 2) w g r u (S1 22 0 5).toNat = seV (S 22 0) (mM (S 22 0)) (mJ (S 22 0)) w g r u (S 22 0 5).toNat := by
  rw [h.e0]
  have h5 := hW.1.1.2.2.2.2.2.2.1
  exact seV_ext h.1 hr (fun i a b => (hW.1.2.1 i a b).1) _ (by omega)
theorem HL.lf {S S1 : St} (h : HL S S1) (hW : WN (S 22 0)) {w i r : Int} (hr : 0 ≤ r ∧ r ≤ S 22 0 6) (hi : 0 ≤ i ∧ i < S 22 0 5) : lfN (S1 22 1) (S1 22 2) w (lf (S1 22 0) i 2).toNat (r - lf (S1 22 0) i 2).toNat = lfN (mM (S 22 0)) (mJ (S 22 0)) w (lf (S 22 0) i 2).toNat (r - lf (S 22 0) i 2).toNat := by
  rw [h.e0]
  have hf := hW.1.2.1 i hi.1 hi.2
  exact lfN_ext _ (fun q a b => h.1 q (by omega))
noncomputable def whV (N : Row) : Int := prS (mM N) 0 (N 6).toNat
theorem whV_rg {N : Row} (hW : WN N) : 1 ≤ whV N ∧ whV N ≤ 129746337890625 := by
  have h6 := hW.1.1.2.2.2.2.2.2.2
  exact prS_rg (by omega) (fun q _ b => (hW.1.2.2.1 q (by omega)).2.2)
theorem mxV_rg {N H J : Row} (hW : WR N H J) {w g r : Int} (hw : 0 ≤ w) (hr : 0 ≤ r ∧ r < N 6) : ∀ n : Nat, (n : Int) ≤ N 5 → -1 ≤ (mxV N H J w g r n).2 ∧ (mxV N H J w g r n).2 ≤ w := by
  intro n
  induction n with
  | zero => intro _; simp [mxV]; omega
  | succ n ih =>
    intro hn
    have h1 := ih (by omega)
    have h2 := chV_rg hW (g := g) (i := (n : Int)) hw (by omega) hr
    simp only [mxV]
    split
    · exact ⟨by dsimp only; omega, by dsimp only; omega⟩
    · exact h1
theorem nmV_rg (N H J : Row) (w g r : Int) (n : Nat) : 0 ≤ nmV N H J w g r n ∧ nmV N H J w g r n ≤ n := by
  induction n with
  | zero => simp [nmV]
  | succ n ih =>
    have := bI_01 (0 < chV N H J w g r (n : Int))
    simp only [nmV]
    omega
theorem exV_rg {N : Row} (hW : WN N) {u v : Int} : ∀ n : Nat, (n : Int) ≤ N 5 → 0 ≤ exV N (mM N) (mJ N) (whV N) u v n ∧ exV N (mM N) (mJ N) (whV N) u v n ≤ n * 10249960693359375 := by
  have hw := whV_rg hW
  have h5 := hW.1.1.2.2.2.2.2.2.1
  intro n
  induction n with
  | zero => intro _; simp [exV]
  | succ n ih =>
    intro hn
    have h1 := ih (by omega)
    simp only [exV]
    split
    next hc =>
      have hg := hW.2.2 n (by omega) (by omega)
      have h2 := seV_rg hW.1 (w := whV N) (g := (n : Int)) (r := lf N (n : Int) 3) (u := u) (by omega) (by omega) (N 5).toNat (by omega)
      have h3 : (((N 5).toNat : Nat) : Int) * whV N ≤ 79 * whV N := Int.mul_le_mul_of_nonneg_right (by omega) (by omega)
      omega
    next => omega
noncomputable def outV (N : Row) (r k v : Int) : Int := if (0 ≤ r ∧ r < N 6) ∧ 0 ≤ lout N r k (N 5).toNat ∧ 0 ≤ k ∧ 0 ≤ v ∧ v ≤ 3 then (if v = 0 then lout N r k (N 5).toNat else if v = 1 then lf N (lout N r k (N 5).toNat) 1 else if v = 2 then nmV N (mM N) (mJ N) (whV N) (lout N r k (N 5).toNat) r (N 5).toNat else (mxV N (mM N) (mJ N) (whV N) (lout N r k (N 5).toNat) r (N 5).toNat).1) else -1
noncomputable def chanceV (N : Row) (r k i v : Int) : Int := if (0 ≤ r ∧ r < N 6) ∧ 0 ≤ k ∧ 0 ≤ lout N r k (N 5).toNat ∧ (0 ≤ i ∧ i < N 5) ∧ 0 ≤ v ∧ v ≤ 1 then frV (chV N (mM N) (mJ N) (whV N) (lout N r k (N 5).toNat) r i) (whV N) v else -1
noncomputable def senderV (N : Row) (r k u v : Int) : Int := if (0 ≤ r ∧ r < N 6) ∧ 0 ≤ k ∧ 0 ≤ lout N r k (N 5).toNat ∧ (0 ≤ u ∧ u ≤ 9) ∧ 0 ≤ v ∧ v ≤ 1 then frV (seV N (mM N) (mJ N) (whV N) (lout N r k (N 5).toNat) r u (N 5).toNat) (whV N) v else -1
noncomputable def staysV (N : Row) (i v : Int) : Int := if (0 ≤ i ∧ i < N 5) ∧ 0 ≤ v ∧ v ≤ 1 then (if lf N i 0 = 9 then -2 else frV (lfN (mM N) (mJ N) (whV N) (lf N i 2).toNat (N 6 - lf N i 2).toNat) (whV N) v) else -1
noncomputable def expV (N : Row) (u x v : Int) : Int := if (0 ≤ u ∧ u ≤ 9) ∧ (0 ≤ x ∧ x ≤ 7) ∧ 0 ≤ v ∧ v ≤ 1 then frV (exV N (mM N) (mJ N) (whV N) u x (N 5).toNat) (whV N) v else -1
def FrW (S S1 : St) : Prop := ∀ c j, ¬ (c = 22 ∧ (j = 1 ∨ j = 2)) → S1 c j = S c j
