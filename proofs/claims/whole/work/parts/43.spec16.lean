section XP
variable {N : Row}
theorem lout_has (hW : WF N) {r k : Int} (hr : 0 ≤ r ∧ r < N 6) (h : 0 ≤ lout N r k (N 5).toNat) : 0 ≤ k ∧ k < rof N r 1 (N 5).toNat := by
  have h5 := hW.1.2.2.2.2.2.2.1
  rcases lout_rg N r k (N 5).toNat with q | q
  · omega
  · obtain ⟨l0, l1, l2, l3, l4⟩ := hW.2.2.1 (lout N r k (N 5).toNat) q.1 (by omega)
    rw [q.2.2.1, q.2.2.2] at l3
    omega
/-- the letter that went has a chance -/
theorem wt_pos (hW : WF N) {g r : Int} (hg : 0 ≤ g ∧ g < N 5) (h3 : lf N g 3 = r) (hr : 0 ≤ r) (h9 : lf N g 0 ≠ 9) : 0 < wtV N g r := by
  obtain ⟨l0, l1, l2, l3, l4⟩ := hW.2.2.1 g hg.1 hg.2
  unfold wtV
  rw [if_neg (by omega)]
  refine Int.mul_pos (prS_pos _ _ _) ?_
  have : ∀ k : Nat, (lf N g 2).toNat + k ≤ r.toNat → 0 < prK (mM N) (mJ N) (lf N g 2).toNat k := by
    intro k
    induction k with
    | zero => intro _; exact (by decide : (0 : Int) < 1)
    | succ k ih =>
      intro hk
      refine Int.mul_pos (ih (by omega)) ?_
      have := mK_pos hW (q := (lf N g 2).toNat + k) hg.1 hg.2 h9 (by unfold wasP; omega) (by omega)
      omega
  exact this _ (by omega)
theorem nm_w (hW : WF N) {g r : Int} (hr : 0 ≤ r ∧ r < N 6) (h9 : lf N g 0 ≠ 9) (hp : 0 < mM N r.toNat) : ∀ n : Nat, (n : Int) ≤ N 5 → nmV N (mM N) (mJ N) (whV N) g r n = cP (fun i => 0 < wtV N i r) n := by
  intro n
  induction n with
  | zero => intro _; rfl
  | succ n ih =>
    intro hn
    simp only [nmV, cP]
    rw [ih (by omega), chV_w hW hr ⟨by omega, by omega⟩ h9 hp]
    congr 1
    have hQ := Qr_pos (N := N) r
    have hw := wtV_nn hW (n : Int) r
    by_cases h : 0 < wtV N (n : Int) r
    · rw [bI_pos (Int.mul_pos h hQ), ← bC1 h]
    · rw [← bC0 h, show wtV N (n : Int) r = 0 by omega, Int.zero_mul]; rfl
theorem nm_own {H J : Row} {w g r : Int} (hg : 0 ≤ g) (h9 : lf N g 0 = 9) (hw : 0 < w) : ∀ n : Nat, nmV N H J w g r n = if g < n then 1 else 0 := by
  have e : ∀ i : Int, chV N H J w g r i = if i = g then w else 0 := fun i => by unfold chV; rw [if_pos h9]
  intro n
  induction n with
  | zero => rw [if_neg (by omega)]; rfl
  | succ n ih =>
    simp only [nmV]
    rw [ih, e]
    by_cases q : (n : Int) = g
    · rw [if_pos q, if_neg (by omega), if_pos (by omega), bI_pos hw]; rfl
    · rw [if_neg q, bI_neg (by omega)]
      by_cases q2 : g < n
      · rw [if_pos q2, if_pos (by omega)]; rfl
      · rw [if_neg q2, if_neg (by omega)]; rfl
theorem mx_own {H J : Row} {w g r : Int} (hg : 0 ≤ g) (h9 : lf N g 0 = 9) (hw : 0 < w) : ∀ n : Nat, (g < n → mxV N H J w g r n = (g, w)) ∧ (¬ g < n → (mxV N H J w g r n).2 ≤ 0) := by
  have e : ∀ i : Int, chV N H J w g r i = if i = g then w else 0 := fun i => by unfold chV; rw [if_pos h9]
  intro n
  induction n with
  | zero => exact ⟨fun h => by omega, fun _ => by simp [mxV]⟩
  | succ n ih =>
    simp only [mxV]
    rw [e]
    by_cases q : (n : Int) = g
    · rw [if_pos q]
      have := ih.2 (by omega)
      refine ⟨fun _ => ?_, fun h => by omega⟩
      rw [if_pos (by omega), q]
    · rw [if_neg q]
      by_cases q2 : g < n
      · have := ih.1 q2
        refine ⟨fun _ => ?_, fun h => by omega⟩
        rw [this]
        dsimp only
        rw [if_neg (by omega)]
      · have := ih.2 q2
        refine ⟨fun h => by omega, fun _ => ?_⟩
        split
        · exact Int.le_refl _
        · exact this
theorem mx_w (hW : WF N) {g r g0 : Int} (hr : 0 ≤ r ∧ r < N 6) (h9 : lf N g 0 ≠ 9) (hp : 0 < mM N r.toNat) : ∀ n : Nat, (n : Int) ≤ N 5 → 0 ≤ (bst N g0 r n).2 ∧ (0 < (bst N g0 r n).2 → (mxV N (mM N) (mJ N) (whV N) g r n).1 = (bst N g0 r n).1 ∧ (mxV N (mM N) (mJ N) (whV N) g r n).2 = (bst N g0 r n).2 * Qr N r) ∧ ((bst N g0 r n).2 = 0 → (mxV N (mM N) (mJ N) (whV N) g r n).2 ≤ 0) ∧ ∀ i : Int, 0 ≤ i → i < n → wtV N i r ≤ (bst N g0 r n).2 := by
  have hQ := Qr_pos (N := N) r
  intro n
  induction n with
  | zero => intro _; exact ⟨by simp [bst], fun h => by simp [bst] at h, fun _ => by simp [mxV], fun i a b => by omega⟩
  | succ n ih =>
    intro hn
    obtain ⟨h0, h1, h2, h3⟩ := ih (by omega)
    have hw := wtV_nn hW (n : Int) r
    simp only [bst, mxV]
    rw [chV_w hW hr ⟨by omega, by omega⟩ h9 hp]
    by_cases q : (bst N g0 r n).2 < wtV N (n : Int) r
    · rw [if_pos q]
      have hm : (mxV N (mM N) (mJ N) (whV N) g r n).2 < wtV N (n : Int) r * Qr N r := by
        by_cases z : 0 < (bst N g0 r n).2
        · rw [(h1 z).2]; exact Int.mul_lt_mul_of_pos_right q hQ
        · have := h2 (by omega)
          have := Int.mul_pos (show 0 < wtV N (n : Int) r by omega) hQ
          omega
      rw [if_pos hm]
      refine ⟨hw, fun _ => ⟨rfl, rfl⟩, fun h => by dsimp only at h; omega, fun i a b => ?_⟩
      dsimp only
      by_cases e : i = n
      · rw [e]; exact Int.le_refl _
      · have := h3 i a (by omega); omega
    · rw [if_neg q]
      have last : ∀ i : Int, 0 ≤ i → i < (n + 1 : Nat) → wtV N i r ≤ (bst N g0 r n).2 := by
        intro i a b
        by_cases e : i = n
        · rw [e]; omega
        · exact h3 i a (by omega)
      by_cases z : 0 < (bst N g0 r n).2
      · have hm : ¬ (mxV N (mM N) (mJ N) (whV N) g r n).2 < wtV N (n : Int) r * Qr N r := by
          rw [(h1 z).2]
          have := Int.mul_le_mul_of_nonneg_right (show wtV N (n : Int) r ≤ (bst N g0 r n).2 by omega) (Int.le_of_lt hQ)
          omega
        rw [if_neg hm]
        exact ⟨h0, h1, h2, last⟩
      · have e0 : wtV N (n : Int) r = 0 := by omega
        have z0 : (bst N g0 r n).2 = 0 := by omega
        rw [e0, Int.zero_mul]
        refine ⟨h0, fun h => absurd h z, fun _ => ?_, last⟩
        split
        · exact Int.le_refl _
        · exact h2 z0
/-- the class's fraction and the reference's -/
theorem chance_own {w g i v : Int} (hw : 0 < w) : frV (if i = g then w else 0) w v = frV (if g = i then 1 else 0) 1 v := by
  have := frV_mul (a := if g = i then 1 else 0) (b := 1) (c := w) (v := v) (by split <;> omega) (by decide) hw
  rw [Int.one_mul] at this
  rw [← this]
  by_cases h : i = g
  · rw [if_pos h, if_pos h.symm, Int.one_mul]
  · rw [if_neg h, if_neg (fun q => h q.symm), Int.zero_mul]
theorem stays_eq (hW : WF N) {i v : Int} (hi : 0 ≤ i ∧ i < N 5) : frV (lfN (mM N) (mJ N) (whV N) (lf N i 2).toNat (N 6 - lf N i 2).toNat) (whV N) v = frV (prK (mM N) (mJ N) (lf N i 2).toNat (N 6 - lf N i 2).toNat) (prS (mM N) (lf N i 2).toNat (N 6 - lf N i 2).toNat) v := by
  obtain ⟨l0, l1, l2, l3, l4⟩ := hW.2.2.1 i hi.1 hi.2
  have hl := lfN_pr hW (f := (lf N i 2).toNat) (R := (N 6).toNat) (by omega) (N 6 - lf N i 2).toNat (by omega)
  have ha := prS_app (mM N) 0 (lf N i 2).toNat (N 6 - lf N i 2).toNat
  rw [show (lf N i 2).toNat + (N 6 - lf N i 2).toNat = (N 6).toNat by omega] at ha hl
  rw [Nat.zero_add] at ha
  have h1 : prS (mM N) (N 6).toNat ((N 6).toNat - (N 6).toNat) = 1 := by rw [Nat.sub_self]; rfl
  rw [h1, Int.mul_one] at hl
  unfold whV
  rw [hl, ha, Int.mul_comm (prS (mM N) 0 (lf N i 2).toNat), Int.mul_comm (prS (mM N) 0 (lf N i 2).toNat) (prS (mM N) (lf N i 2).toNat (N 6 - lf N i 2).toNat)]
  exact frV_mul (prK_nn hW _ _) (prS_pos _ _ _) (prS_pos _ _ _)
end XP
