/-! ===== the watcher, pure ===== -/
def sm (f : Int → Int) : Nat → Int
  | 0 => 0
  | n + 1 => sm f n + f (n : Int)
theorem sm_ext {f g : Int → Int} {n : Nat} (h : ∀ i : Int, 0 ≤ i → i < n → f i = g i) : sm f n = sm g n := by
  induction n with
  | zero => rfl
  | succ n ih => simp only [sm]; rw [ih (fun i a b => h i a (by omega)), h n (by omega) (by omega)]
theorem sm_add (f g : Int → Int) (n : Nat) : sm (fun i => f i + g i) n = sm f n + sm g n := by
  induction n with
  | zero => rfl
  | succ n ih => simp only [sm]; rw [ih]; omega
theorem sm_mul (f : Int → Int) (c : Int) (n : Nat) : sm (fun i => f i * c) n = sm f n * c := by
  induction n with
  | zero => simp [sm]
  | succ n ih => simp only [sm]; rw [ih, Int.add_mul]
theorem sm_S (f : Int → Int) {i : Int} (h : 0 ≤ i) : sm f (i + 1).toNat = sm f i.toNat + f i := by
  rw [show (i + 1).toNat = i.toNat + 1 by omega]
  simp only [sm]
  rw [show ((i.toNat : Nat) : Int) = i by omega]
theorem sm_0 {f : Int → Int} {n : Nat} (h : ∀ i : Int, 0 ≤ i → i < n → f i = 0) : sm f n = 0 := by
  induction n with
  | zero => rfl
  | succ n ih => simp only [sm]; rw [ih (fun i a b => h i a (by omega)), h n (by omega) (by omega)]; rfl
theorem sm_comm (f : Int → Int → Int) (n m : Nat) : sm (fun i => sm (fun j => f i j) m) n = sm (fun j => sm (fun i => f i j) n) m := by
  induction n with
  | zero => simp only [sm]; exact (sm_0 (fun _ _ _ => rfl)).symm
  | succ n ih => simp only [sm]; rw [ih, sm_add]
theorem sm_cP (p : Int → Prop) (c : Int) (n : Nat) : sm (fun i => cif (p i) c 0) n = cP p n * c := by
  induction n with
  | zero => simp [sm, cP]
  | succ n ih =>
    simp only [sm, cP]
    rw [ih, Int.add_mul]
    by_cases h : p (n : Int)
    · rw [cif_pos h, ← bC1 h, Int.one_mul]
    · rw [cif_neg h, ← bC0 h, Int.zero_mul]
/-- one of the sum is not 0 -/
theorem sm_one {f : Int → Int} {n : Nat} {j : Int} (h0 : 0 ≤ j) (h1 : j < n) (h : ∀ i : Int, 0 ≤ i → i < n → i ≠ j → f i = 0) : sm f n = f j := by
  induction n with
  | zero => omega
  | succ n ih =>
    simp only [sm]
    by_cases e : j = n
    · rw [sm_0 (fun i a b => h i a (by omega) (by omega)), ← e, Int.zero_add]
    · rw [ih (by omega) (fun i a b c => h i a (by omega) c), h n (by omega) (by omega) (fun q => e q.symm), Int.add_zero]
theorem rofP0 (N : Row) (r i : Int) : rofP N r 0 i ↔ wasP N r i := by unfold rofP; simp
theorem rofP1 (N : Row) (r i : Int) : rofP N r 1 i ↔ lf N i 3 = r := by unfold rofP; simp
theorem rofP3 (N : Row) (r i : Int) : rofP N r 3 i ↔ (wasP N r i ∧ lf N i 0 ≠ 9) := by unfold rofP; simp
theorem rofP4 (N : Row) (r i : Int) : rofP N r 4 i ↔ (lf N i 3 = r ∧ lf N i 0 ≠ 9) := by unfold rofP; simp
section WP
variable {N : Row}
/-- numbers of the rounds -/
theorem mJ_le (hW : WF N) {q : Nat} : 0 ≤ mJ N q ∧ mJ N q ≤ mM N q := by
  unfold mJ mM
  refine ⟨(rof_0 _ _ _ _).1, ?_⟩
  rw [rof_cP, rof_cP]
  have h5 := hW.1.2.2.2.2.2.2.1
  refine cP_le (fun i a b hp => ?_)
  obtain ⟨l0, l1, l2, l3, l4⟩ := hW.2.2.1 i a (by omega)
  rw [rofP4] at hp
  rw [rofP3]
  refine ⟨?_, hp.2⟩
  unfold wasP
  omega
theorem mM_15 (hW : WF N) {q : Nat} (hq : (q : Int) < N 6) : mM N q ≤ 15 := by
  have h0 := hW.2.2.2 q (by omega) hq
  unfold mM
  rw [rof_cP]
  have : cP (rofP N (q : Int) 3) (N 5).toNat ≤ cP (rofP N (q : Int) 0) (N 5).toNat := cP_le (fun i a b hp => by rw [rofP3] at hp; rw [rofP0]; exact hp.1)
  rw [← rof_cP N (q : Int) 0] at this
  omega
/-- one that is no own one, inside as a round comes and not out of it -/
theorem mK_pos (hW : WF N) {q : Nat} {i : Int} (hi : 0 ≤ i) (hi5 : i < N 5) (ho : lf N i 0 ≠ 9) (hw : wasP N (q : Int) i) (hg : lf N i 3 ≠ (q : Int)) : 1 ≤ mM N q - mJ N q := by
  unfold mM mJ
  rw [rof_cP, rof_cP, cP_split (rofP N (q : Int) 3) (rofP N (q : Int) 4)]
  have h5 := hW.1.2.2.2.2.2.2.1
  have e : cP (fun i => rofP N (q : Int) 3 i ∧ rofP N (q : Int) 4 i) (N 5).toNat = cP (rofP N (q : Int) 4) (N 5).toNat := cP_ext (fun j a b => by
    obtain ⟨l0, l1, l2, l3, l4⟩ := hW.2.2.1 j a (by omega)
    rw [rofP3, rofP4]
    refine ⟨fun h => h.2, fun h => ⟨⟨?_, h.2⟩, h⟩⟩
    unfold wasP
    omega)
  rw [e]
  have := cP_pos (p := fun i => rofP N (q : Int) 3 i ∧ ¬ rofP N (q : Int) 4 i) (n := (N 5).toNat) hi (by omega) ⟨(rofP3 _ _ _).mpr ⟨hw, ho⟩, fun h => hg ((rofP4 _ _ _).mp h).1⟩
  omega
theorem mM_pos (hW : WF N) {q : Nat} {i : Int} (hi : 0 ≤ i) (hi5 : i < N 5) (ho : lf N i 0 ≠ 9) (hw : wasP N (q : Int) i) : 1 ≤ mM N q := by
  unfold mM
  rw [rof_cP]
  exact cP_pos hi (by omega) ((rofP3 _ _ _).mpr ⟨hw, ho⟩)
theorem mM_flow (hW : WF N) {q : Nat} : mM N q - mJ N q ≤ mM N (q + 1) := by
  unfold mM mJ
  rw [rof_cP, rof_cP, rof_cP, cP_split (rofP N (q : Int) 3) (rofP N (q : Int) 4)]
  have h5 := hW.1.2.2.2.2.2.2.1
  have e : cP (fun i => rofP N (q : Int) 3 i ∧ rofP N (q : Int) 4 i) (N 5).toNat = cP (rofP N (q : Int) 4) (N 5).toNat := cP_ext (fun j a b => by
    obtain ⟨l0, l1, l2, l3, l4⟩ := hW.2.2.1 j a (by omega)
    rw [rofP3, rofP4]
    refine ⟨fun h => h.2, fun h => ⟨⟨?_, h.2⟩, h⟩⟩
    unfold wasP
    omega)
  rw [e]
  have : cP (fun i => rofP N (q : Int) 3 i ∧ ¬ rofP N (q : Int) 4 i) (N 5).toNat ≤ cP (rofP N ((q + 1 : Nat) : Int) 3) (N 5).toNat := cP_le (fun j a b hp => by
    rw [rofP3, rofP4] at hp
    rw [rofP3]
    refine ⟨?_, hp.1.2⟩
    have h1 := hp.1.1
    have h2 : lf N j 3 ≠ (q : Int) := fun e => hp.2 ⟨e, hp.1.2⟩
    unfold wasP at *
    omega)
  omega
theorem WN_of (hW : WF N) : WN N := by
  have h5 := hW.1.2.2.2.2.2.2.1
  have h6 := hW.1.2.2.2.2.2.2.2
  refine ⟨⟨hW.1, fun i a b => ?_, fun q hq => ⟨(mJ_le hW).1, (mJ_le hW).2, mM_15 hW hq⟩, fun i w k a b c d => ?_⟩, fun g a b c d => ?_, fun g a b => ?_⟩
  · have := (hW.2.2.1 i a b).2.2.1; omega
  · obtain ⟨l0, l1, l2, l3, l4⟩ := hW.2.2.1 i a b
    induction k with
    | zero =>
      intro _
      have := mM_pos hW (q := (lf N i 2).toNat) a b c (by unfold wasP; omega)
      rw [Nat.add_zero]
      omega
    | succ k ih =>
      intro hl
      have hj := mJ_le hW (q := (lf N i 2).toNat + k)
      have hf := mM_flow hW (q := (lf N i 2).toNat + k)
      have hl2 : 0 < lfN (mM N) (mJ N) w (lf N i 2).toNat k / mM N ((lf N i 2).toNat + k) * (mM N ((lf N i 2).toNat + k) - mJ N ((lf N i 2).toNat + k)) := hl
      rw [← Nat.add_assoc]
      by_cases hz : mM N ((lf N i 2).toNat + k) - mJ N ((lf N i 2).toNat + k) = 0
      · rw [hz, Int.mul_zero] at hl2; omega
      · omega
  · obtain ⟨l0, l1, l2, l3, l4⟩ := hW.2.2.1 g a b
    have := mM_pos hW (q := (lf N g 3).toNat) a b c (by unfold wasP; omega)
    omega
  · obtain ⟨l0, l1, l2, l3, l4⟩ := hW.2.2.1 g a b
    omega
/-- the class's number of a letter -/
noncomputable def wtV (N : Row) (i r : Int) : Int := if lf N i 0 = 9 ∨ r < lf N i 2 then 0 else prS (mM N) 0 (lf N i 2).toNat * prK (mM N) (mJ N) (lf N i 2).toNat (r - lf N i 2).toNat
theorem prK_nn (hW : WF N) (f k : Nat) : 0 ≤ prK (mM N) (mJ N) f k := by
  induction k with
  | zero => exact (by decide : (0 : Int) ≤ 1)
  | succ k ih => exact Int.mul_nonneg ih (by have := mJ_le hW (q := f + k); omega)
theorem wtV_nn (hW : WF N) (i r : Int) : 0 ≤ wtV N i r := by
  unfold wtV
  split
  · exact Int.le_refl _
  · exact Int.mul_nonneg (Int.le_of_lt (prS_pos _ _ _)) (prK_nn hW _ _)
theorem lfN_pr (hW : WF N) {f R : Nat} (hR : (R : Int) ≤ N 6) : ∀ k : Nat, f + k ≤ R → lfN (mM N) (mJ N) (prS (mM N) 0 R) f k = prS (mM N) 0 f * prK (mM N) (mJ N) f k * prS (mM N) (f + k) (R - (f + k)) := by
  intro k
  induction k with
  | zero =>
    intro hk
    show prS (mM N) 0 R = prS (mM N) 0 f * 1 * prS (mM N) f (R - f)
    rw [Int.mul_one]
    have := prS_app (mM N) 0 f (R - f)
    rw [show f + (R - f) = R by omega, Nat.zero_add] at this
    exact this
  | succ k ih =>
    intro hk
    have hi := ih (by omega)
    show lfN (mM N) (mJ N) (prS (mM N) 0 R) f k / mM N (f + k) * (mM N (f + k) - mJ N (f + k)) = prS (mM N) 0 f * (prK (mM N) (mJ N) f k * (mM N (f + k) - mJ N (f + k))) * prS (mM N) (f + (k + 1)) (R - (f + (k + 1)))
    have hj := mJ_le hW (q := f + k)
    by_cases hz : mM N (f + k) = 0
    · rw [hz, Int.ediv_zero, Int.zero_mul, show (0 : Int) - mJ N (f + k) = 0 by omega, Int.mul_zero, Int.mul_zero, Int.zero_mul]
    · have hp : 0 < mM N (f + k) := by omega
      have ha := prS_app (mM N) (f + k) 1 (R - (f + (k + 1)))
      rw [show 1 + (R - (f + (k + 1))) = R - (f + k) by omega] at ha
      have h1 : prS (mM N) (f + k) 1 = mM N (f + k) := by
        show 1 * sh (mM N (f + k + 0)) = _
        rw [Int.one_mul, Nat.add_zero]
        unfold sh
        rw [if_pos hp]
      rw [h1] at ha
      rw [hi, ha, show prS (mM N) 0 f * prK (mM N) (mJ N) f k * (mM N (f + k) * prS (mM N) (f + k + 1) (R - (f + (k + 1)))) = prS (mM N) 0 f * prK (mM N) (mJ N) f k * prS (mM N) (f + k + 1) (R - (f + (k + 1))) * mM N (f + k) by ac_rfl, Int.mul_ediv_cancel _ (by omega)]
      rw [show f + (k + 1) = f + k + 1 by omega]
      ac_rfl
/-- shares of the rounds behind r -/
noncomputable def Qr (N : Row) (r : Int) : Int := prS (mM N) (r + 1).toNat ((N 6).toNat - (r + 1).toNat)
noncomputable def Wr (N : Row) (r : Int) : Int := prS (mM N) 0 (r + 1).toNat
theorem Qr_pos (r : Int) : 0 < Qr N r := prS_pos _ _ _
theorem Wr_pos (r : Int) : 0 < Wr N r := prS_pos _ _ _
theorem whV_Q {r : Int} (hr : 0 ≤ r ∧ r < N 6) : whV N = Wr N r * Qr N r := by
  unfold whV Wr Qr
  have := prS_app (mM N) 0 (r + 1).toNat ((N 6).toNat - (r + 1).toNat)
  rw [show (r + 1).toNat + ((N 6).toNat - (r + 1).toNat) = (N 6).toNat by omega, Nat.zero_add] at this
  exact this
theorem chV_w (hW : WF N) {g r i : Int} (hr : 0 ≤ r ∧ r < N 6) (hi : 0 ≤ i ∧ i < N 5) (hg : lf N g 0 ≠ 9) (hp : 0 < mM N r.toNat) : chV N (mM N) (mJ N) (whV N) g r i = wtV N i r * Qr N r := by
  have h6 := hW.1.2.2.2.2.2.2.2
  unfold chV wtV
  rw [if_neg hg]
  split
  · rw [Int.zero_mul]
  · next hn =>
    obtain ⟨l0, l1, l2, l3, l4⟩ := hW.2.2.1 i hi.1 hi.2
    have hl := lfN_pr hW (f := (lf N i 2).toNat) (R := (N 6).toNat) (by omega) (r - lf N i 2).toNat (by omega)
    rw [show (lf N i 2).toNat + (r - lf N i 2).toNat = r.toNat by omega] at hl
    unfold whV Qr
    rw [hl]
    have ha := prS_app (mM N) r.toNat 1 ((N 6).toNat - (r + 1).toNat)
    rw [show 1 + ((N 6).toNat - (r + 1).toNat) = (N 6).toNat - r.toNat by omega] at ha
    have h1 : prS (mM N) r.toNat 1 = mM N r.toNat := by
      show 1 * sh (mM N (r.toNat + 0)) = _
      rw [Int.one_mul, Nat.add_zero]
      unfold sh
      rw [if_pos hp]
    rw [h1, show r.toNat + 1 = (r + 1).toNat by omega] at ha
    rw [ha, show prS (mM N) 0 (lf N i 2).toNat * prK (mM N) (mJ N) (lf N i 2).toNat (r - lf N i 2).toNat * (mM N r.toNat * prS (mM N) (r + 1).toNat ((N 6).toNat - (r + 1).toNat)) = prS (mM N) 0 (lf N i 2).toNat * prK (mM N) (mJ N) (lf N i 2).toNat (r - lf N i 2).toNat * prS (mM N) (r + 1).toNat ((N 6).toNat - (r + 1).toNat) * mM N r.toNat by ac_rfl, Int.mul_ediv_cancel _ (by omega)]
/-- a fraction made longer is the same -/
theorem frV_mul {a b c v : Int} (ha : 0 ≤ a) (hb : 0 < b) (hc : 0 < c) : frV (a * c) (b * c) v = frV a b v := by
  unfold frV
  have hg : (Int.gcd (a * c) (b * c) : Int) = Int.gcd a b * c := by
    rw [Int.gcd_mul_right, Int.natCast_mul]
    congr 1
    omega
  have hg0 : 0 < (Int.gcd a b : Int) := by
    have : Int.gcd a b ≠ 0 := fun h => by rw [Int.gcd_eq_zero_iff] at h; omega
    omega
  rw [hg]
  split
  · exact Int.mul_ediv_mul_of_pos_left _ _ hc
  · exact Int.mul_ediv_mul_of_pos_left _ _ hc
end WP
