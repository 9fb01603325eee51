section WQ
variable {N : Row}
/-! ===== senders ===== -/
noncomputable def frs (N : Row) (u q : Int) : Int := if u = 9 then 0 else cP (fun i => lf N i 0 = u ∧ lf N i 2 = q) (N 5).toNat
noncomputable def heldV (N : Row) (u : Int) : Nat → Int
  | 0 => frs N u 0
  | q + 1 => heldV N u q * (mM N q - mJ N q) + prS (mM N) 0 (q + 1) * frs N u ((q + 1 : Nat) : Int)
theorem held_eq (hW : WF N) (u : Int) : ∀ r : Nat, heldV N u r = sm (fun i => if lf N i 0 = u then wtV N i (r : Int) else 0) (N 5).toNat := by
  intro r
  by_cases hu : u = 9
  · subst hu
    have hz : ∀ r : Nat, heldV N 9 r = 0 := by
      intro r
      induction r with
      | zero => unfold heldV frs; rw [if_pos rfl]
      | succ r ih => unfold heldV frs; rw [ih, if_pos rfl, Int.zero_mul, Int.mul_zero]; rfl
    rw [hz r]
    refine (sm_0 (fun i a b => ?_)).symm
    split
    next h => unfold wtV; rw [if_pos (Or.inl h)]
    next => rfl
  · induction r with
    | zero =>
      show frs N u 0 = _
      unfold frs
      rw [if_neg hu]
      have := sm_cP (fun i => lf N i 0 = u ∧ lf N i 2 = 0) 1 (N 5).toNat
      rw [Int.mul_one] at this
      rw [← this]
      refine sm_ext (fun i a b => ?_)
      have l2 := (hW.2.2.1 i a (by omega)).2.2.1
      by_cases h0 : lf N i 0 = u
      · rw [if_pos h0]
        unfold wtV
        by_cases h2 : lf N i 2 = 0
        · rw [cif_pos ⟨h0, h2⟩, if_neg (by omega), h2]; rfl
        · rw [cif_neg (fun q => h2 q.2), if_pos (by omega)]
      · rw [if_neg h0, cif_neg (fun q => h0 q.1)]
    | succ r ih =>
      show heldV N u r * (mM N r - mJ N r) + prS (mM N) 0 (r + 1) * frs N u ((r + 1 : Nat) : Int) = _
      unfold frs
      rw [if_neg hu, ih, ← sm_mul, Int.mul_comm (prS (mM N) 0 (r + 1)), ← sm_cP, ← sm_add]
      refine sm_ext (fun i a b => ?_)
      have l2 := (hW.2.2.1 i a (by omega)).2.2.1
      by_cases h0 : lf N i 0 = u
      · rw [if_pos h0, if_pos h0]
        unfold wtV
        by_cases h2 : lf N i 2 = ((r + 1 : Nat) : Int)
        · rw [cif_pos ⟨h0, h2⟩, if_pos (by omega), if_neg (by omega), h2, show ((((r + 1 : Nat) : Int)) - ((r + 1 : Nat) : Int)).toNat = 0 by omega, show (((r + 1 : Nat) : Int)).toNat = r + 1 by omega, Int.zero_mul, Int.zero_add]
          show _ = _ * 1
          rw [Int.mul_one]
        · rw [cif_neg (fun q => h2 q.2), Int.add_zero]
          by_cases h3 : (r : Int) < lf N i 2
          · rw [if_pos (Or.inr h3), if_pos (Or.inr (by omega)), Int.zero_mul]
          · rw [if_neg (by omega), if_neg (by omega), show (((r + 1 : Nat) : Int) - lf N i 2).toNat = ((r : Int) - lf N i 2).toNat + 1 by omega]
            show _ = _ * (prK (mM N) (mJ N) (lf N i 2).toNat ((r : Int) - lf N i 2).toNat * (mM N ((lf N i 2).toNat + ((r : Int) - lf N i 2).toNat) - mJ N ((lf N i 2).toNat + ((r : Int) - lf N i 2).toNat)))
            rw [show (lf N i 2).toNat + ((r : Int) - lf N i 2).toNat = r by omega, Int.mul_assoc]
      · rw [if_neg h0, if_neg h0, cif_neg (fun q => h0 q.1), Int.zero_mul]; rfl
theorem held_nn (hW : WF N) (u : Int) (r : Nat) : 0 ≤ heldV N u r := by
  rw [held_eq hW]
  have : ∀ n : Nat, 0 ≤ sm (fun i => if lf N i 0 = u then wtV N i (r : Int) else 0) n := by
    intro n
    induction n with
    | zero => exact Int.le_refl _
    | succ n ih =>
      simp only [sm]
      have := wtV_nn hW (n : Int) (r : Int)
      split <;> omega
  exact this _
theorem seV_sm (N H J : Row) (w g r u : Int) (n : Nat) : seV N H J w g r u n = sm (fun i => if lf N i 0 = u then chV N H J w g r i else 0) n := by
  induction n with
  | zero => rfl
  | succ n ih => simp only [seV, sm]; rw [ih]
theorem seV_w (hW : WF N) {g r u : Int} (hr : 0 ≤ r ∧ r < N 6) (hg : lf N g 0 ≠ 9) (hp : 0 < mM N r.toNat) : seV N (mM N) (mJ N) (whV N) g r u (N 5).toNat = heldV N u r.toNat * Qr N r := by
  rw [seV_sm, held_eq hW, ← sm_mul]
  refine sm_ext (fun i a b => ?_)
  rw [show ((r.toNat : Nat) : Int) = r by omega]
  split
  · exact chV_w hW hr ⟨a, by omega⟩ hg hp
  · rw [Int.zero_mul]
theorem seV_own {H J : Row} {w g r u : Int} {n : Nat} (hg : 0 ≤ g ∧ g < n) (h9 : lf N g 0 = 9) : seV N H J w g r u n = if u = 9 then w else 0 := by
  rw [seV_sm]
  have e : ∀ i : Int, chV N H J w g r i = if i = g then w else 0 := fun i => by unfold chV; rw [if_pos h9]
  by_cases hu : u = 9
  · rw [if_pos hu, sm_one (j := g) hg.1 hg.2 (fun i a b c => by rw [e, if_neg c]; split <;> rfl)]
    rw [if_pos (h9.trans hu.symm), e, if_pos rfl]
  · rw [if_neg hu]
    refine sm_0 (fun i a b => ?_)
    split
    next h => rw [e, if_neg (fun q => hu (by rw [← h, q, h9]))]
    next => rfl
/-! ===== outs and letters ===== -/
theorem cP_two {p : Int → Prop} {n : Nat} {i j : Int} (hi : 0 ≤ i) (hin : i < n) (hj : 0 ≤ j) (hjn : j < n) (hij : i ≠ j) (pi : p i) (pj : p j) : 2 ≤ cP p n := by
  have h1 := cP_split p (fun x => x = i) n
  have h2 := cP_pos (p := fun x => p x ∧ x = i) hi hin ⟨pi, rfl⟩
  have h3 := cP_pos (p := fun x => p x ∧ ¬ x = i) hj hjn ⟨pj, fun q => hij q.symm⟩
  omega
theorem cP_part {p : Int → Prop} {f : Int → Int} {d n : Nat} (h : ∀ i : Int, 0 ≤ i → i < n → p i → 0 ≤ f i ∧ f i < d) : cP p n = sm (fun k => cP (fun i => p i ∧ f i = k) n) d := by
  induction n with
  | zero => simp only [cP]; exact (sm_0 (fun _ _ _ => rfl)).symm
  | succ n ih =>
    simp only [cP]
    rw [sm_add, ← ih (fun i a b => h i a (by omega))]
    congr 1
    by_cases hp : p (n : Int)
    · obtain ⟨z1, z2⟩ := h n (by omega) (by omega) hp
      rw [← bC1 hp, sm_one (j := f (n : Int)) z1 z2 (fun k a b c => (bC0 (fun q => c q.2.symm)).symm)]
      exact bC1 ⟨hp, rfl⟩
    · rw [← bC0 hp]
      exact (sm_0 (fun k _ _ => (bC0 (fun q => hp q.1)).symm)).symm
theorem sm_ones {f : Int → Int} : ∀ {d : Nat}, (∀ k : Int, 0 ≤ k → k < d → 1 ≤ f k) → (d : Int) ≤ sm f d := by
  intro d
  induction d with
  | zero => intro _; exact Int.le_refl _
  | succ d ih => intro h; simp only [sm]; have := ih (fun k a b => h k a (by omega)); have := h d (by omega) (by omega); omega
theorem sm_ones_eq {f : Int → Int} : ∀ {d : Nat}, (∀ k : Int, 0 ≤ k → k < d → 1 ≤ f k) → sm f d = d → ∀ k : Int, 0 ≤ k → k < d → f k = 1 := by
  intro d
  induction d with
  | zero => intro _ _ k a b; omega
  | succ d ih =>
    intro h hs k a b
    simp only [sm] at hs
    have h1 := sm_ones (f := f) (d := d) (fun k a b => h k a (by omega))
    have h2 := h d (by omega) (by omega)
    by_cases e : k = d
    · rw [e]; omega
    · exact ih (fun k a b => h k a (by omega)) (by omega) k a (by omega)
theorem outs_bij (hW : WF N) {r : Int} (hr : 0 ≤ r ∧ r < N 6) (hlo : ∀ k : Int, 0 ≤ k → k < rof N r 1 (N 5).toNat → 0 ≤ lout N r k (N 5).toNat) (p : Int → Prop) : cP (fun k => p (lout N r k (N 5).toNat)) (rof N r 1 (N 5).toNat).toNat = cP (fun i => lf N i 3 = r ∧ p i) (N 5).toNat := by
  have h5 := hW.1.2.2.2.2.2.2.1
  have hd0 := rof_0 N r 1 (N 5).toNat
  generalize hd : rof N r 1 (N 5).toNat = d at *
  have hrg : ∀ i : Int, 0 ≤ i → i < (N 5).toNat → lf N i 3 = r → 0 ≤ lf N i 4 ∧ lf N i 4 < (d.toNat : Int) := by
    intro i a b h3
    obtain ⟨l0, l1, l2, l3, l4⟩ := hW.2.2.1 i a (by omega)
    rcases l3 with l3 | l3
    · omega
    · have := l3.2.2.2
      rw [h3, hd] at this
      omega
  have s1 := cP_part (p := fun i => lf N i 3 = r) (f := fun i => lf N i 4) (d := d.toNat) (n := (N 5).toNat) hrg
  have e1 : cP (fun i => lf N i 3 = r) (N 5).toNat = d := by
    rw [← hd, rof_cP]
    exact cP_ext (fun i _ _ => (rofP1 N r i).symm)
  rw [e1] at s1
  have pos : ∀ k : Int, 0 ≤ k → k < d.toNat → 1 ≤ cP (fun i => lf N i 3 = r ∧ lf N i 4 = k) (N 5).toNat := by
    intro k a b
    have h0 := hlo k a (by omega)
    rcases lout_rg N r k (N 5).toNat with q | q
    · omega
    · exact cP_pos h0 q.2.1 ⟨q.2.2.1, q.2.2.2⟩
  have one := sm_ones_eq (f := fun k => cP (fun i => lf N i 3 = r ∧ lf N i 4 = k) (N 5).toNat) (d := d.toNat) pos (by rw [← s1]; omega)
  have s2 := cP_part (p := fun i => lf N i 3 = r ∧ p i) (f := fun i => lf N i 4) (d := d.toNat) (n := (N 5).toNat) (fun i a b h => hrg i a b h.1)
  rw [s2]
  have : ∀ m : Nat, m ≤ d.toNat → cP (fun k => p (lout N r k (N 5).toNat)) m = sm (fun k => cP (fun i => (lf N i 3 = r ∧ p i) ∧ lf N i 4 = k) (N 5).toNat) m := by
    intro m
    induction m with
    | zero => intro _; rfl
    | succ m ih =>
      intro hm
      simp only [cP, sm]
      rw [ih (by omega)]
      congr 1
      have h0 := hlo m (by omega) (by omega)
      have ho := one m (by omega) (by omega)
      rcases lout_rg N r m (N 5).toNat with q | q
      · omega
      · have uniq : ∀ i : Int, 0 ≤ i → i < (N 5).toNat → lf N i 3 = r → lf N i 4 = (m : Int) → i = lout N r (m : Int) (N 5).toNat := by
          intro i a b c1 c2
          by_cases e : i = lout N r (m : Int) (N 5).toNat
          · exact e
          · exfalso
            have := cP_two (p := fun i => lf N i 3 = r ∧ lf N i 4 = (m : Int)) a b h0 q.2.1 e ⟨c1, c2⟩ ⟨q.2.2.1, q.2.2.2⟩
            omega
        by_cases hp : p (lout N r (m : Int) (N 5).toNat)
        · rw [← bC1 hp, ← ho]
          refine cP_ext (fun i a b => ⟨fun z => ⟨⟨z.1, ?_⟩, z.2⟩, fun z => ⟨z.1.1, z.2⟩⟩)
          rw [uniq i a b z.1 z.2]; exact hp
        · rw [← bC0 hp]
          exact (cP_none (fun i a b z => hp (by rw [← uniq i a b z.1.1 z.2]; exact z.1.2))).symm
  exact this d.toNat (Nat.le_refl _)
/-! ===== expected ===== -/
noncomputable def oT (N : Row) (r x : Int) (o : Prop) : Int := cP (fun i => lf N i 3 = r ∧ lf N i 1 = x ∧ (lf N i 0 = 9 ↔ o)) (N 5).toNat
noncomputable def inR (N : Row) (u x : Int) (r : Nat) : Int := if u = 9 then prS (mM N) 0 (r + 1) * oT N (r : Int) x True else heldV N u r * oT N (r : Int) x False
noncomputable def esV (N : Row) (u x : Int) : Nat → Int
  | 0 => 0
  | r + 1 => esV N u x r * sh (mM N r) + inR N u x r
theorem esV_sm (N : Row) (u x : Int) : ∀ m : Nat, esV N u x m = sm (fun r => inR N u x r.toNat * prS (mM N) (r.toNat + 1) (m - (r.toNat + 1))) m := by
  intro m
  induction m with
  | zero => rfl
  | succ m ih =>
    simp only [esV, sm]
    rw [ih, ← sm_mul]
    rw [show (((m : Nat) : Int)).toNat = m by omega, show m + 1 - (m + 1) = 0 by omega]
    show _ = _ + inR N u x m * 1
    rw [Int.mul_one]
    congr 1
    refine sm_ext (fun r a b => ?_)
    rw [show m + 1 - (r.toNat + 1) = (m - (r.toNat + 1)) + 1 by omega]
    show _ = _ * (prS (mM N) (r.toNat + 1) (m - (r.toNat + 1)) * sh (mM N (r.toNat + 1 + (m - (r.toNat + 1)))))
    rw [show r.toNat + 1 + (m - (r.toNat + 1)) = m by omega, Int.mul_assoc]
theorem exV_sm (N H J : Row) (w u x : Int) (n : Nat) : exV N H J w u x n = sm (fun i => if lf N i 3 ≠ -4 ∧ lf N i 1 = x then seV N H J w i (lf N i 3) u (N 5).toNat else 0) n := by
  induction n with
  | zero => rfl
  | succ n ih => simp only [exV, sm]; rw [ih]
theorem exV_es (hW : WF N) (u x : Int) : exV N (mM N) (mJ N) (whV N) u x (N 5).toNat = esV N u x (N 6).toNat := by
  have h5 := hW.1.2.2.2.2.2.2.1
  have h6 := hW.1.2.2.2.2.2.2.2
  rw [exV_sm, esV_sm]
  have e : ∀ i : Int, 0 ≤ i → i < (N 5).toNat → (if lf N i 3 ≠ -4 ∧ lf N i 1 = x then seV N (mM N) (mJ N) (whV N) i (lf N i 3) u (N 5).toNat else 0) = sm (fun r => cif (lf N i 3 = r ∧ lf N i 1 = x ∧ (lf N i 0 = 9 ↔ True)) (if u = 9 then whV N else 0) 0 + cif (lf N i 3 = r ∧ lf N i 1 = x ∧ (lf N i 0 = 9 ↔ False)) (heldV N u r.toNat * Qr N r) 0) (N 6).toNat := by
    intro i a b
    obtain ⟨l0, l1, l2, l3, l4⟩ := hW.2.2.1 i a (by omega)
    by_cases hg : lf N i 3 ≠ -4 ∧ lf N i 1 = x
    · rw [if_pos hg]
      have hrr : 0 ≤ lf N i 3 ∧ lf N i 3 < N 6 := by omega
      rw [sm_one (j := lf N i 3) hrr.1 (by omega) (fun r _ _ c => by rw [cif_neg (fun q => c q.1.symm), cif_neg (fun q => c q.1.symm)]; rfl)]
      by_cases h9 : lf N i 0 = 9
      · rw [seV_own ⟨a, b⟩ h9, cif_pos ⟨rfl, hg.2, by simp [h9]⟩, cif_neg (fun q => by simp [h9] at q), Int.add_zero]
      · have hp := mM_pos hW (q := (lf N i 3).toNat) a (by omega) h9 (by unfold wasP; omega)
        rw [seV_w hW hrr h9 (by omega), cif_neg (fun q => h9 (q.2.2.mpr trivial)), cif_pos ⟨rfl, hg.2, by simp [h9]⟩, Int.zero_add]
    · rw [if_neg hg]
      refine (sm_0 (fun r c d => ?_)).symm
      rw [cif_neg (fun q => hg ⟨by omega, q.2.1⟩), cif_neg (fun q => hg ⟨by omega, q.2.1⟩)]; rfl
  rw [sm_ext e, sm_comm]
  refine sm_ext (fun r a b => ?_)
  rw [sm_add, sm_cP, sm_cP]
  have hQ : prS (mM N) (r.toNat + 1) ((N 6).toNat - (r.toNat + 1)) = Qr N r := by unfold Qr; rw [show (r + 1).toNat = r.toNat + 1 by omega]
  rw [hQ]
  have hT : cP (fun i => lf N i 3 = r ∧ lf N i 1 = x ∧ (lf N i 0 = 9 ↔ True)) (N 5).toNat = oT N r x True := rfl
  have hF : cP (fun i => lf N i 3 = r ∧ lf N i 1 = x ∧ (lf N i 0 = 9 ↔ False)) (N 5).toNat = oT N r x False := rfl
  rw [hT, hF]
  unfold inR
  rw [show ((r.toNat : Nat) : Int) = r by omega]
  by_cases hu : u = 9
  · rw [if_pos hu, if_pos hu, whV_Q ⟨a, by omega⟩]
    have hz : heldV N u r.toNat = 0 := by
      rw [held_eq hW]
      refine sm_0 (fun i c d => ?_)
      split
      next h => unfold wtV; rw [if_pos (Or.inl (by omega))]
      next => rfl
    rw [hz, Int.zero_mul, Int.mul_zero, Int.add_zero]
    unfold Wr
    rw [show (r + 1).toNat = r.toNat + 1 by omega]
    ac_rfl
  · rw [if_neg hu, if_neg hu, Int.mul_zero, Int.zero_add]
    ac_rfl
end WQ
