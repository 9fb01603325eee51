/-! ===== facts of rows ===== -/
def NR (N : Row) : Prop := (∀ k, -2147483648 ≤ N k ∧ N k < 2147483648) ∧ (0 ≤ N 0 ∧ N 0 ≤ 3) ∧ (1 ≤ N 1 ∧ N 1 ≤ 8) ∧ (0 ≤ N 2 ∧ N 2 ≤ 4) ∧ (0 ≤ N 3 ∧ N 3 ≤ 3) ∧ (0 ≤ N 4 ∧ N 4 < 2147483648) ∧ (0 ≤ N 5 ∧ N 5 ≤ 79) ∧ (0 ≤ N 6 ∧ N 6 ≤ 12)
theorem cnt_ext {N N' : Row} {n : Nat} (h : ∀ i : Nat, i < n → (lf N' (i : Int) 3 = -4 ↔ lf N (i : Int) 3 = -4)) : cnt N' n = cnt N n := by
  induction n with
  | zero => rfl
  | succ n ih =>
    simp only [cnt]
    rw [ih (fun i hi => h i (by omega))]
    have := h n (by omega)
    unfold bI
    simp only [this]
theorem sat_ext {N N' : Row} {k : Int} {n : Nat} (h : ∀ i : Nat, i < n → (lf N' (i : Int) 3 = -4 ↔ lf N (i : Int) 3 = -4)) : sat N' k n = sat N k n := by
  induction n with
  | zero => rfl
  | succ n ih =>
    unfold sat
    rw [ih (fun i hi => h i (by omega)), cnt_ext (N := N) (N' := N') (fun i hi => h i (by omega))]
    simp only [h n (by omega)]
theorem drN_lf (N : Row) {i w : Int} (hi : 0 ≤ i) (hw : 0 ≤ w) : lf (drN N) i w = lf N i w := by unfold lf drN; exact up_n (by omega)
theorem drN_cnt (N : Row) (n : Nat) : cnt (drN N) n = cnt N n := cnt_ext (fun i _ => by rw [drN_lf N (by omega) (by omega)])
theorem drN_sat (N : Row) (k : Int) (n : Nat) : sat (drN N) k n = sat N k n := sat_ext (fun i _ => by rw [drN_lf N (by omega) (by omega)])
theorem drN_4 (N : Row) : drN N 4 = dr (N 4) := up_s _ _ _
theorem drN_k (N : Row) {k : Nat} (h : k ≠ 4) : drN N k = N k := up_n h
theorem NR.dr {N : Row} (h : NR N) : NR (drN N) := by
  have h4 := dr_rg (N 4)
  obtain ⟨a, b, c, d, e, f, g, i⟩ := h
  refine ⟨fun k => ?_, ?_, ?_, ?_, ?_, ?_, ?_, ?_⟩
  · by_cases hk : k = 4
    · rw [hk, drN_4]; omega
    · rw [drN_k N hk]; exact a k
  · rw [drN_k N (by decide)]; exact b
  · rw [drN_k N (by decide)]; exact c
  · rw [drN_k N (by decide)]; exact d
  · rw [drN_k N (by decide)]; exact e
  · rw [drN_4]; exact h4
  · rw [drN_k N (by decide)]; exact g
  · rw [drN_k N (by decide)]; exact i
theorem addN_5 (N : Row) (s r : Int) : addN N s r 5 = N 5 + 1 := rfl
theorem addN_k {N : Row} {s r : Int} {k : Nat} (h5 : 0 ≤ N 5) (hk : k < 7) (hn : k ≠ 5) : addN N s r k = N k := by
  unfold addN
  rw [if_neg hn, if_neg (by omega), if_neg (by omega), if_neg (by omega), if_neg (by omega), if_neg (by omega)]
theorem addN_old {N : Row} {s r : Int} {i w : Int} (hi : 0 ≤ i) (h : i < N 5) (hw : 0 ≤ w) (hw2 : w < 5) : lf (addN N s r) i w = lf N i w := by
  unfold lf addN
  rw [if_neg (by omega), if_neg (by omega), if_neg (by omega), if_neg (by omega), if_neg (by omega), if_neg (by omega)]
theorem addN_new {N : Row} {s r : Int} (h5 : 0 ≤ N 5) : lf (addN N s r) (N 5) 0 = s ∧ lf (addN N s r) (N 5) 1 = r ∧ lf (addN N s r) (N 5) 2 = N 6 ∧ lf (addN N s r) (N 5) 3 = -4 ∧ lf (addN N s r) (N 5) 4 = -4 := by
  unfold lf addN
  refine ⟨?_, ?_, ?_, ?_, ?_⟩
  · rw [if_neg (by omega), if_pos (by omega)]
  · rw [if_neg (by omega), if_neg (by omega), if_pos (by omega)]
  · rw [if_neg (by omega), if_neg (by omega), if_neg (by omega), if_pos (by omega)]
  · rw [if_neg (by omega), if_neg (by omega), if_neg (by omega), if_neg (by omega), if_pos (by omega)]
  · rw [if_neg (by omega), if_neg (by omega), if_neg (by omega), if_neg (by omega), if_neg (by omega), if_pos (by omega)]
theorem addN_cnt0 {N : Row} {s r : Int} {n : Nat} (hn : (n : Int) ≤ N 5) : cnt (addN N s r) n = cnt N n := cnt_ext (fun i hi => by rw [addN_old (by omega) (by omega) (by omega) (by omega)])
theorem addN_cnt {N : Row} {s r : Int} (h5 : 0 ≤ N 5) : cnt (addN N s r) (N 5 + 1).toNat = cnt N (N 5).toNat + 1 := by
  rw [cnt_S _ _ h5, addN_cnt0 (by omega), bI_pos (addN_new h5).2.2.2.1]
theorem NR.add {N : Row} {s r : Int} (h : NR N) (h79 : N 5 < 79) (hs : -2147483648 ≤ s ∧ s < 2147483648) (hr : -2147483648 ≤ r ∧ r < 2147483648) : NR (addN N s r) := by
  obtain ⟨a, b, c, d, e, f, g, i⟩ := h
  refine ⟨fun k => ?_, ?_, ?_, ?_, ?_, ?_, ?_, ?_⟩
  · unfold addN
    have := a k
    (repeat' split) <;> omega
  · rw [addN_k g.1 (by decide) (by decide)]; exact b
  · rw [addN_k g.1 (by decide) (by decide)]; exact c
  · rw [addN_k g.1 (by decide) (by decide)]; exact d
  · rw [addN_k g.1 (by decide) (by decide)]; exact e
  · rw [addN_k g.1 (by decide) (by decide)]; exact f
  · rw [addN_5]; omega
  · rw [addN_k g.1 (by decide) (by decide)]; exact i
theorem goN_k {N : Row} {i k : Int} {j : Nat} (hi : 0 ≤ i) (hj : j < 7) : goN N i k j = N j := by
  unfold goN
  rw [if_neg (by omega), if_neg (by omega)]
theorem goN_3 {N : Row} {i k : Int} (hi : 0 ≤ i) : lf (goN N i k) i 3 = N 6 := by unfold lf goN; rw [if_pos (by omega)]
theorem goN_4 {N : Row} {i k : Int} (hi : 0 ≤ i) : lf (goN N i k) i 4 = k := by unfold lf goN; rw [if_neg (by omega), if_pos (by omega)]
theorem goN_o {N : Row} {i k i1 w : Int} (hi : 0 ≤ i) (hi1 : 0 ≤ i1) (hw : 0 ≤ w ∧ w < 5) (h : i1 ≠ i ∨ w < 3) : lf (goN N i k) i1 w = lf N i1 w := by unfold lf goN; rw [if_neg (by omega), if_neg (by omega)]
theorem goN_cnt {N : Row} {i k : Int} (h6 : 0 ≤ N 6) (hi : 0 ≤ i) (hs : lf N i 3 = -4) : ∀ n : Nat, cnt (goN N i k) n = if i < n then cnt N n - 1 else cnt N n := by
  intro n
  induction n with
  | zero => rw [if_neg (by omega)]; rfl
  | succ n ih =>
    simp only [cnt]
    rw [ih]
    by_cases hn : i = n
    · subst hn
      rw [if_neg (by omega), if_pos (by omega), goN_3 hi, bI_neg (by omega), bI_pos hs]
      omega
    · rw [goN_o hi (by omega) (by omega) (Or.inl (fun e => hn e.symm))]
      by_cases hl : i < n
      · rw [if_pos hl, if_pos (by omega)]; omega
      · rw [if_neg hl, if_neg (by omega)]
theorem NR.go {N : Row} {i k : Int} (h : NR N) (hi : 0 ≤ i) (hk : -2147483648 ≤ k ∧ k < 2147483648) : NR (goN N i k) := by
  obtain ⟨a, b, c, d, e, f, g, z⟩ := h
  refine ⟨fun j => ?_, ?_, ?_, ?_, ?_, ?_, ?_, ?_⟩
  · unfold goN
    have := a j
    (repeat' split) <;> omega
  · rw [goN_k hi (by decide)]; exact b
  · rw [goN_k hi (by decide)]; exact c
  · rw [goN_k hi (by decide)]; exact d
  · rw [goN_k hi (by decide)]; exact e
  · rw [goN_k hi (by decide)]; exact f
  · rw [goN_k hi (by decide)]; exact g
  · rw [goN_k hi (by decide)]; exact z
/-- dummies that came -/
theorem dum_f {N : Row} (h : NR N) : ∀ d : Nat, N 5 + d ≤ 79 → NR (dumN N d) ∧ dumN N d 5 = N 5 + d ∧ (∀ k, k < 7 → k ≠ 4 → k ≠ 5 → dumN N d k = N k) ∧ cnt (dumN N d) (N 5 + d).toNat = cnt N (N 5).toNat + d := by
  intro d
  induction d with
  | zero => intro _; exact ⟨h, by simp [dumN], fun _ _ _ _ => rfl, by simp [dumN]⟩
  | succ d ih =>
    intro hd
    obtain ⟨h1, h2, h3, h4⟩ := ih (by omega)
    have h5 : 0 ≤ N 5 := h.2.2.2.2.2.2.1.1
    have hx := dr_rg (dumN N d 4)
    have e5 : drN (dumN N d) 5 = N 5 + d := by rw [drN_k _ (by decide), h2]
    refine ⟨?_, ?_, ?_, ?_⟩
    · exact h1.dr.add (by omega) (by decide) (by omega)
    · show addN _ _ _ 5 = _
      rw [addN_5, e5]; omega
    · intro k hk hk4 hk5
      show addN _ _ _ k = _
      rw [addN_k (by omega) hk hk5, drN_k _ hk4, h3 k hk hk4 hk5]
    · show cnt (addN _ _ _) _ = _
      have := addN_cnt (N := drN (dumN N d)) (s := 8) (r := dr (dumN N d 4) / 65536 % 8) (by omega)
      rw [e5] at this
      rw [show (N 5 + ((d + 1 : Nat) : Int)).toNat = (N 5 + d + 1).toNat by omega, this, drN_cnt, h4]
      omega
theorem out1_i {N : Row} (h : NR N) (hc : 0 < cnt N (N 5).toNat) : ∃ i : Nat, (i : Int) < N 5 ∧ lf N (i : Int) 3 = -4 ∧ cnt N i = dr (N 4) / 65536 % cnt N (N 5).toNat ∧ sat N (dr (N 4) / 65536 % cnt N (N 5).toNat) (N 5).toNat = i := by
  obtain ⟨i, h1, h2, h3, h4⟩ := sat_ex (N := N) (k := dr (N 4) / 65536 % cnt N (N 5).toNat) (n := (N 5).toNat) (Int.emod_nonneg _ (by omega)) (Int.emod_lt_of_pos _ hc)
  exact ⟨i, by omega, h2, h3, h4⟩
theorem out1_f {N : Row} (h : NR N) (k : Int) (hk : -2147483648 ≤ k ∧ k < 2147483648) (hc : 0 < cnt N (N 5).toNat) : NR (out1 N k) ∧ (∀ j, j < 7 → j ≠ 4 → out1 N k j = N j) ∧ cnt (out1 N k) (N 5).toNat = cnt N (N 5).toNat - 1 := by
  obtain ⟨i, h1, h2, h3, h4⟩ := out1_i h hc
  have h6 : 0 ≤ N 6 := h.2.2.2.2.2.2.2.1
  unfold out1
  rw [h4]
  refine ⟨h.dr.go (by omega) hk, fun j hj hj4 => ?_, ?_⟩
  · rw [goN_k (by omega) hj, drN_k _ hj4]
  · rw [goN_cnt (by rw [drN_k _ (by decide)]; exact h6) (by omega) (by rw [drN_lf _ (by omega) (by omega)]; exact h2), drN_cnt, if_pos (by omega)]
theorem outs_f {N : Row} (h : NR N) : ∀ k : Nat, (k : Int) ≤ cnt N (N 5).toNat → NR (outsN N k) ∧ (∀ j, j < 7 → j ≠ 4 → outsN N k j = N j) ∧ cnt (outsN N k) (N 5).toNat = cnt N (N 5).toNat - k := by
  intro k
  induction k with
  | zero => intro _; exact ⟨h, fun _ _ _ => rfl, by simp [outsN]⟩
  | succ k ih =>
    intro hk
    obtain ⟨h1, h2, h3⟩ := ih (by omega)
    have e5 := h2 5 (by decide) (by decide)
    have hc := (cnt_0 N (N 5).toNat).2
    have h79 := h.2.2.2.2.2.2.1
    obtain ⟨g1, g2, g3⟩ := out1_f h1 (k : Int) (by omega) (by rw [e5, h3]; omega)
    rw [e5] at g3
    exact ⟨g1, fun j hj hj4 => (g2 j hj hj4).trans (h2 j hj hj4), by show cnt (out1 (outsN N k) k) _ = _; rw [g3, h3]; omega⟩
theorem up_up (N : Row) (k : Nat) (x y : Int) : up (up N k x) k y = up N k y := by
  funext j; unfold up; split <;> rfl
noncomputable abbrev bC (p : Prop) : Int := @bI p (Classical.propDecidable p)
theorem bC1 {p : Prop} (h : p) : (1 : Int) = bC p := (@bI_pos p (Classical.propDecidable p) h).symm
theorem bC0 {p : Prop} (h : ¬ p) : (0 : Int) = bC p := (@bI_neg p (Classical.propDecidable p) h).symm
theorem bC01 (p : Prop) : bC p = 0 ∨ bC p = 1 := @bI_01 p (Classical.propDecidable p)
theorem sat_atI {N : Row} {k i m : Int} (h0 : 0 ≤ i) (h : i < m) (h1 : lf N i 3 = -4) (h2 : cnt N i.toNat = k) : i = sat N k m.toNat := by
  obtain ⟨n, rfl⟩ := Int.eq_ofNat_of_zero_le h0
  exact (sat_at (by omega) h1 h2).symm
