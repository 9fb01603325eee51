/-! ===== counting ===== -/
noncomputable def cP (p : Int → Prop) : Nat → Int
  | 0 => 0
  | n + 1 => cP p n + bC (p (n : Int))
theorem bC_iff {p q : Prop} (h : p ↔ q) : bC p = bC q := by rw [propext h]
theorem cP_ext {p q : Int → Prop} {n : Nat} (h : ∀ i : Int, 0 ≤ i → i < n → (p i ↔ q i)) : cP p n = cP q n := by
  induction n with
  | zero => rfl
  | succ n ih =>
    simp only [cP]
    rw [ih (fun i a b => h i a (by omega)), bC_iff (h n (by omega) (by omega))]
theorem cP_rg (p : Int → Prop) (n : Nat) : 0 ≤ cP p n ∧ cP p n ≤ n := by
  induction n with
  | zero => simp [cP]
  | succ n ih => have := bC01 (p (n : Int)); simp only [cP]; omega
theorem cP_split (p q : Int → Prop) (n : Nat) : cP p n = cP (fun i => p i ∧ q i) n + cP (fun i => p i ∧ ¬ q i) n := by
  induction n with
  | zero => rfl
  | succ n ih =>
    simp only [cP]
    rw [ih]
    by_cases h1 : p (n : Int) <;> by_cases h2 : q (n : Int)
    · rw [← bC1 h1, ← bC1 (⟨h1, h2⟩ : p (n : Int) ∧ q (n : Int)), ← bC0 (fun h : p (n : Int) ∧ ¬ q (n : Int) => h.2 h2)]; omega
    · rw [← bC1 h1, ← bC0 (fun h : p (n : Int) ∧ q (n : Int) => h2 h.2), ← bC1 (⟨h1, h2⟩ : p (n : Int) ∧ ¬ q (n : Int))]; omega
    · rw [← bC0 h1, ← bC0 (fun h : p (n : Int) ∧ q (n : Int) => h1 h.1), ← bC0 (fun h : p (n : Int) ∧ ¬ q (n : Int) => h1 h.1)]; omega
    · rw [← bC0 h1, ← bC0 (fun h : p (n : Int) ∧ q (n : Int) => h1 h.1), ← bC0 (fun h : p (n : Int) ∧ ¬ q (n : Int) => h1 h.1)]; omega
theorem cP_none {p : Int → Prop} {n : Nat} (h : ∀ i : Int, 0 ≤ i → i < n → ¬ p i) : cP p n = 0 := by
  induction n with
  | zero => rfl
  | succ n ih => simp only [cP]; rw [ih (fun i a b => h i a (by omega)), ← bC0 (h n (by omega) (by omega))]; rfl
theorem cP_pos {p : Int → Prop} {n : Nat} {i : Int} (h0 : 0 ≤ i) (h1 : i < n) (hp : p i) : 1 ≤ cP p n := by
  induction n with
  | zero => omega
  | succ n ih =>
    simp only [cP]
    have := bC01 (p (n : Int))
    have := (cP_rg p n).1
    by_cases hi : i = n
    · subst hi; rw [← bC1 hp]; omega
    · have := ih (by omega); omega
theorem cP_le {p q : Int → Prop} {n : Nat} (h : ∀ i : Int, 0 ≤ i → i < n → p i → q i) : cP p n ≤ cP q n := by
  induction n with
  | zero => exact Int.le_refl _
  | succ n ih =>
    simp only [cP]
    have h1 := ih (fun i a b => h i a (by omega))
    by_cases hp : p (n : Int)
    · rw [← bC1 hp, ← bC1 (h n (by omega) (by omega) hp)]; omega
    · rw [← bC0 hp]; have := bC01 (q (n : Int)); omega
theorem cP_S (p : Int → Prop) {i : Int} (h : 0 ≤ i) : cP p (i + 1).toNat = cP p i.toNat + bC (p i) := by
  rw [show (i + 1).toNat = i.toNat + 1 by omega]
  simp only [cP]
  rw [show ((i.toNat : Nat) : Int) = i by omega]
theorem rof_cP (N : Row) (r v : Int) (n : Nat) : rof N r v n = cP (rofP N r v) n := by
  induction n with
  | zero => rfl
  | succ n ih => simp only [rof, cP]; rw [ih]
theorem cnt_cP (N : Row) (n : Nat) : cnt N n = cP (fun i => lf N i 3 = -4) n := by
  induction n with
  | zero => rfl
  | succ n ih =>
    simp only [cnt, cP]
    rw [ih]
    by_cases h : lf N (n : Int) 3 = -4
    · rw [bI_pos h, ← bC1 h]
    · rw [bI_neg h, ← bC0 h]
/-- own ones that stand -/
noncomputable def ow (N : Row) (n : Nat) : Int := cP (fun i => lf N i 3 = -4 ∧ lf N i 0 = 9) n
/-! ===== a Book and a row ===== -/
abbrev Bk : Type := Nat → Nat → Int
def ub (B : Bk) (j i : Nat) (x : Int) : Bk := fun j1 i1 => if j1 = j ∧ i1 = i then x else B j1 i1
def sB (S : St) (c : Nat) (B : Bk) : St := fun c1 => if c1 = c then B else S c1
theorem sB_s (S : St) (c : Nat) (B : Bk) : sB S c B c = B := if_pos rfl
theorem sB_c {S : St} {c c1 : Nat} {B : Bk} (h : c1 ≠ c) : sB S c B c1 = S c1 := if_neg h
theorem sB_id (S : St) (c : Nat) : sB S c (S c) = S := by funext c1; unfold sB; split <;> simp_all
theorem sB_sB (S : St) (c : Nat) (B B' : Bk) : sB (sB S c B) c B' = sB S c B' := by funext c1; unfold sB; split <;> rfl
theorem st3_sB (S : St) (c j i : Nat) (x : Int) : st3 S c j i x = sB S c (ub (S c) j i x) := by
  funext c1 j1 i1
  unfold st3 sB ub
  by_cases h : c1 = c
  · subst h; simp
  · rw [if_neg (fun q => h q.1), if_neg h]
theorem st3_sB2 (S : St) (c j i : Nat) (B : Bk) (x : Int) : st3 (sB S c B) c j i x = sB S c (ub B j i x) := by rw [st3_sB, sB_sB, sB_s]
theorem ub_s (B : Bk) (j i : Nat) (x : Int) : ub B j i x j i = x := if_pos ⟨rfl, rfl⟩
theorem ub_j {B : Bk} {j i j1 i1 : Nat} {x : Int} (h : j1 ≠ j) : ub B j i x j1 i1 = B j1 i1 := if_neg (fun q => h q.1)
theorem ub_i {B : Bk} {j i j1 i1 : Nat} {x : Int} (h : i1 ≠ i) : ub B j i x j1 i1 = B j1 i1 := if_neg (fun q => h q.2)
/-- the Book tells the row -/
def BR (B : Bk) (N : Row) : Prop :=
  (∀ k : Nat, k < 4 → B 0 k = N k) ∧ (B 1 0 = N 4 ∧ B 2 0 = N 5 ∧ B 8 0 = cnt N (N 5).toNat ∧ B 10 0 = N 6) ∧
  (∀ i : Int, 0 ≤ i → i < N 5 → B 3 i.toNat = lf N i 0 ∧ B 4 i.toNat = lf N i 1 ∧ B 5 i.toNat = lf N i 2 ∧ B 6 i.toNat = lf N i 3 ∧ B 7 i.toNat = lf N i 4) ∧
  (∀ k : Int, 0 ≤ k → k < cnt N (N 5).toNat → B 9 k.toNat = sat N k (N 5).toNat) ∧
  (∀ r v : Int, 0 ≤ r → r < N 6 → 0 ≤ v → v < 6 → B 11 (r * 6 + v).toNat = rof N r v (N 5).toNat) ∧
  (∀ r k : Int, 0 ≤ r → r < N 6 → 0 ≤ k → k < rof N r 1 (N 5).toNat → B 12 (r * 15 + k).toNat = lout N r k (N 5).toNat ∧ 0 ≤ lout N r k (N 5).toNat ∧ k < 15)
/-- outs of the round that is, k of them -/
def CurO (B : Bk) (N : Row) (d : Int) : Prop := (∀ i : Int, 0 ≤ i → i < N 5 → lf N i 3 = N 6 → 0 ≤ lf N i 4 ∧ lf N i 4 < d) ∧ ∀ k : Int, 0 ≤ k → k < d → B 12 (N 6 * 15 + k).toNat = lout N (N 6) k (N 5).toNat ∧ 0 ≤ lout N (N 6) k (N 5).toNat
theorem lout_ext {N N' : Row} {r k : Int} {n : Nat} (h : ∀ i : Int, 0 ≤ i → i < n → ((lf N' i 3 = r ∧ lf N' i 4 = k) ↔ (lf N i 3 = r ∧ lf N i 4 = k))) : lout N' r k n = lout N r k n := by
  induction n with
  | zero => rfl
  | succ n ih =>
    unfold lout
    rw [ih (fun i a b => h i a (by omega))]
    have := h n (by omega) (by omega)
    by_cases hc : lf N (n : Int) 3 = r ∧ lf N (n : Int) 4 = k
    · rw [if_pos hc, if_pos (this.mpr hc)]
    · rw [if_neg hc, if_neg (fun q => hc (this.mp q))]
theorem lout_at {N : Row} {r k i : Int} {n : Nat} (h0 : 0 ≤ i) (h1 : i < n) (h : lf N i 3 = r ∧ lf N i 4 = k) (hu : ∀ j : Int, 0 ≤ j → j < n → j ≠ i → ¬ (lf N j 3 = r ∧ lf N j 4 = k)) : lout N r k n = i := by
  induction n with
  | zero => omega
  | succ n ih =>
    unfold lout
    by_cases hi : i = n
    · rw [← hi, if_pos h]
    · rw [if_neg (hu n (by omega) (by omega) (fun e => hi e.symm))]
      exact ih (by omega) (fun j a b c => hu j a (by omega) c)
/-! the draw changes -/
theorem BR.dr {B : Bk} {N : Row} (h : BR B N) (h5 : 0 ≤ N 5) : BR (ub B 1 0 (dr (N 4))) (drN N) := by
  have e : ∀ k : Nat, k ≠ 4 → drN N k = N k := fun k hk => drN_k N hk
  have el : ∀ i w : Int, 0 ≤ i → 0 ≤ w → lf (drN N) i w = lf N i w := fun i w a b => drN_lf N a b
  have e5 : drN N 5 = N 5 := e 5 (by decide)
  have e6 : drN N 6 = N 6 := e 6 (by decide)
  have hp : ∀ r v i : Int, 0 ≤ i → (rofP (drN N) r v i ↔ rofP N r v i) := by
    intro r v i hi
    unfold rofP wasP
    rw [el i 0 hi (by decide), el i 2 hi (by decide), el i 3 hi (by decide)]
  have er : ∀ r v : Int, rof (drN N) r v (N 5).toNat = rof N r v (N 5).toNat := fun r v => by rw [rof_cP, rof_cP]; exact cP_ext (fun i a _ => hp r v i a)
  have eo : ∀ r k : Int, lout (drN N) r k (N 5).toNat = lout N r k (N 5).toNat := fun r k => lout_ext (fun i a _ => by rw [el i 3 a (by decide), el i 4 a (by decide)])
  obtain ⟨a1, ⟨a2, a3, a4, a5⟩, a6, a7, a8, a9⟩ := h
  refine ⟨fun k hk => ?_, ⟨?_, ?_, ?_, ?_⟩, fun i hi hj => ?_, fun k h0 h1 => ?_, fun r v b1 b2 b3 b4 => ?_, fun r k b1 b2 b3 b4 => ?_⟩
  · rw [ub_j (by decide), e k (by omega)]; exact a1 k hk
  · rw [ub_s, drN_4]
  · rw [ub_j (by decide), e5]; exact a3
  · rw [ub_j (by decide), e5, drN_cnt]; exact a4
  · rw [ub_j (by decide), e6]; exact a5
  · rw [e5] at hj
    rw [ub_j (by decide), ub_j (by decide), ub_j (by decide), ub_j (by decide), ub_j (by decide), el i 0 hi (by decide), el i 1 hi (by decide), el i 2 hi (by decide), el i 3 hi (by decide), el i 4 hi (by decide)]
    exact a6 i hi hj
  · rw [e5, drN_cnt] at h1
    rw [ub_j (by decide), e5, drN_sat]
    exact a7 k h0 h1
  · rw [e6] at b2
    rw [ub_j (by decide), e5, er]
    exact a8 r v b1 b2 b3 b4
  · rw [e6] at b2
    rw [e5, er] at b4
    rw [ub_j (by decide), e5, eo]
    exact a9 r k b1 b2 b3 b4
/-! a letter comes -/
def addB (B : Bk) (s r : Int) : Bk := ub (ub (ub (ub (ub (ub (ub (ub B 3 (B 2 0).toNat s) 4 (B 2 0).toNat r) 5 (B 2 0).toNat (B 10 0)) 6 (B 2 0).toNat (-4)) 7 (B 2 0).toNat (-4)) 9 (B 8 0).toNat (B 2 0)) 8 0 (B 8 0 + 1)) 2 0 (B 2 0 + 1)
theorem addN_rof {N : Row} {s r0 : Int} (h5 : 0 ≤ N 5) {r v : Int} (hr : 0 ≤ r) (hr6 : r < N 6) : rof (addN N s r0) r v (N 5 + 1).toNat = rof N r v (N 5).toNat := by
  rw [rof_cP, rof_cP, cP_S _ h5]
  obtain ⟨n0, n1, n2, n3, n4⟩ := addN_new (N := N) (s := s) (r := r0) h5
  have : ¬ rofP (addN N s r0) r v (N 5) := by unfold rofP wasP; rw [n2, n3]; omega
  rw [← bC0 this, Int.add_zero]
  refine cP_ext (fun i a b => ?_)
  unfold rofP wasP
  rw [addN_old a (by omega) (by decide) (by decide), addN_old a (by omega) (by decide) (by decide), addN_old a (by omega) (by decide) (by decide)]
theorem addN_lout {N : Row} {s r0 : Int} (h5 : 0 ≤ N 5) {r k : Int} (hr : 0 ≤ r) : lout (addN N s r0) r k (N 5 + 1).toNat = lout N r k (N 5).toNat := by
  rw [lout_S _ _ _ _ h5]
  obtain ⟨n0, n1, n2, n3, n4⟩ := addN_new (N := N) (s := s) (r := r0) h5
  rw [if_neg (by rw [n3]; omega)]
  refine lout_ext (fun i a b => ?_)
  rw [addN_old a (by omega) (by decide) (by decide), addN_old a (by omega) (by decide) (by decide)]
theorem addN_sat {N : Row} {s r0 : Int} (h5 : 0 ≤ N 5) {k : Int} : sat (addN N s r0) k (N 5 + 1).toNat = if k = cnt N (N 5).toNat then N 5 else sat N k (N 5).toNat := by
  rw [sat_S _ _ _ h5]
  obtain ⟨n0, n1, n2, n3, n4⟩ := addN_new (N := N) (s := s) (r := r0) h5
  have e : sat (addN N s r0) k (N 5).toNat = sat N k (N 5).toNat := sat_ext (fun i hi => by rw [addN_old (by omega) (by omega) (by decide) (by decide)])
  rw [addN_cnt0 (by omega), e]
  by_cases hk : k = cnt N (N 5).toNat
  · rw [if_pos hk, if_pos ⟨n3, hk.symm⟩]
  · rw [if_neg hk, if_neg (fun q => hk q.2.symm)]
theorem BR.add {B : Bk} {N : Row} {s r0 : Int} (h : BR B N) (h5 : 0 ≤ N 5) : BR (addB B s r0) (addN N s r0) := by
  obtain ⟨a1, ⟨a2, a3, a4, a5⟩, a6, a7, a8, a9⟩ := h
  have e5 : addN N s r0 5 = N 5 + 1 := addN_5 _ _ _
  have ek : ∀ k : Nat, k < 7 → k ≠ 5 → addN N s r0 k = N k := fun k hk hn => addN_k h5 hk hn
  obtain ⟨n0, n1, n2, n3, n4⟩ := addN_new (N := N) (s := s) (r := r0) h5
  have hc0 := cnt_0 N (N 5).toNat
  unfold addB
  refine ⟨fun k hk => ?_, ⟨?_, ?_, ?_, ?_⟩, fun i hi hj => ?_, fun k h0 h1 => ?_, fun r v b1 b2 b3 b4 => ?_, fun r k b1 b2 b3 b4 => ?_⟩
  · simp only [ub_j (show (0 : Nat) ≠ 2 by decide), ub_j (show (0 : Nat) ≠ 8 by decide), ub_j (show (0 : Nat) ≠ 9 by decide), ub_j (show (0 : Nat) ≠ 7 by decide), ub_j (show (0 : Nat) ≠ 6 by decide), ub_j (show (0 : Nat) ≠ 5 by decide), ub_j (show (0 : Nat) ≠ 4 by decide), ub_j (show (0 : Nat) ≠ 3 by decide)]
    rw [ek k (by omega) (by omega)]; exact a1 k hk
  · simp only [ub_j (show (1 : Nat) ≠ 2 by decide), ub_j (show (1 : Nat) ≠ 8 by decide), ub_j (show (1 : Nat) ≠ 9 by decide), ub_j (show (1 : Nat) ≠ 7 by decide), ub_j (show (1 : Nat) ≠ 6 by decide), ub_j (show (1 : Nat) ≠ 5 by decide), ub_j (show (1 : Nat) ≠ 4 by decide), ub_j (show (1 : Nat) ≠ 3 by decide)]
    rw [ek 4 (by decide) (by decide)]; exact a2
  · rw [ub_s, e5, a3]
  · rw [ub_j (by decide), ub_s, e5, addN_cnt h5, a4]
  · simp only [ub_j (show (10 : Nat) ≠ 2 by decide), ub_j (show (10 : Nat) ≠ 8 by decide), ub_j (show (10 : Nat) ≠ 9 by decide), ub_j (show (10 : Nat) ≠ 7 by decide), ub_j (show (10 : Nat) ≠ 6 by decide), ub_j (show (10 : Nat) ≠ 5 by decide), ub_j (show (10 : Nat) ≠ 4 by decide), ub_j (show (10 : Nat) ≠ 3 by decide)]
    rw [ek 6 (by decide) (by decide)]; exact a5
  · rw [e5] at hj
    rw [a3, a5, a4]
    by_cases hi5 : i = N 5
    · subst hi5
      rw [n0, n1, n2, n3, n4]
      refine ⟨?_, ?_, ?_, ?_, ?_⟩
      · rw [ub_j (by decide), ub_j (by decide), ub_j (by decide), ub_j (by decide), ub_j (by decide), ub_j (by decide), ub_j (by decide), ub_s]
      · rw [ub_j (by decide), ub_j (by decide), ub_j (by decide), ub_j (by decide), ub_j (by decide), ub_j (by decide), ub_s]
      · rw [ub_j (by decide), ub_j (by decide), ub_j (by decide), ub_j (by decide), ub_j (by decide), ub_s]
      · rw [ub_j (by decide), ub_j (by decide), ub_j (by decide), ub_j (by decide), ub_s]
      · rw [ub_j (by decide), ub_j (by decide), ub_j (by decide), ub_s]
    · have hlt : i < N 5 := by omega
      have hne : i.toNat ≠ (N 5).toNat := by omega
      rw [addN_old hi hlt (by decide) (by decide), addN_old hi hlt (by decide) (by decide), addN_old hi hlt (by decide) (by decide), addN_old hi hlt (by decide) (by decide), addN_old hi hlt (by decide) (by decide)]
      obtain ⟨l0, l1, l2, l3, l4⟩ := a6 i hi hlt
      refine ⟨?_, ?_, ?_, ?_, ?_⟩
      · rw [ub_j (by decide), ub_j (by decide), ub_j (by decide), ub_j (by decide), ub_j (by decide), ub_j (by decide), ub_j (by decide), ub_i hne]; exact l0
      · rw [ub_j (by decide), ub_j (by decide), ub_j (by decide), ub_j (by decide), ub_j (by decide), ub_j (by decide), ub_i hne, ub_j (by decide)]; exact l1
      · rw [ub_j (by decide), ub_j (by decide), ub_j (by decide), ub_j (by decide), ub_j (by decide), ub_i hne, ub_j (by decide), ub_j (by decide)]; exact l2
      · rw [ub_j (by decide), ub_j (by decide), ub_j (by decide), ub_j (by decide), ub_i hne, ub_j (by decide), ub_j (by decide), ub_j (by decide)]; exact l3
      · rw [ub_j (by decide), ub_j (by decide), ub_j (by decide), ub_i hne, ub_j (by decide), ub_j (by decide), ub_j (by decide), ub_j (by decide)]; exact l4
  · rw [e5, addN_cnt h5] at h1
    rw [e5, addN_sat h5, a4, a3]
    by_cases hk : k = cnt N (N 5).toNat
    · rw [if_pos hk, ub_j (by decide), ub_j (by decide), ← hk, ub_s]
    · rw [if_neg hk, ub_j (by decide), ub_j (by decide), ub_i (by omega), ub_j (by decide), ub_j (by decide), ub_j (by decide), ub_j (by decide), ub_j (by decide)]
      exact a7 k h0 (by omega)
  · rw [ek 6 (by decide) (by decide)] at b2
    rw [e5, addN_rof h5 b1 b2, ub_j (by decide), ub_j (by decide), ub_j (by decide), ub_j (by decide), ub_j (by decide), ub_j (by decide), ub_j (by decide), ub_j (by decide)]
    exact a8 r v b1 b2 b3 b4
  · rw [ek 6 (by decide) (by decide)] at b2
    rw [e5, addN_rof h5 b1 b2] at b4
    rw [e5, addN_lout h5 b1, ub_j (by decide), ub_j (by decide), ub_j (by decide), ub_j (by decide), ub_j (by decide), ub_j (by decide), ub_j (by decide), ub_j (by decide)]
    exact a9 r k b1 b2 b3 b4
