/-! ===== a letter goes out ===== -/
def goB (B : Bk) (pl i k : Int) : Bk := fun j x => if j = 8 ∧ x = 0 then B 8 0 - 1 else if j = 9 ∧ pl ≤ (x : Int) ∧ (x : Int) < B 8 0 - 1 then B 9 (x + 1) else if j = 6 ∧ x = i.toNat then B 10 0 else if j = 7 ∧ x = i.toNat then k else if j = 12 ∧ x = (B 10 0 * 15 + k).toNat then i else B j x
theorem goN_rofP {N : Row} {i k r v j : Int} (hi : 0 ≤ i) (hs : lf N i 3 = -4) (hr : 0 ≤ r) (hr6 : r < N 6) (hj : 0 ≤ j) : rofP (goN N i k) r v j ↔ rofP N r v j := by
  unfold rofP wasP
  rw [goN_o hi hj (w := 0) (by omega) (Or.inr (by decide)), goN_o hi hj (w := 2) (by omega) (Or.inr (by decide))]
  by_cases e : j = i
  · subst e; rw [goN_3 hi, hs]; omega
  · rw [goN_o hi hj (w := 3) (by omega) (Or.inl e)]
theorem goN_rof {N : Row} {i k r v : Int} {n : Nat} (hi : 0 ≤ i) (hs : lf N i 3 = -4) (hr : 0 ≤ r) (hr6 : r < N 6) : rof (goN N i k) r v n = rof N r v n := by
  rw [rof_cP, rof_cP]
  exact cP_ext (fun j a _ => goN_rofP hi hs hr hr6 a)
theorem goN_lout {N : Row} {i k r x : Int} {n : Nat} (hi : 0 ≤ i) (hs : lf N i 3 = -4) (hr : 0 ≤ r) (hne : r < N 6 ∨ (r = N 6 ∧ x ≠ k)) : lout (goN N i k) r x n = lout N r x n := by
  refine lout_ext (fun j a _ => ?_)
  by_cases e : j = i
  · subst e; rw [goN_3 hi, goN_4 hi, hs]; omega
  · rw [goN_o hi a (w := 3) (by omega) (Or.inl e), goN_o hi a (w := 4) (by omega) (Or.inl e)]
theorem sat_go {N : Row} {i : Nat} {k0 k : Int} {n : Nat} (h6 : 0 ≤ N 6) (hin : i < n) (hs : lf N (i : Int) 3 = -4) (hk : 0 ≤ k) (hkn : k < cnt N n - 1) : sat (goN N (i : Int) k0) k n = if k < cnt N i then sat N k n else sat N (k + 1) n := by
  have hi : (0 : Int) ≤ (i : Int) := by omega
  have hc := goN_cnt (k := k0) h6 hi hs
  by_cases hlt : k < cnt N i
  · rw [if_pos hlt]
    obtain ⟨j, j1, j2, j3, j4⟩ := sat_ex (N := N) (n := i) hk hlt
    rw [sat_at (show j < n by omega) j2 j3]
    refine sat_at (by omega) ?_ ?_
    · rw [goN_o hi (by omega) (by omega) (Or.inl (by omega))]; exact j2
    · rw [hc j, if_neg (by omega)]; exact j3
  · rw [if_neg hlt]
    obtain ⟨j, j1, j2, j3, j4⟩ := sat_ex (N := N) (n := n) (k := k + 1) (by omega) (by omega)
    rw [j4]
    have hij : i < j := by
      rcases Nat.lt_or_ge i j with q | q
      · exact q
      · have := cnt_mono N q; omega
    refine sat_at j1 ?_ ?_
    · rw [goN_o hi (by omega) (by omega) (Or.inl (by omega))]; exact j2
    · rw [hc j, if_pos (by omega)]; omega
theorem BR.go {B : Bk} {N : Row} {i : Nat} {k : Int} (h : BR B N) (h5 : 0 ≤ N 5) (h6 : 0 ≤ N 6) (hi : (i : Int) < N 5) (hs : lf N (i : Int) 3 = -4) (hk : 0 ≤ k) : BR (goB B (cnt N i) (i : Int) k) (goN N (i : Int) k) := by
  obtain ⟨a1, ⟨a2, a3, a4, a5⟩, a6, a7, a8, a9⟩ := h
  have hi0 : (0 : Int) ≤ (i : Int) := by omega
  have ek : ∀ j : Nat, j < 7 → goN N (i : Int) k j = N j := fun j hj => goN_k hi0 hj
  have e5 := ek 5 (by decide)
  have e6 := ek 6 (by decide)
  have hc := goN_cnt (k := k) h6 hi0 hs (N 5).toNat
  rw [if_pos (by omega)] at hc
  have hci := cnt_mono N (show i + 1 ≤ (N 5).toNat by omega)
  simp only [cnt, bI_pos hs] at hci
  have hc0 := (cnt_0 N i).1
  unfold goB
  refine ⟨fun x hx => ?_, ⟨?_, ?_, ?_, ?_⟩, fun j hj hj5 => ?_, fun x h0 h1 => ?_, fun r v b1 b2 b3 b4 => ?_, fun r x b1 b2 b3 b4 => ?_⟩
  · simp; rw [ek x (by omega)]; exact a1 x hx
  · simp; rw [ek 4 (by decide)]; exact a2
  · simp; rw [e5]; exact a3
  · simp; rw [e5, hc, a4]
  · simp; rw [e6]; exact a5
  · rw [e5] at hj5
    obtain ⟨l0, l1, l2, l3, l4⟩ := a6 j hj hj5
    simp
    rw [goN_o hi0 hj (w := 0) (by omega) (Or.inr (by decide)), goN_o hi0 hj (w := 1) (by omega) (Or.inr (by decide)), goN_o hi0 hj (w := 2) (by omega) (Or.inr (by decide))]
    refine ⟨l0, l1, l2, ?_, ?_⟩
    · by_cases e : j = i
      · subst e; rw [goN_3 hi0]; simp; exact a5
      · rw [goN_o hi0 hj (w := 3) (by omega) (Or.inl e), if_neg (by omega)]; exact l3
    · by_cases e : j = i
      · subst e; rw [goN_4 hi0]; simp
      · rw [goN_o hi0 hj (w := 4) (by omega) (Or.inl e), if_neg (by omega)]; exact l4
  · rw [e5, hc] at h1
    rw [e5, sat_go h6 (by omega) hs h0 h1]
    simp
    rw [a4]
    by_cases hlt : x < cnt N i
    · rw [if_pos hlt, if_neg (by omega)]; exact a7 x h0 (by omega)
    · rw [if_neg hlt, if_pos (by omega), show x.toNat + 1 = (x + 1).toNat by omega]; exact a7 (x + 1) (by omega) (by omega)
  · rw [e6] at b2
    rw [e5, goN_rof hi0 hs b1 b2]
    simp
    exact a8 r v b1 b2 b3 b4
  · rw [e6] at b2
    rw [e5, goN_rof hi0 hs b1 b2] at b4
    rw [e5, goN_lout hi0 hs b1 (Or.inl b2)]
    obtain ⟨c1, c2, c3⟩ := a9 r x b1 b2 b3 b4
    simp
    rw [if_neg (by rw [a5]; omega)]
    exact ⟨c1, c2, c3⟩
theorem CurO.go {B : Bk} {N : Row} {i : Nat} {k pl : Int} (h : CurO B N k) (hb : B 10 0 = N 6) (h6 : 0 ≤ N 6) (hi : (i : Int) < N 5) (hs : lf N (i : Int) 3 = -4) (hk : 0 ≤ k) : CurO (goB B pl (i : Int) k) (goN N (i : Int) k) (k + 1) := by
  have hi0 : (0 : Int) ≤ (i : Int) := by omega
  have ek : ∀ j : Nat, j < 7 → goN N (i : Int) k j = N j := fun j hj => goN_k hi0 hj
  obtain ⟨a1, a2⟩ := h
  unfold CurO
  rw [ek 5 (by decide), ek 6 (by decide)]
  refine ⟨fun j hj hj5 h3 => ?_, fun x hx hxk => ?_⟩
  · by_cases e : j = i
    · subst e; rw [goN_4 hi0]; omega
    · rw [goN_o hi0 hj (w := 3) (by omega) (Or.inl e)] at h3
      rw [goN_o hi0 hj (w := 4) (by omega) (Or.inl e)]
      have := a1 j hj hj5 h3
      omega
  · unfold goB
    simp
    rw [hb]
    by_cases e : x = k
    · subst e
      rw [if_pos rfl]
      have : lout (goN N (i : Int) x) (N 6) x (N 5).toNat = i := by
        refine lout_at hi0 (by omega) ⟨goN_3 hi0, goN_4 hi0⟩ (fun j hj hj5 hne => ?_)
        rw [goN_o hi0 hj (w := 3) (by omega) (Or.inl hne), goN_o hi0 hj (w := 4) (by omega) (Or.inl hne)]
        rintro ⟨z1, z2⟩
        have := a1 j hj (by omega) z1
        omega
      rw [this]
      exact ⟨rfl, hi0⟩
    · rw [if_neg (by omega), goN_lout hi0 hs h6 (Or.inr ⟨rfl, e⟩)]
      exact a2 x hx (by omega)
/-- own ones among those that stand: by their places -/
theorem ow_sum {N : Row} {m : Nat} : ∀ n : Nat, n ≤ m → cP (fun k => lf N (sat N k m) 0 = 9) (cnt N n).toNat = ow N n := by
  intro n
  induction n with
  | zero => intro _; rfl
  | succ n ih =>
    intro hn
    have h0 := (cnt_0 N n).1
    have ihn := ih (by omega)
    unfold ow at ihn ⊢
    simp only [cnt, cP]
    by_cases hs : lf N (n : Int) 3 = -4
    · rw [bI_pos hs, cP_S _ h0, ihn, sat_at (show n < m by omega) hs rfl]
      by_cases h9 : lf N (n : Int) 0 = 9
      · rw [← bC1 h9, ← bC1 (⟨hs, h9⟩ : lf N (n : Int) 3 = -4 ∧ lf N (n : Int) 0 = 9)]
      · rw [← bC0 h9, ← bC0 (fun q : lf N (n : Int) 3 = -4 ∧ lf N (n : Int) 0 = 9 => h9 q.2)]
    · rw [bI_neg hs, Int.add_zero, ihn, ← bC0 (fun q : lf N (n : Int) 3 = -4 ∧ lf N (n : Int) 0 = 9 => hs q.1), Int.add_zero]
/-! ===== a round's end ===== -/
/-- what rows agree in as letters go out -/
def OI (N1 N2 : Row) : Prop := N2 5 = N1 5 ∧ N2 6 = N1 6 ∧ (∀ k : Nat, k < 4 → N2 k = N1 k) ∧ ∀ i : Int, 0 ≤ i → i < N1 5 → (lf N2 i 0 = lf N1 i 0 ∧ lf N2 i 1 = lf N1 i 1 ∧ lf N2 i 2 = lf N1 i 2) ∧ ((lf N2 i 3 = lf N1 i 3 ∧ lf N2 i 4 = lf N1 i 4) ∨ (lf N1 i 3 = -4 ∧ lf N2 i 3 = N1 6))
theorem OI.rf (N : Row) : OI N N := ⟨rfl, rfl, fun _ _ => rfl, fun _ _ _ => ⟨⟨rfl, rfl, rfl⟩, Or.inl ⟨rfl, rfl⟩⟩⟩
theorem OI.step {N1 N2 : Row} (h : OI N1 N2) (hN : NR N2) (k : Int) (hc : 0 < cnt N2 (N2 5).toNat) : OI N1 (out1 N2 k) := by
  obtain ⟨i, h1, h2, h3, h4⟩ := out1_i hN hc
  obtain ⟨a1, a2, a3, a4⟩ := h
  have hi0 : (0 : Int) ≤ (i : Int) := by omega
  unfold out1
  rw [h4]
  have ek : ∀ j : Nat, j < 7 → j ≠ 4 → goN (drN N2) (i : Int) k j = N2 j := fun j hj hj4 => by rw [goN_k hi0 hj, drN_k _ hj4]
  refine ⟨by rw [ek 5 (by decide) (by decide)]; exact a1, by rw [ek 6 (by decide) (by decide)]; exact a2, fun x hx => by rw [ek x (by omega) (by omega)]; exact a3 x hx, fun j hj hj5 => ?_⟩
  obtain ⟨⟨l0, l1, l2⟩, l3⟩ := a4 j hj hj5
  refine ⟨?_, ?_⟩
  · rw [goN_o hi0 hj (w := 0) (by omega) (Or.inr (by decide)), goN_o hi0 hj (w := 1) (by omega) (Or.inr (by decide)), goN_o hi0 hj (w := 2) (by omega) (Or.inr (by decide)), drN_lf _ hj (by decide), drN_lf _ hj (by decide), drN_lf _ hj (by decide)]
    exact ⟨l0, l1, l2⟩
  · by_cases e : j = i
    · subst e
      right
      rw [goN_3 hi0, drN_k _ (by decide)]
      refine ⟨?_, a2⟩
      rcases l3 with l3 | l3
      · rw [← l3.1]; exact h2
      · exact l3.1
    · rw [goN_o hi0 hj (w := 3) (by omega) (Or.inl e), goN_o hi0 hj (w := 4) (by omega) (Or.inl e), drN_lf _ hj (by decide), drN_lf _ hj (by decide)]
      exact l3
theorem OI.outs {N1 : Row} (hN : NR N1) : ∀ k : Nat, (k : Int) ≤ cnt N1 (N1 5).toNat → OI N1 (outsN N1 k) := by
  intro k
  induction k with
  | zero => intro _; exact OI.rf N1
  | succ k ih =>
    intro hk
    obtain ⟨g1, g2, g3⟩ := outs_f hN k (by omega)
    have e5 := g2 5 (by decide) (by decide)
    exact (ih (by omega)).step g1 k (by rw [e5, g3]; omega)
def L0 (N : Row) : Prop := ∀ i : Int, 0 ≤ i → i < N 5 → lf N i 2 ≤ N 6 ∧ (lf N i 3 = -4 ∨ (0 ≤ lf N i 3 ∧ lf N i 3 < N 6))
theorem rnd_facts {N1 N2 : Row} {n : Nat} (hL : L0 N1) (hO : OI N1 N2) (h6 : 0 ≤ N1 6) (hn : (n : Int) ≤ N1 5) :
    rof N2 (N1 6) 0 n = cnt N1 n ∧ rof N2 (N1 6) 1 n = cnt N1 n - cnt N2 n ∧ rof N2 (N1 6) 2 n = ow N1 n - ow N2 n ∧ rof N2 (N1 6) 3 n = cnt N1 n - ow N1 n ∧ rof N2 (N1 6) 4 n = cnt N1 n - cnt N2 n - (ow N1 n - ow N2 n) ∧ rof N2 (N1 6) 5 n = cP (fun i => lf N1 i 3 = -4 ∧ lf N1 i 0 = 8 ∧ lf N1 i 2 = N1 6) n := by
  obtain ⟨-, -, -, hO⟩ := hO
  have key : ∀ i : Int, 0 ≤ i → i < n → (lf N2 i 0 = lf N1 i 0 ∧ lf N2 i 2 = lf N1 i 2) ∧ (lf N1 i 2 ≤ N1 6) ∧ ((lf N2 i 3 = lf N1 i 3 ∧ (lf N1 i 3 = -4 ∨ (0 ≤ lf N1 i 3 ∧ lf N1 i 3 < N1 6))) ∨ (lf N1 i 3 = -4 ∧ lf N2 i 3 = N1 6)) := by
    intro i a b
    have q1 := hL i a (by omega)
    have q2 := hO i a (by omega)
    omega
  have s1 := cP_split (fun i => lf N1 i 3 = -4) (fun i => lf N2 i 3 = -4) n
  have s2 := cP_split (fun i => lf N1 i 3 = -4 ∧ lf N1 i 0 = 9) (fun i => lf N2 i 3 = -4) n
  have s3 := cP_split (fun i => lf N1 i 3 = -4) (fun i => lf N1 i 0 = 9) n
  have s4 := cP_split (fun i => lf N2 i 3 = N1 6) (fun i => lf N1 i 0 = 9) n
  have c2 : cnt N2 n = cP (fun i => lf N1 i 3 = -4 ∧ lf N2 i 3 = -4) n := by
    rw [cnt_cP]
    exact cP_ext (fun i a b => by have := key i a b; omega)
  have o2 : ow N2 n = cP (fun i => (lf N1 i 3 = -4 ∧ lf N1 i 0 = 9) ∧ lf N2 i 3 = -4) n := cP_ext (fun i a b => by have := key i a b; omega)
  have e1 : rof N2 (N1 6) 1 n = cP (fun i => lf N1 i 3 = -4 ∧ ¬ lf N2 i 3 = -4) n := by
    rw [rof_cP]; exact cP_ext (fun i a b => by have := key i a b; unfold rofP; omega)
  have e2 : rof N2 (N1 6) 2 n = cP (fun i => (lf N1 i 3 = -4 ∧ lf N1 i 0 = 9) ∧ ¬ lf N2 i 3 = -4) n := by
    rw [rof_cP]; exact cP_ext (fun i a b => by have := key i a b; unfold rofP; omega)
  have e4 : rof N2 (N1 6) 4 n = cP (fun i => lf N2 i 3 = N1 6 ∧ ¬ lf N1 i 0 = 9) n := by
    rw [rof_cP]; exact cP_ext (fun i a b => by have := key i a b; unfold rofP; omega)
  have e4a : cP (fun i => lf N2 i 3 = N1 6) n = cP (fun i => lf N1 i 3 = -4 ∧ ¬ lf N2 i 3 = -4) n := cP_ext (fun i a b => by have := key i a b; omega)
  have e4b : cP (fun i => lf N2 i 3 = N1 6 ∧ lf N1 i 0 = 9) n = cP (fun i => (lf N1 i 3 = -4 ∧ lf N1 i 0 = 9) ∧ ¬ lf N2 i 3 = -4) n := cP_ext (fun i a b => by have := key i a b; omega)
  have e3 : rof N2 (N1 6) 3 n = cP (fun i => lf N1 i 3 = -4 ∧ ¬ lf N1 i 0 = 9) n := by
    rw [rof_cP]; exact cP_ext (fun i a b => by have := key i a b; unfold rofP wasP; omega)
  have o1 : ow N1 n = cP (fun i => lf N1 i 3 = -4 ∧ lf N1 i 0 = 9) n := rfl
  rw [← cnt_cP] at s1 s3
  refine ⟨?_, ?_, ?_, ?_, ?_, ?_⟩
  · rw [rof_cP, cnt_cP]; exact cP_ext (fun i a b => by have := key i a b; unfold rofP wasP; omega)
  · omega
  · omega
  · omega
  · omega
  · rw [rof_cP]; exact cP_ext (fun i a b => by have := key i a b; unfold rofP wasP; omega)
/-- the row with its round counted -/
theorem up6_lf (N : Row) (x : Int) {i w : Int} (hi : 0 ≤ i) (hw : 0 ≤ w) : lf (up N 6 x) i w = lf N i w := by unfold lf; exact up_n (by omega)
theorem up6_rof (N : Row) (x r v : Int) (n : Nat) : rof (up N 6 x) r v n = rof N r v n := by
  rw [rof_cP, rof_cP]
  refine cP_ext (fun i a _ => ?_)
  unfold rofP wasP
  rw [up6_lf _ _ a (by decide), up6_lf _ _ a (by decide), up6_lf _ _ a (by decide)]
theorem up6_lout (N : Row) (x r k : Int) (n : Nat) : lout (up N 6 x) r k n = lout N r k n := lout_ext (fun i a _ => by rw [up6_lf _ _ a (by decide), up6_lf _ _ a (by decide)])
theorem up6_cnt (N : Row) (x : Int) (n : Nat) : cnt (up N 6 x) n = cnt N n := cnt_ext (fun i _ => by rw [up6_lf _ _ (by omega) (by decide)])
theorem up6_sat (N : Row) (x k : Int) (n : Nat) : sat (up N 6 x) k n = sat N k n := sat_ext (fun i _ => by rw [up6_lf _ _ (by omega) (by decide)])
def rndB (B : Bk) (f0 f1 f2 f3 f4 f5 : Int) : Bk := ub (ub (ub (ub (ub (ub (ub B 11 (B 10 0 * 6 + 0).toNat f0) 11 (B 10 0 * 6 + 1).toNat f1) 11 (B 10 0 * 6 + 2).toNat f2) 11 (B 10 0 * 6 + 3).toNat f3) 11 (B 10 0 * 6 + 4).toNat f4) 11 (B 10 0 * 6 + 5).toNat f5) 10 0 (B 10 0 + 1)
theorem BR.rnd {B : Bk} {N : Row} {f0 f1 f2 f3 f4 f5 : Int} (h : BR B N) (h6 : 0 ≤ N 6) (hc : CurO B N f1) (h15 : f1 ≤ 15)
    (e0 : rof N (N 6) 0 (N 5).toNat = f0) (e1 : rof N (N 6) 1 (N 5).toNat = f1) (e2 : rof N (N 6) 2 (N 5).toNat = f2) (e3 : rof N (N 6) 3 (N 5).toNat = f3) (e4 : rof N (N 6) 4 (N 5).toNat = f4) (e5 : rof N (N 6) 5 (N 5).toNat = f5) : BR (rndB B f0 f1 f2 f3 f4 f5) (up N 6 (N 6 + 1)) := by
  obtain ⟨a1, ⟨a2, a3, a4, a5⟩, a6, a7, a8, a9⟩ := h
  have k5 : up N 6 (N 6 + 1) 5 = N 5 := up_n (by decide)
  have k6 : up N 6 (N 6 + 1) 6 = N 6 + 1 := up_s _ _ _
  have hj : ∀ j x : Nat, j ≠ 10 → j ≠ 11 → rndB B f0 f1 f2 f3 f4 f5 j x = B j x := by
    intro j x hj hk
    unfold rndB
    rw [ub_j hj, ub_j hk, ub_j hk, ub_j hk, ub_j hk, ub_j hk, ub_j hk]
  refine ⟨fun x hx => ?_, ⟨?_, ?_, ?_, ?_⟩, fun j hj0 hj5 => ?_, fun x h0 h1 => ?_, fun r v b1 b2 b3 b4 => ?_, fun r x b1 b2 b3 b4 => ?_⟩
  · rw [hj _ _ (by decide) (by decide), up_n (by omega)]; exact a1 x hx
  · rw [hj _ _ (by decide) (by decide), up_n (by decide)]; exact a2
  · rw [hj _ _ (by decide) (by decide), k5]; exact a3
  · rw [hj _ _ (by decide) (by decide), k5, up6_cnt]; exact a4
  · unfold rndB; rw [ub_s, k6, a5]
  · rw [k5] at hj5
    rw [hj _ _ (by decide) (by decide), hj _ _ (by decide) (by decide), hj _ _ (by decide) (by decide), hj _ _ (by decide) (by decide), hj _ _ (by decide) (by decide), up6_lf _ _ hj0 (by decide), up6_lf _ _ hj0 (by decide), up6_lf _ _ hj0 (by decide), up6_lf _ _ hj0 (by decide), up6_lf _ _ hj0 (by decide)]
    exact a6 j hj0 hj5
  · rw [k5, up6_cnt] at h1
    rw [hj _ _ (by decide) (by decide), k5, up6_sat]
    exact a7 x h0 h1
  · rw [k6] at b2
    rw [k5, up6_rof]
    unfold rndB
    rw [ub_j (by decide), a5]
    by_cases hr : r = N 6
    · subst hr
      rcases (show v = 0 ∨ v = 1 ∨ v = 2 ∨ v = 3 ∨ v = 4 ∨ v = 5 by omega) with rfl | rfl | rfl | rfl | rfl | rfl
      · rw [ub_i (by omega), ub_i (by omega), ub_i (by omega), ub_i (by omega), ub_i (by omega), ub_s]; exact e0.symm
      · rw [ub_i (by omega), ub_i (by omega), ub_i (by omega), ub_i (by omega), ub_s]; exact e1.symm
      · rw [ub_i (by omega), ub_i (by omega), ub_i (by omega), ub_s]; exact e2.symm
      · rw [ub_i (by omega), ub_i (by omega), ub_s]; exact e3.symm
      · rw [ub_i (by omega), ub_s]; exact e4.symm
      · rw [ub_s]; exact e5.symm
    · rw [ub_i (by omega), ub_i (by omega), ub_i (by omega), ub_i (by omega), ub_i (by omega), ub_i (by omega)]
      exact a8 r v b1 (by omega) b3 b4
  · rw [k6] at b2
    rw [k5, up6_rof] at b4
    rw [k5, up6_lout, hj _ _ (by decide) (by decide)]
    by_cases hr : r = N 6
    · subst hr
      rw [e1] at b4
      obtain ⟨c1, c2⟩ := hc.2 x b3 b4
      exact ⟨c1, c2, by omega⟩
    · exact a9 r x b1 (by omega) b3 b4
