/-! ===== dummies, rows that can be ===== -/
theorem dum_L0 {N : Row} (h : NR N) (hL : L0 N) : ∀ d : Nat, N 5 + d ≤ 79 → L0 (dumN N d) := by
  intro d
  induction d with
  | zero => intro _; exact hL
  | succ d ih =>
    intro hd
    obtain ⟨g1, g2, g3, g4⟩ := dum_f h d (by omega)
    have h1 := ih (by omega)
    have h50 := h.2.2.2.2.2.2.1.1
    have e5 : drN (dumN N d) 5 = N 5 + d := by rw [drN_k _ (by decide), g2]
    have e6 : drN (dumN N d) 6 = N 6 := by rw [drN_k _ (by decide)]; exact g3 6 (by decide) (by decide) (by decide)
    have e6' : dumN N d 6 = N 6 := g3 6 (by decide) (by decide) (by decide)
    obtain ⟨n0, n1, n2, n3, n4⟩ := addN_new (N := drN (dumN N d)) (s := 8) (r := dr (dumN N d 4) / 65536 % 8) (by omega)
    intro i hi hi5
    have f5 : dumN N (d + 1) 5 = N 5 + (d + 1 : Nat) := (dum_f h (d + 1) (by omega)).2.1
    have f6 : dumN N (d + 1) 6 = N 6 := (dum_f h (d + 1) (by omega)).2.2.1 6 (by decide) (by decide) (by decide)
    rw [f5] at hi5
    rw [f6]
    show lf (addN _ _ _) i 2 ≤ N 6 ∧ (lf (addN _ _ _) i 3 = -4 ∨ (0 ≤ lf (addN _ _ _) i 3 ∧ lf (addN _ _ _) i 3 < N 6))
    by_cases e : i = N 5 + d
    · rw [e, ← e5, n2, n3, e6]; omega
    · rw [addN_old hi (by omega) (by decide) (by decide), addN_old hi (by omega) (by decide) (by decide), drN_lf _ hi (by decide), drN_lf _ hi (by decide)]
      have := h1 i hi (by rw [g2]; omega)
      rw [e6'] at this
      exact this
theorem dum_old {N : Row} (h : NR N) : ∀ d : Nat, N 5 + d ≤ 79 → ∀ i w : Int, 0 ≤ i → i < N 5 → 0 ≤ w → w < 5 → lf (dumN N d) i w = lf N i w := by
  intro d
  induction d with
  | zero => intro _ i w _ _ _ _; rfl
  | succ d ih =>
    intro hd i w hi hi5 hw hw5
    obtain ⟨g1, g2, g3, g4⟩ := dum_f h d (by omega)
    show lf (addN _ _ _) i w = _
    rw [addN_old hi (by rw [drN_k _ (by decide), g2]; omega) hw hw5, drN_lf _ hi hw]
    exact ih (by omega) i w hi hi5 hw hw5
theorem dum_new {N : Row} (h : NR N) : ∀ d : Nat, N 5 + d ≤ 79 → ∀ i : Int, N 5 ≤ i → i < N 5 + d → lf (dumN N d) i 0 = 8 ∧ (0 ≤ lf (dumN N d) i 1 ∧ lf (dumN N d) i 1 ≤ 7) ∧ lf (dumN N d) i 2 = N 6 ∧ lf (dumN N d) i 3 = -4 ∧ lf (dumN N d) i 4 = -4 := by
  have h50 := h.2.2.2.2.2.2.1.1
  intro d
  induction d with
  | zero => intro _ i _ _; omega
  | succ d ih =>
    intro hd i hi hi5
    obtain ⟨g1, g2, g3, g4⟩ := dum_f h d (by omega)
    have e5 : drN (dumN N d) 5 = N 5 + d := by rw [drN_k _ (by decide), g2]
    have e6 : drN (dumN N d) 6 = N 6 := by rw [drN_k _ (by decide)]; exact g3 6 (by decide) (by decide) (by decide)
    obtain ⟨n0, n1, n2, n3, n4⟩ := addN_new (N := drN (dumN N d)) (s := 8) (r := dr (dumN N d 4) / 65536 % 8) (by omega)
    have hx := dr_rg (dumN N d 4)
    show lf (addN _ _ _) i 0 = 8 ∧ (0 ≤ lf (addN _ _ _) i 1 ∧ lf (addN _ _ _) i 1 ≤ 7) ∧ lf (addN _ _ _) i 2 = N 6 ∧ lf (addN _ _ _) i 3 = -4 ∧ lf (addN _ _ _) i 4 = -4
    by_cases e : i = N 5 + d
    · rw [e, ← e5, n0, n1, n2, n3, n4, e6]; omega
    · rw [addN_old (by omega) (by omega) (by decide) (by decide), addN_old (by omega) (by omega) (by decide) (by decide), addN_old (by omega) (by omega) (by decide) (by decide), addN_old (by omega) (by omega) (by decide) (by decide), addN_old (by omega) (by omega) (by decide) (by decide), drN_lf _ (by omega) (by decide), drN_lf _ (by omega) (by decide), drN_lf _ (by omega) (by decide), drN_lf _ (by omega) (by decide), drN_lf _ (by omega) (by decide)]
      exact ih (by omega) i hi (by omega)
theorem dum_8 {N : Row} (h : NR N) (h8 : ∀ i : Int, 0 ≤ i → i < N 5 → lf N i 0 = 8 → lf N i 2 < N 6) : ∀ d : Nat, N 5 + d ≤ 79 → cP (fun i => lf (dumN N d) i 3 = -4 ∧ lf (dumN N d) i 0 = 8 ∧ lf (dumN N d) i 2 = N 6) (N 5 + d).toNat = d := by
  have h50 := h.2.2.2.2.2.2.1.1
  intro d hd
  have key : ∀ m : Nat, m ≤ d → cP (fun i => lf (dumN N d) i 3 = -4 ∧ lf (dumN N d) i 0 = 8 ∧ lf (dumN N d) i 2 = N 6) (N 5 + m).toNat = m := by
    intro m
    induction m with
    | zero =>
      intro _
      refine cP_none (fun i a b => ?_)
      rw [dum_old h d hd i 0 a (by omega) (by decide) (by decide), dum_old h d hd i 2 a (by omega) (by decide) (by decide)]
      rintro ⟨-, z1, z2⟩
      have := h8 i a (by omega) z1
      omega
    | succ m ih =>
      intro hm
      rw [show (N 5 + ((m + 1 : Nat) : Int)).toNat = (N 5 + m + 1).toNat by omega, cP_S _ (by omega), ih (by omega)]
      obtain ⟨z0, z1, z2, z3, z4⟩ := dum_new h d hd (N 5 + m) (by omega) (by omega)
      rw [← bC1 ⟨z3, z0, z2⟩]
      omega
  exact key d (Nat.le_refl d)
theorem rofP_congr {N N' : Row} {r v i : Int} (h0 : lf N' i 0 = lf N i 0) (h2 : lf N' i 2 = lf N i 2) (hw : wasP N' r i ↔ wasP N r i) (hg : lf N' i 3 = r ↔ lf N i 3 = r) : rofP N' r v i ↔ rofP N r v i := by
  unfold rofP
  rw [h0, h2, propext hw, propext hg]
theorem wasP_go {a b c r s : Int} (h3 : b = a ∨ (a = -4 ∧ b = s)) (hr : 0 ≤ r) (hs : r < s) : (c ≤ r ∧ (b = -4 ∨ r ≤ b)) ↔ (c ≤ r ∧ (a = -4 ∨ r ≤ a)) := by omega
theorem went_go {a b r s : Int} (h3 : b = a ∨ (a = -4 ∧ b = s)) (hr : 0 ≤ r) (hs : r < s) : b = r ↔ a = r := by omega
/-- a letter as it can be -/
def LI (N : Row) (i : Int) : Prop := (0 ≤ lf N i 0 ∧ lf N i 0 ≤ 9) ∧ (0 ≤ lf N i 1 ∧ lf N i 1 ≤ 7) ∧ (0 ≤ lf N i 2 ∧ lf N i 2 ≤ N 6) ∧ ((lf N i 3 = -4 ∧ lf N i 4 = -4) ∨ (lf N i 2 ≤ lf N i 3 ∧ lf N i 3 < N 6 ∧ 0 ≤ lf N i 4 ∧ lf N i 4 < rof N (lf N i 3) 1 (N 5).toNat)) ∧ (lf N i 0 = 8 → lf N i 2 < N 6)
/-- rows that calls can bring about -/
def WF (N : Row) : Prop := NR N ∧ cnt N (N 5).toNat ≤ 12 ∧ (∀ i : Int, 0 ≤ i → i < N 5 → LI N i) ∧ ∀ r : Int, 0 ≤ r → r < N 6 → 1 ≤ rof N r 1 (N 5).toNat ∧ rof N r 0 (N 5).toNat ≤ 15
theorem WF.l0 {N : Row} (h : WF N) : L0 N := by
  intro i hi hi5
  obtain ⟨l0, l1, l2, l3, l4⟩ := h.2.2.1 i hi hi5
  omega
theorem LI.ext {N N' : Row} {i : Int} (h : LI N i) (hl : ∀ w : Int, 0 ≤ w → w < 5 → lf N' i w = lf N i w) (h6 : N' 6 = N 6) (hr : ∀ r : Int, 0 ≤ r → r < N 6 → rof N' r 1 (N' 5).toNat = rof N r 1 (N 5).toNat) : LI N' i := by
  unfold LI at h ⊢
  rw [hl 0 (by decide) (by decide), hl 1 (by decide) (by decide), hl 2 (by decide) (by decide), hl 3 (by decide) (by decide), hl 4 (by decide) (by decide), h6]
  obtain ⟨l0, l1, l2, l3, l4⟩ := h
  refine ⟨l0, l1, l2, ?_, l4⟩
  rcases l3 with l3 | l3
  · exact Or.inl l3
  · exact Or.inr ⟨l3.1, l3.2.1, l3.2.2.1, by rw [hr _ (by omega) l3.2.1]; exact l3.2.2.2⟩
/-- only numbers ahead of the letters have changed -/
theorem WF.low {N N' : Row} (h : WF N) (hN : NR N') (h5 : N' 5 = N 5) (h6 : N' 6 = N 6) (hk : ∀ k : Nat, 7 ≤ k → N' k = N k) : WF N' := by
  obtain ⟨-, c1, c2, c3⟩ := h
  have hl : ∀ i w : Int, 0 ≤ i → 0 ≤ w → lf N' i w = lf N i w := fun i w a b => hk _ (by omega)
  have hr : ∀ r v : Int, rof N' r v (N 5).toNat = rof N r v (N 5).toNat := fun r v => by
    rw [rof_cP, rof_cP]
    refine cP_ext (fun i a _ => ?_)
    unfold rofP wasP
    rw [hl i 0 a (by decide), hl i 2 a (by decide), hl i 3 a (by decide)]
  refine ⟨hN, ?_, fun i a b => ?_, fun r a b => ?_⟩
  · rw [h5, cnt_ext (N := N) (fun i _ => by rw [hl _ _ (by omega) (by decide)])]; exact c1
  · rw [h5] at b
    exact (c2 i a b).ext (fun x w1 _ => hl i x a w1) h6 (fun r _ _ => by rw [h5, hr])
  · rw [h6] at b
    rw [h5, hr, hr]; exact c3 r a b
theorem WF.dr {N : Row} (h : WF N) : WF (drN N) := h.low h.1.dr (drN_k N (by decide)) (drN_k N (by decide)) (fun k hk => drN_k N (by omega))
/-- a letter has come, no round -/
theorem WF.add {N : Row} {s r0 : Int} (h : WF N) (h76 : N 5 < 79) (hs : 0 ≤ s ∧ s ≤ 9 ∧ s ≠ 8) (hr : 0 ≤ r0 ∧ r0 ≤ 7) (hc : cnt N (N 5).toNat < 12) : WF (addN N s r0) := by
  obtain ⟨c0, c1, c2, c3⟩ := h
  have h50 := c0.2.2.2.2.2.2.1.1
  have h60 := c0.2.2.2.2.2.2.2.1
  have e5 : addN N s r0 5 = N 5 + 1 := addN_5 _ _ _
  have e6 : addN N s r0 6 = N 6 := addN_k h50 (by decide) (by decide)
  obtain ⟨n0, n1, n2, n3, n4⟩ := addN_new (N := N) (s := s) (r := r0) h50
  refine ⟨c0.add h76 (by omega) (by omega), ?_, fun i a b => ?_, fun r a b => ?_⟩
  · rw [e5, addN_cnt h50]; omega
  · rw [e5] at b
    by_cases e : i = N 5
    · subst e
      unfold LI
      rw [n0, n1, n2, n3, n4, e6]
      omega
    · exact (c2 i a (by omega)).ext (fun x w1 w2 => addN_old a (by omega) w1 w2) e6 (fun r z1 z2 => by rw [e5, addN_rof h50 z1 z2])
  · rw [e6] at b
    rw [e5, addN_rof h50 a b, addN_rof h50 a b]
    exact c3 r a b
set_option maxHeartbeats 4000000 in
/-- after a round: N is the row as the round begins (the letter that came counted) -/
theorem WF.rnd {N : Row} (hN : NR N) (hd : N 5 + N 3 ≤ 79) (h15 : cnt N (N 5).toNat + N 3 ≤ 15) (h6 : N 6 < 12) (hg : 1 ≤ rndGo N ∧ rndGo N ≤ cnt (dumN N (N 3).toNat) (N 5 + N 3).toNat) (hleft : cnt N (N 5).toNat + N 3 - rndGo N ≤ 12)
    (c2 : ∀ i : Int, 0 ≤ i → i < N 5 → LI N i) (c3 : ∀ r : Int, 0 ≤ r → r < N 6 → 1 ≤ rof N r 1 (N 5).toNat ∧ rof N r 0 (N 5).toNat ≤ 15)
    (hP : ∀ i : Int, 0 ≤ i → i < N 5 + N 3 → lf (outsN (dumN N (N 3).toNat) (rndGo N).toNat) i 3 = N 6 → 0 ≤ lf (outsN (dumN N (N 3).toNat) (rndGo N).toNat) i 4 ∧ lf (outsN (dumN N (N 3).toNat) (rndGo N).toNat) i 4 < rndGo N) : WF (rndN N) := by
  obtain ⟨hr, i0, i1, i2, i3, i4, i5, i6⟩ := id hN
  obtain ⟨d1, d2, d3, d4⟩ := dum_f hN (N 3).toNat (by omega)
  have ed : (N 5 + ((N 3).toNat : Int)) = N 5 + N 3 := by omega
  rw [ed] at d2 d4
  have d6 : dumN N (N 3).toNat 6 = N 6 := d3 6 (by decide) (by decide) (by decide)
  have hgo : ((rndGo N).toNat : Int) ≤ cnt (dumN N (N 3).toNat) (dumN N (N 3).toNat 5).toNat := by rw [d2]; omega
  obtain ⟨g1, g2, g3⟩ := outs_f d1 (rndGo N).toNat hgo
  have hO := OI.outs d1 (rndGo N).toNat hgo
  have hL : L0 N := by
    intro i hi hi5
    obtain ⟨l0, l1, l2, l3, l4⟩ := c2 i hi hi5
    omega
  have hL1 := dum_L0 hN hL (N 3).toNat (by omega)
  have hf := rnd_facts (n := (N 5 + N 3).toNat) hL1 hO (by rw [d6]; omega) (by rw [d2]; omega)
  rw [d2] at g3
  obtain ⟨o5, o6, o7, o8⟩ := hO
  rw [d6] at hf o6
  rw [d2] at o5 o8
  rw [d6] at o8
  have u5 : rndN N 5 = N 5 + N 3 := by unfold rndN; rw [up_n (by decide), o5]
  have u6 : rndN N 6 = N 6 + 1 := by unfold rndN; rw [up_s]
  have ul : ∀ i x : Int, 0 ≤ i → 0 ≤ x → lf (rndN N) i x = lf (outsN (dumN N (N 3).toNat) (rndGo N).toNat) i x := fun i x a b => up6_lf _ _ a b
  have ur : ∀ r v : Int, ∀ n : Nat, rof (rndN N) r v n = rof (outsN (dumN N (N 3).toNat) (rndGo N).toNat) r v n := fun r v n => up6_rof _ _ _ _ _
  -- older rounds
  have old : ∀ r v : Int, 0 ≤ r → r < N 6 → rof (rndN N) r v (N 5 + N 3).toNat = rof N r v (N 5).toNat := by
    intro r v a b
    rw [ur, rof_cP, rof_cP]
    have e1 : cP (rofP (outsN (dumN N (N 3).toNat) (rndGo N).toNat) r v) (N 5 + N 3).toNat = cP (rofP (dumN N (N 3).toNat) r v) (N 5 + N 3).toNat := by
      refine cP_ext (fun i z1 z2 => ?_)
      have ho := o8 i z1 (by omega)
      have h3 : lf (outsN (dumN N (N 3).toNat) (rndGo N).toNat) i 3 = lf (dumN N (N 3).toNat) i 3 ∨ (lf (dumN N (N 3).toNat) i 3 = -4 ∧ lf (outsN (dumN N (N 3).toNat) (rndGo N).toNat) i 3 = N 6) := by
        rcases ho.2 with q | q
        · exact Or.inl q.1
        · exact Or.inr q
      refine rofP_congr ho.1.1 ho.1.2.2 ?_ (went_go h3 a b)
      unfold wasP
      rw [ho.1.2.2]
      exact wasP_go h3 a b
    rw [e1]
    have e2 : ∀ m : Nat, m ≤ (N 3).toNat → cP (rofP (dumN N (N 3).toNat) r v) (N 5 + m).toNat = cP (rofP N r v) (N 5).toNat := by
      intro m
      induction m with
      | zero =>
        intro _
        rw [show (N 5 + ((0 : Nat) : Int)).toNat = (N 5).toNat by omega]
        refine cP_ext (fun i z1 z2 => ?_)
        unfold rofP wasP
        rw [dum_old hN _ (by omega) i 0 z1 (by omega) (by decide) (by decide), dum_old hN _ (by omega) i 2 z1 (by omega) (by decide) (by decide), dum_old hN _ (by omega) i 3 z1 (by omega) (by decide) (by decide)]
      | succ m ih =>
        intro hm
        rw [show (N 5 + ((m + 1 : Nat) : Int)).toNat = (N 5 + m + 1).toNat by omega, cP_S _ (by omega), ih (by omega)]
        obtain ⟨z0, z1, z2, z3, z4⟩ := dum_new hN _ (show N 5 + ((N 3).toNat : Int) ≤ 79 by omega) (N 5 + m) (by omega) (by omega)
        have : ¬ rofP (dumN N (N 3).toNat) r v (N 5 + m) := by unfold rofP wasP; rw [z0, z2, z3]; omega
        rw [← bC0 this, Int.add_zero]
    have := e2 (N 3).toNat (Nat.le_refl _)
    rw [ed] at this
    exact this
  refine ⟨rnd_NR hN hd h6 (by omega), ?_, fun i a b => ?_, fun r a b => ?_⟩
  · rw [u5]
    have : cnt (rndN N) (N 5 + N 3).toNat = cnt (outsN (dumN N (N 3).toNat) (rndGo N).toNat) (N 5 + N 3).toNat := up6_cnt _ _ _
    rw [this, g3, d4]
    omega
  · rw [u5] at b
    obtain ⟨⟨p0, p1, p2⟩, p3⟩ := o8 i a (by omega)
    unfold LI
    rw [ul i 0 a (by decide), ul i 1 a (by decide), ul i 2 a (by decide), ul i 3 a (by decide), ul i 4 a (by decide), u6, u5, p0, p1, p2]
    have cases : (i < N 5 ∧ LI N i ∧ (∀ x : Int, 0 ≤ x → x < 5 → lf (dumN N (N 3).toNat) i x = lf N i x)) ∨ (N 5 ≤ i) := by
      by_cases q : i < N 5
      · exact Or.inl ⟨q, c2 i a q, fun x w1 w2 => dum_old hN _ (by omega) i x a q w1 w2⟩
      · exact Or.inr (by omega)
    have base : (0 ≤ lf (dumN N (N 3).toNat) i 0 ∧ lf (dumN N (N 3).toNat) i 0 ≤ 9) ∧ (0 ≤ lf (dumN N (N 3).toNat) i 1 ∧ lf (dumN N (N 3).toNat) i 1 ≤ 7) ∧ (0 ≤ lf (dumN N (N 3).toNat) i 2 ∧ lf (dumN N (N 3).toNat) i 2 ≤ N 6) ∧ ((lf (dumN N (N 3).toNat) i 3 = -4 ∧ lf (dumN N (N 3).toNat) i 4 = -4) ∨ (lf (dumN N (N 3).toNat) i 2 ≤ lf (dumN N (N 3).toNat) i 3 ∧ lf (dumN N (N 3).toNat) i 3 < N 6 ∧ 0 ≤ lf (dumN N (N 3).toNat) i 4 ∧ lf (dumN N (N 3).toNat) i 4 < rof N (lf (dumN N (N 3).toNat) i 3) 1 (N 5).toNat)) := by
      rcases cases with ⟨q1, q2, q3⟩ | q
      · rw [q3 0 (by decide) (by decide), q3 1 (by decide) (by decide), q3 2 (by decide) (by decide), q3 3 (by decide) (by decide), q3 4 (by decide) (by decide)]
        exact ⟨q2.1, q2.2.1, q2.2.2.1, q2.2.2.2.1⟩
      · obtain ⟨z0, z1, z2, z3, z4⟩ := dum_new hN _ (show N 5 + ((N 3).toNat : Int) ≤ 79 by omega) i q (by omega)
        rw [z0, z2, z3, z4]
        exact ⟨by omega, z1, by omega, Or.inl ⟨rfl, rfl⟩⟩
    refine ⟨base.1, base.2.1, by omega, ?_, fun _ => by omega⟩
    rcases p3 with ⟨p3, p4⟩ | ⟨p3, p4⟩
    · rw [p3, p4]
      rcases base.2.2.2 with z | z
      · exact Or.inl z
      · right
        refine ⟨z.1, by omega, z.2.2.1, ?_⟩
        rw [old _ 1 (by omega) z.2.1]
        exact z.2.2.2
    · right
      rw [p4]
      have hh := hP i a b p4
      refine ⟨base.2.2.1.2, by omega, hh.1, ?_⟩
      rw [ur, hf.2.1, g3]
      omega
  · rw [u6] at b
    rw [u5]
    by_cases e : r = N 6
    · subst e
      rw [ur, ur, hf.1, hf.2.1, g3]
      omega
    · rw [old r 0 a (by omega), old r 1 a (by omega)]
      exact c3 r a (by omega)
