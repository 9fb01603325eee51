/-! ===== the class's state: its Book tells N, its Past the rows A ===== -/
def CS (S : St) (N A : Row) : Prop := BR (S 1) N ∧ WF N ∧ PR S 15 A ∧ Rg A
def FrC (S S1 : St) : Prop := ∀ c, c ≠ 1 → c ≠ 15 → ¬ (2 ≤ c ∧ c ≤ 7) → S1 c = S c
theorem FrC.rf (S : St) : FrC S S := fun _ _ _ _ => rfl
theorem FrC.tr {S S1 S2 : St} (h : FrC S S1) (h2 : FrC S1 S2) : FrC S S2 := fun c a b d => (h2 c a b d).trans (h c a b d)
theorem FrC.sbF {S S1 : St} (h : FrC S S1) (B : Bk) : FrC S (sB S1 1 B) := fun c a b d => by rw [sB_c a]; exact h c a b d
theorem PR.sbP {S : St} {A : Row} (h : PR S 15 A) (B : Bk) : PR (sB S 1 B) 15 A := by
  obtain ⟨p1, p2, p3⟩ := h
  have e : sB S 1 B 15 = S 15 := sB_c (by decide)
  unfold PR
  rw [e]
  refine ⟨p1, p2, fun k h0 h1 => ?_⟩
  rw [sB_c (by rw [rf_15]; omega)]
  exact p3 k h0 h1
theorem PR.fr {S S1 : St} {A : Row} (h : PR S 15 A) (hf : ∀ c, (c = 15 ∨ (2 ≤ c ∧ c ≤ 7)) → S1 c = S c) : PR S1 15 A := by
  obtain ⟨p1, p2, p3⟩ := h
  unfold PR
  rw [hf 15 (Or.inl rfl)]
  refine ⟨p1, p2, fun k h0 h1 => ?_⟩
  rw [hf _ (by right; rw [rf_15]; omega)]
  exact p3 k h0 h1
theorem PR.fr16 {S S1 : St} {A : Row} (h : PR S 16 A) (hf : ∀ c, (c = 16 ∨ (9 ≤ c ∧ c ≤ 14)) → S1 c = S c) : PR S1 16 A := by
  obtain ⟨p1, p2, p3⟩ := h
  unfold PR
  rw [hf 16 (Or.inl rfl)]
  refine ⟨p1, p2, fun k h0 h1 => ?_⟩
  rw [hf _ (by right; rw [rf_16]; omega)]
  exact p3 k h0 h1
theorem PR.eq {S : St} {p : Nat} {A A' : Row} (h : PR S p A) (he : ∀ x, x < 2412 → A' x = A x) (hA : Rg A') : PR S p A' := by
  obtain ⟨p1, p2, p3⟩ := h
  refine ⟨p1, p2, fun k h0 h1 => ?_⟩
  obtain ⟨z1, z2⟩ := p3 k h0 h1
  have ex : ∀ x, x < 402 → rowA A' k x = rowA A k x := fun x hx => he _ (by omega)
  exact ⟨z1.eq402 ex z2.1.2.2.2.2.2.2.1, z2.eq402 ex (fun x => hA _)⟩
theorem CS.sbC {S : St} {N N1 A : Row} {B : Bk} (h : CS S N A) (hB : BR B N1) (hW : WF N1) : CS (sB S 1 B) N1 A := ⟨by rw [sB_s]; exact hB, hW, h.2.2.1.sbP B, h.2.2.2⟩
theorem sB_15 (S : St) (B : Bk) : sB S 1 B 15 2 0 = S 15 2 0 := by rw [sB_c (by decide)]
theorem CS.rem {S S1 : St} {N A A1 : Row} (h : CS S N A) (h1 : PR S1 15 A1) (hA : Rg A1) (hf : ∀ c, c ≠ 15 → ¬ (2 ≤ c ∧ c ≤ 7) → S1 c = S c) : CS S1 N A1 ∧ FrC S S1 := ⟨⟨by rw [hf 1 (by decide) (by decide)]; exact h.1, h.2.1, h1, hA⟩, fun c _ b d => hf c b d⟩
theorem NR.tell {N : Row} {v x : Int} (h : NR N) (ht : toldOk v x) : NR (up N v.toNat x) := by
  obtain ⟨hr, i0, i1, i2, i3, i4, i5, i6⟩ := h
  unfold toldOk at ht
  refine ⟨fun k => ?_, ?_⟩
  · unfold up; split
    · omega
    · exact hr k
  · rcases ht with ⟨rfl, a, b⟩ | ⟨rfl, a, b⟩ | ⟨rfl, a, b⟩ | ⟨rfl, a, b⟩ <;> simp [up] <;> omega
theorem up_lf {N : Row} {k : Nat} {x i v : Int} (hk : k < 7) (hi : 0 ≤ i) (hv : 0 ≤ v) : lf (up N k x) i v = lf N i v := by unfold lf; exact up_n (by omega)
theorem up_rof {N : Row} {k : Nat} {x : Int} (hk : k < 7) (r v : Int) (n : Nat) : rof (up N k x) r v n = rof N r v n := by
  rw [rof_cP, rof_cP]
  refine cP_ext (fun i a b => ?_)
  unfold rofP wasP
  rw [up_lf hk a (by decide), up_lf hk a (by decide), up_lf hk a (by decide)]
theorem up_lout {N : Row} {k : Nat} {x : Int} (hk : k < 7) (r v : Int) (n : Nat) : lout (up N k x) r v n = lout N r v n := lout_ext (fun i a _ => by rw [up_lf hk a (by decide), up_lf hk a (by decide)])
theorem up_cnt {N : Row} {k : Nat} {x : Int} (hk : k < 7) (n : Nat) : cnt (up N k x) n = cnt N n := cnt_ext (fun i _ => by rw [up_lf hk (by omega) (by decide)])
theorem up_sat {N : Row} {k : Nat} {x : Int} (hk : k < 7) (v : Int) (n : Nat) : sat (up N k x) v n = sat N v n := sat_ext (fun i _ => by rw [up_lf hk (by omega) (by decide)])
theorem BR.upR {B B1 : Bk} {N : Row} {k : Nat} {x : Int} (h : BR B N) (hk : k < 5) (h0 : ∀ j : Nat, j < 4 → B1 0 j = up N k x j) (h1 : B1 1 0 = up N k x 4) (hj : ∀ j i, j ≠ 0 → j ≠ 1 → B1 j i = B j i) : BR B1 (up N k x) := by
  obtain ⟨a1, ⟨a2, a3, a4, a5⟩, a6, a7, a8, a9⟩ := h
  have hk7 : k < 7 := by omega
  have e5 : up N k x 5 = N 5 := up_n (by omega)
  have e6 : up N k x 6 = N 6 := up_n (by omega)
  unfold BR
  rw [e5, e6, up_cnt hk7]
  refine ⟨h0, ⟨h1, by rw [hj 2 0 (by decide) (by decide)]; exact a3, by rw [hj 8 0 (by decide) (by decide)]; exact a4, by rw [hj 10 0 (by decide) (by decide)]; exact a5⟩, fun i c d => ?_, fun z c d => ?_, fun r v c1 c2 c3 c4 => ?_, fun r v c1 c2 c3 c4 => ?_⟩
  · rw [hj 3 _ (by decide) (by decide), hj 4 _ (by decide) (by decide), hj 5 _ (by decide) (by decide), hj 6 _ (by decide) (by decide), hj 7 _ (by decide) (by decide), up_lf hk7 c (by decide), up_lf hk7 c (by decide), up_lf hk7 c (by decide), up_lf hk7 c (by decide), up_lf hk7 c (by decide)]
    exact a6 i c d
  · rw [hj 9 _ (by decide) (by decide), up_sat hk7]; exact a7 z c d
  · rw [hj 11 _ (by decide) (by decide), up_rof hk7]; exact a8 r v c1 c2 c3 c4
  · rw [up_rof hk7] at c4
    rw [hj 12 _ (by decide) (by decide), up_lout hk7]; exact a9 r v c1 c2 c3 c4
theorem BR.tell {B : Bk} {N : Row} {v : Nat} {x : Int} (h : BR B N) (hv : v < 4) : BR (ub B 0 v x) (up N v x) := by
  refine h.upR (by omega) (fun j hj => ?_) ?_ (fun j i a b => ub_j a)
  · unfold ub up
    by_cases e : j = v
    · rw [if_pos ⟨rfl, e⟩, if_pos e]
    · rw [if_neg (fun q => e q.2), if_neg e]; exact h.1 j hj
  · rw [ub_j (by decide), up_n (by omega)]; exact h.2.1.1
theorem BR.seed {B : Bk} {N : Row} {x : Int} (h : BR B N) : BR (ub B 1 0 x) (up N 4 x) := by
  refine h.upR (by omega) (fun j hj => ?_) ?_ (fun j i a b => ub_j b)
  · rw [ub_j (by decide), up_n (by omega)]; exact h.1 j hj
  · rw [ub_s, up_s]
theorem WF.tell {N : Row} {v x : Int} (h : WF N) (ht : toldOk v x) : WF (up N v.toNat x) := by
  have hv : v.toNat < 4 := by unfold toldOk at ht; omega
  exact h.low (h.1.tell ht) (up_n (by omega)) (up_n (by omega)) (fun k hk => up_n (by omega))
theorem WF.seed {N : Row} {x : Int} (h : WF N) (hx : 0 ≤ x ∧ x < 2147483648) : WF (up N 4 x) := by
  refine h.low ?_ (up_n (by omega)) (up_n (by omega)) (fun k hk => up_n (by omega))
  obtain ⟨hr, i0, i1, i2, i3, i4, i5, i6⟩ := h.1
  refine ⟨fun k => ?_, ?_⟩
  · unfold up; split
    · omega
    · exact hr k
  · simp [up]; omega
def begN (N : Row) : Row := up (up N 5 0) 6 0
theorem begN_5 (N : Row) : begN N 5 = 0 := by unfold begN; rw [up_n (by decide), up_s]
theorem begN_6 (N : Row) : begN N 6 = 0 := up_s _ _ _
theorem begN_k {N : Row} {k : Nat} (h5 : k ≠ 5) (h6 : k ≠ 6) : begN N k = N k := by unfold begN; rw [up_n h6, up_n h5]
theorem BR.beg {B : Bk} {N : Row} (h : BR B N) : BR (ub (ub (ub B 2 0 0) 8 0 0) 10 0 0) (begN N) := by
  obtain ⟨a1, ⟨a2, a3, a4, a5⟩, a6, a7, a8, a9⟩ := h
  unfold BR
  rw [begN_5, begN_6]
  refine ⟨fun k hk => ?_, ⟨?_, ?_, ?_, ?_⟩, fun i c d => by omega, fun k c d => ?_, fun r v c1 c2 c3 c4 => by omega, fun r v c1 c2 c3 c4 => by omega⟩
  · rw [begN_k (by omega) (by omega), ub_j (by decide), ub_j (by decide), ub_j (by decide)]; exact a1 k hk
  · rw [begN_k (by omega) (by omega), ub_j (by decide), ub_j (by decide), ub_j (by decide)]; exact a2
  · rw [ub_j (by decide), ub_j (by decide), ub_s]
  · rw [ub_j (by decide), ub_s]; rfl
  · rw [ub_s]
  · have e : cnt (begN N) (0 : Int).toNat = 0 := rfl
    rw [e] at d; omega
theorem WF.beg {N : Row} (h : WF N) : WF (begN N) := by
  obtain ⟨hr, i0, i1, i2, i3, i4, i5, i6⟩ := h.1
  refine ⟨⟨fun k => ?_, ?_, ?_, ?_, ?_, ?_, ?_, ?_⟩, ?_, fun i c d => ?_, fun r c d => ?_⟩
  · by_cases e5 : k = 5
    · subst e5; rw [begN_5]; omega
    by_cases e6 : k = 6
    · subst e6; rw [begN_6]; omega
    rw [begN_k e5 e6]; exact hr k
  · rw [begN_k (by decide) (by decide)]; exact i0
  · rw [begN_k (by decide) (by decide)]; exact i1
  · rw [begN_k (by decide) (by decide)]; exact i2
  · rw [begN_k (by decide) (by decide)]; exact i3
  · rw [begN_k (by decide) (by decide)]; exact i4
  · rw [begN_5]; omega
  · rw [begN_6]; omega
  · rw [begN_5]; show (0 : Int) ≤ 12; omega
  · rw [begN_5] at d; omega
  · rw [begN_6] at d; omega
theorem tick_go {N : Row} {z : Int} {N1 : Row} (hN : NR N) (h : TickR N z N1) (hf : ¬ FullP N) : 0 ≤ z := by
  have h3 := hN.2.2.2.2.1
  rcases h with ⟨a, -⟩ | ⟨a, b, rfl, -⟩ | ⟨a, b, rfl, -⟩
  · exact absurd a hf
  · decide
  · have := rnd_rg hN b (by unfold FullP at hf; omega); omega
theorem come_go {N : Row} {s r0 z : Int} {N1 : Row} (hN : NR N) (hs : 0 ≤ s ∧ s ≤ 9) (hr0 : 0 ≤ r0 ∧ r0 ≤ 7) (h : ComeR N s r0 z N1) (hf : ¬ (FullP N ∨ 12 ≤ cnt N (N 5).toNat)) : 0 ≤ z := by
  have h3 := hN.2.2.2.2.1
  have h5 := hN.2.2.2.2.2.2.1
  rcases h with ⟨a, -⟩ | ⟨a, b, rfl, -⟩ | ⟨a, b, rfl, -⟩
  · exact absurd a hf
  · decide
  · have hf2 : N 5 < 76 := by unfold FullP at hf; omega
    have hN1 : NR (addN N s r0) := hN.add (by omega) (by omega) (by omega)
    have e5 : addN N s r0 5 = N 5 + 1 := addN_5 _ _ _
    have e0 : addN N s r0 0 = N 0 := addN_k h5.1 (by decide) (by decide)
    have e3 : addN N s r0 3 = N 3 := addN_k h5.1 (by decide) (by decide)
    have ec : cnt (addN N s r0) (addN N s r0 5).toNat = cnt N (N 5).toNat + 1 := by rw [e5]; exact addN_cnt h5.1
    rw [← ec, ← e0] at b
    have := rnd_rg hN1 b (by omega); omega
theorem tickF_full {N : Row} (h : FullP N) : tickF N = (-3, N) := by unfold tickF; rw [cif_pos h]
theorem comeF_full {N : Row} {s r : Int} (h : FullP N ∨ 12 ≤ cnt N (N 5).toNat) : comeF N s r = (-3, N) := by unfold comeF; rw [cif_pos h]
section XWrite
variable {G : GT} {S : St} {N A : Row}
theorem c_X_come (a r : Int) (ha : -2147483648 ≤ a ∧ a < 2147483648) (hb : -2147483648 ≤ r ∧ r < 2147483648) (hC : CS S N A) : Fn G k_X_come [oR G 0, vI a, vI r] S (PI (fun z S1 => (¬ comeOk a r ∧ z = -1 ∧ S1 = S) ∨ (comeOk a r ∧ (FullP N ∨ 12 ≤ cnt N (N 5).toNat) ∧ z = -3 ∧ S1 = S) ∨ (comeOk a r ∧ ¬ (FullP N ∨ 12 ≤ cnt N (N 5).toNat) ∧ ∃ N1, ComeR N a r z N1 ∧ CS S1 N1 (noteA A (S 15 2 0) N) ∧ S1 15 2 0 = noteU (S 15 2 0) ∧ FrC S S1))) := by
  obtain ⟨hB, hW, hP, hA⟩ := id hC
  have hN := hW.1
  have hc : 1 ≤ 1 ∧ 1 ≤ 14 := by decide
  obtain ⟨a1, ⟨a2, a3, a4, a5⟩, a6, a7, a8, a9⟩ := id hB
  obtain ⟨hr, i0, i1, i2, i3, i4, i5, i6⟩ := id hN
  have hc0 := cnt_0 N (N 5).toNat
  have hc12 := hW.2.1
  obtain ⟨p1, p2, p3⟩ := id hP
  refine Fn.of [some (oR G 0), some (vI a), some (vI r)] 0 rfl (by decide +kernel) rfl (Nat.le_of_ble_eq_true rfl) (by decide) ?_
  refine Go_iload d_X_come_0 lg1 ?_
  refine Go_const d_X_come_1 ?_
  refine Go_const d_X_come_2 ?_
  refine Go_S3p d_X_come_4 (c_X_within _ _ _ (by omega) (by omega) (by omega)) (Nat.le_of_ble_eq_true rfl) ?_
  refine Go_ifne_d d_X_come_7 (fun h7 => ?_) (fun h7 => ?_)
  · refine Go_iload d_X_come_16 lg2 ?_
    refine Go_const d_X_come_17 ?_
    refine Go_const d_X_come_18 ?_
    refine Go_S3p d_X_come_20 (c_X_within _ _ _ (by omega) (by omega) (by omega)) (Nat.le_of_ble_eq_true rfl) ?_
    refine Go_ifne_d d_X_come_23 (fun h23 => ?_) (fun h23 => ?_)
    · refine Go_aload d_X_come_28 lg0 ⟨_, rfl⟩ ?_
      refine Go_get d_X_come_29 fx_0 ?_
      refine Go_V0p d_X_come_32 (kB (by first | assumption | decide | omega)) (c_B_takesLetter (by first | assumption | decide) hB hN) (Nat.le_of_ble_eq_true rfl) ?_
      refine Go_ifne_d d_X_come_35 (fun h35 => ?_) (fun h35 => ?_)
      · refine Go_aload d_X_come_41 lg0 ⟨_, rfl⟩ ?_
        refine Go_get d_X_come_42 fx_1 ?_
        refine Go_aload d_X_come_45 lg0 ⟨_, rfl⟩ ?_
        refine Go_get d_X_come_46 fx_0 ?_
        refine Go_V1n d_X_come_49 (kP (by first | assumption | decide | omega)) (c_P_remember hB hW hP hA) (Nat.le_of_ble_eq_true rfl) ?_
        rintro S1 ⟨q1, q2, q3⟩
        obtain ⟨hC1, hF1⟩ := hC.rem q1 (hA.note hr _) q3
        refine Go_aload d_X_come_52 lg0 ⟨_, rfl⟩ ?_
        refine Go_get d_X_come_53 fx_0 ?_
        refine Go_iload d_X_come_56 lg1 ?_
        refine Go_iload d_X_come_57 lg2 ?_
        refine Go_V2i d_X_come_58 (kB (by first | assumption | decide | omega)) (c_B_takeLetter _ _ (by decide) hC1.1 hW (by omega) (by omega) h35) (Nat.le_of_ble_eq_true rfl) ?_
        rintro z S2 ⟨N1, B1, r1, r2, rfl, r3⟩
        exact Go_iretI d_X_come_61 (Or.inr (Or.inr ⟨⟨by omega, by omega⟩, h35, N1, r1, hC1.sbC r3 r2, by rw [sB_15]; exact q2, hF1.sbF _⟩))
      · refine Go_const d_X_come_38 ?_
        exact Go_iretI d_X_come_40 (Or.inr (Or.inl ⟨⟨by omega, by omega⟩, Classical.byContradiction h35, rfl, rfl⟩))
    · refine Go_const d_X_come_26 ?_
      exact Go_iretI d_X_come_27 (Or.inl ⟨fun q => by unfold comeOk at q; omega, rfl, rfl⟩)
  · refine Go_iload d_X_come_10 lg1 ?_
    refine Go_const d_X_come_11 ?_
    refine Go_icmp_ne d_X_come_13 (by omega) (by omega) (fun h13 => ?_) (fun h13 => ?_)
    · refine Go_const d_X_come_26 ?_
      exact Go_iretI d_X_come_27 (Or.inl ⟨fun q => by unfold comeOk at q; omega, rfl, rfl⟩)
    · refine Go_iload d_X_come_16 lg2 ?_
      refine Go_const d_X_come_17 ?_
      refine Go_const d_X_come_18 ?_
      refine Go_S3p d_X_come_20 (c_X_within _ _ _ (by omega) (by omega) (by omega)) (Nat.le_of_ble_eq_true rfl) ?_
      refine Go_ifne_d d_X_come_23 (fun h23 => ?_) (fun h23 => ?_)
      · refine Go_aload d_X_come_28 lg0 ⟨_, rfl⟩ ?_
        refine Go_get d_X_come_29 fx_0 ?_
        refine Go_V0p d_X_come_32 (kB (by first | assumption | decide | omega)) (c_B_takesLetter (by first | assumption | decide) hB hN) (Nat.le_of_ble_eq_true rfl) ?_
        refine Go_ifne_d d_X_come_35 (fun h35 => ?_) (fun h35 => ?_)
        · refine Go_aload d_X_come_41 lg0 ⟨_, rfl⟩ ?_
          refine Go_get d_X_come_42 fx_1 ?_
          refine Go_aload d_X_come_45 lg0 ⟨_, rfl⟩ ?_
          refine Go_get d_X_come_46 fx_0 ?_
          refine Go_V1n d_X_come_49 (kP (by first | assumption | decide | omega)) (c_P_remember hB hW hP hA) (Nat.le_of_ble_eq_true rfl) ?_
          rintro S1 ⟨q1, q2, q3⟩
          obtain ⟨hC1, hF1⟩ := hC.rem q1 (hA.note hr _) q3
          refine Go_aload d_X_come_52 lg0 ⟨_, rfl⟩ ?_
          refine Go_get d_X_come_53 fx_0 ?_
          refine Go_iload d_X_come_56 lg1 ?_
          refine Go_iload d_X_come_57 lg2 ?_
          refine Go_V2i d_X_come_58 (kB (by first | assumption | decide | omega)) (c_B_takeLetter _ _ (by decide) hC1.1 hW (by omega) (by omega) h35) (Nat.le_of_ble_eq_true rfl) ?_
          rintro z S2 ⟨N1, B1, r1, r2, rfl, r3⟩
          exact Go_iretI d_X_come_61 (Or.inr (Or.inr ⟨⟨by omega, by omega⟩, h35, N1, r1, hC1.sbC r3 r2, by rw [sB_15]; exact q2, hF1.sbF _⟩))
        · refine Go_const d_X_come_38 ?_
          exact Go_iretI d_X_come_40 (Or.inr (Or.inl ⟨⟨by omega, by omega⟩, Classical.byContradiction h35, rfl, rfl⟩))
      · refine Go_const d_X_come_26 ?_
        exact Go_iretI d_X_come_27 (Or.inl ⟨fun q => by unfold comeOk at q; omega, rfl, rfl⟩)
theorem c_X_tick (hC : CS S N A) : Fn G k_X_tick [oR G 0] S (PI (fun z S1 => (FullP N ∧ z = -3 ∧ S1 = S) ∨ (¬ FullP N ∧ ∃ N1, TickR N z N1 ∧ CS S1 N1 (noteA A (S 15 2 0) N) ∧ S1 15 2 0 = noteU (S 15 2 0) ∧ FrC S S1))) := by
  obtain ⟨hB, hW, hP, hA⟩ := id hC
  have hN := hW.1
  have hc : 1 ≤ 1 ∧ 1 ≤ 14 := by decide
  obtain ⟨a1, ⟨a2, a3, a4, a5⟩, a6, a7, a8, a9⟩ := id hB
  obtain ⟨hr, i0, i1, i2, i3, i4, i5, i6⟩ := id hN
  have hc0 := cnt_0 N (N 5).toNat
  have hc12 := hW.2.1
  obtain ⟨p1, p2, p3⟩ := id hP
  refine Fn.of [some (oR G 0)] 0 rfl (by decide +kernel) rfl (Nat.le_of_ble_eq_true rfl) (by decide) ?_
  refine Go_aload d_X_tick_0 lg0 ⟨_, rfl⟩ ?_
  refine Go_get d_X_tick_1 fx_0 ?_
  refine Go_V0p d_X_tick_4 (kB (by first | assumption | decide | omega)) (c_B_isFull (by first | assumption | decide) hB hN) (Nat.le_of_ble_eq_true rfl) ?_
  refine Go_ifeq_d d_X_tick_7 (fun h7 => ?_) (fun h7 => ?_)
  · refine Go_aload d_X_tick_13 lg0 ⟨_, rfl⟩ ?_
    refine Go_get d_X_tick_14 fx_1 ?_
    refine Go_aload d_X_tick_17 lg0 ⟨_, rfl⟩ ?_
    refine Go_get d_X_tick_18 fx_0 ?_
    refine Go_V1n d_X_tick_21 (kP (by first | assumption | decide | omega)) (c_P_remember hB hW hP hA) (Nat.le_of_ble_eq_true rfl) ?_
    rintro S1 ⟨q1, q2, q3⟩
    obtain ⟨hC1, hF1⟩ := hC.rem q1 (hA.note hr _) q3
    refine Go_aload d_X_tick_24 lg0 ⟨_, rfl⟩ ?_
    refine Go_get d_X_tick_25 fx_0 ?_
    refine Go_V0i d_X_tick_28 (kB (by first | assumption | decide | omega)) (c_B_hearTick (by decide) hC1.1 hW h7) (Nat.le_of_ble_eq_true rfl) ?_
    rintro z S2 ⟨N1, B1, r1, r2, rfl, r3⟩
    exact Go_iretI d_X_tick_31 (Or.inr ⟨h7, N1, r1, hC1.sbC r3 r2, by rw [sB_15]; exact q2, hF1.sbF _⟩)
  · refine Go_const d_X_tick_10 ?_
    exact Go_iretI d_X_tick_12 (Or.inl ⟨h7, rfl, rfl⟩)
theorem c_X_tell (v x : Int) (hv : -2147483648 ≤ v ∧ v < 2147483648) (hx : -2147483648 ≤ x ∧ x < 2147483648) (hC : CS S N A) : Fn G k_X_tell [oR G 0, vI v, vI x] S (PI (fun z S1 => (¬ toldOk v x ∧ z = -1 ∧ S1 = S) ∨ (toldOk v x ∧ N v.toNat = x ∧ z = -2 ∧ S1 = S) ∨ (toldOk v x ∧ N v.toNat ≠ x ∧ z = N v.toNat ∧ CS S1 (up N v.toNat x) (noteA A (S 15 2 0) N) ∧ S1 15 2 0 = noteU (S 15 2 0) ∧ FrC S S1))) := by
  obtain ⟨hB, hW, hP, hA⟩ := id hC
  have hN := hW.1
  have hc : 1 ≤ 1 ∧ 1 ≤ 14 := by decide
  obtain ⟨a1, ⟨a2, a3, a4, a5⟩, a6, a7, a8, a9⟩ := id hB
  obtain ⟨hr, i0, i1, i2, i3, i4, i5, i6⟩ := id hN
  have hc0 := cnt_0 N (N 5).toNat
  have hc12 := hW.2.1
  obtain ⟨p1, p2, p3⟩ := id hP
  have hlm : (0 ≤ v ∧ v ≤ 3) → ((leastJ v.toNat ≤ x ∧ x ≤ mostJ v.toNat) ↔ toldOk v x) ∧ (0 ≤ leastJ v.toNat ∧ leastJ v.toNat ≤ 1) ∧ (0 ≤ mostJ v.toNat ∧ mostJ v.toNat ≤ 8) := by
    intro h
    rcases (show v = 0 ∨ v = 1 ∨ v = 2 ∨ v = 3 by omega) with rfl | rfl | rfl | rfl <;> simp [leastJ, mostJ, toldOk]
  refine Fn.of [some (oR G 0), some (vI v), some (vI x), none] 1 rfl (by decide +kernel) rfl (Nat.le_of_ble_eq_true rfl) (by decide) ?_
  refine Go_iload d_X_tell_0 lg1 ?_
  refine Go_const d_X_tell_1 ?_
  refine Go_const d_X_tell_2 ?_
  refine Go_S3p d_X_tell_3 (c_X_within _ _ _ (by omega) (by omega) (by omega)) (Nat.le_of_ble_eq_true rfl) ?_
  refine Go_ifeq_d d_X_tell_6 (fun h6 => ?_) (fun h6 => ?_)
  · refine Go_const d_X_tell_26 ?_
    first
      | exact Go_iretI d_X_tell_27 (Or.inl ⟨fun q => by unfold toldOk at q; omega, rfl, rfl⟩)
      | exact Go_iretI d_X_tell_27 (Or.inl ⟨fun q => h23 (l1.2 q), rfl, rfl⟩)
      | exact Go_iretI d_X_tell_27 (Or.inr (Or.inl ⟨ht, by rw [← hvt]; exact h40, rfl, rfl⟩))
      | (refine Go_iretI d_X_tell_27 (Or.inr (Or.inr ⟨ht, by rw [← hvt]; exact h40, hvt, ?_⟩))
         rw [st3_sB]
         exact ⟨hC1.sbC (hC1.1.tell (by omega)) (hW.tell ht), by rw [sB_15]; exact q2, hF1.sbF _⟩)
  · obtain ⟨l1, l2, l3⟩ := hlm (by omega)
    refine Go_iload d_X_tell_9 lg2 ?_
    refine Go_gets0 d_X_tell_10 ?_
    refine Go_iload d_X_tell_13 lg1 ?_
    refine Go_sti0 d_X_tell_14 (by omega) ?_
    refine Go_gets1 d_X_tell_15 ?_
    refine Go_iload d_X_tell_18 lg1 ?_
    refine Go_sti1 d_X_tell_19 (by omega) ?_
    refine Go_S3p d_X_tell_20 (c_X_within _ _ _ (by omega) (by omega) (by omega)) (Nat.le_of_ble_eq_true rfl) ?_
    refine Go_ifne_d d_X_tell_23 (fun h23 => ?_) (fun h23 => ?_)
    · have ht := l1.1 h23
      have hvr := hr v.toNat
      have hvt := a1 v.toNat (by omega)
      refine Go_aload d_X_tell_28 lg0 ⟨_, rfl⟩ ?_
      refine Go_get d_X_tell_29 fx_0 ?_
      refine Go_get d_X_tell_32 (fb_0 (by first | assumption | decide | omega)) ?_
      refine Go_iload d_X_tell_35 lg1 ?_
      refine Go_iald d_X_tell_36 (ab_0 (by first | assumption | decide | omega)) (by omega) ?_
      refine Go_istore d_X_tell_37 rfl sa3 ?_
      refine Go_iload d_X_tell_38 lg3 ?_
      refine Go_iload d_X_tell_39 lg2 ?_
      refine Go_icmp_ne d_X_tell_40 (by rw [hvt]; exact hvr) (by omega) (fun h40 => ?_) (fun h40 => ?_)
      · refine Go_aload d_X_tell_46 lg0 ⟨_, rfl⟩ ?_
        refine Go_get d_X_tell_47 fx_1 ?_
        refine Go_aload d_X_tell_50 lg0 ⟨_, rfl⟩ ?_
        refine Go_get d_X_tell_51 fx_0 ?_
        refine Go_V1n d_X_tell_54 (kP (by first | assumption | decide | omega)) (c_P_remember hB hW hP hA) (Nat.le_of_ble_eq_true rfl) ?_
        rintro S1 ⟨q1, q2, q3⟩
        obtain ⟨hC1, hF1⟩ := hC.rem q1 (hA.note hr _) q3
        refine Go_aload d_X_tell_57 lg0 ⟨_, rfl⟩ ?_
        refine Go_get d_X_tell_58 fx_0 ?_
        refine Go_get d_X_tell_61 (fb_0 (by first | assumption | decide | omega)) ?_
        refine Go_iload d_X_tell_64 lg1 ?_
        refine Go_iload d_X_tell_65 lg2 ?_
        refine Go_iast d_X_tell_66 (ab_0 (by first | assumption | decide | omega)) (by omega) ?_
        refine Go_iload d_X_tell_67 lg3 ?_
        first
          | exact Go_iretI d_X_tell_68 (Or.inl ⟨fun q => by unfold toldOk at q; omega, rfl, rfl⟩)
          | exact Go_iretI d_X_tell_68 (Or.inl ⟨fun q => h23 (l1.2 q), rfl, rfl⟩)
          | exact Go_iretI d_X_tell_68 (Or.inr (Or.inl ⟨ht, by rw [← hvt]; exact h40, rfl, rfl⟩))
          | (refine Go_iretI d_X_tell_68 (Or.inr (Or.inr ⟨ht, by rw [← hvt]; exact h40, hvt, ?_⟩))
             rw [st3_sB]
             exact ⟨hC1.sbC (hC1.1.tell (by omega)) (hW.tell ht), by rw [sB_15]; exact q2, hF1.sbF _⟩)
      · refine Go_const d_X_tell_43 ?_
        first
          | exact Go_iretI d_X_tell_45 (Or.inl ⟨fun q => by unfold toldOk at q; omega, rfl, rfl⟩)
          | exact Go_iretI d_X_tell_45 (Or.inl ⟨fun q => h23 (l1.2 q), rfl, rfl⟩)
          | exact Go_iretI d_X_tell_45 (Or.inr (Or.inl ⟨ht, by rw [← hvt]; exact h40, rfl, rfl⟩))
          | (refine Go_iretI d_X_tell_45 (Or.inr (Or.inr ⟨ht, by rw [← hvt]; exact h40, hvt, ?_⟩))
             rw [st3_sB]
             exact ⟨hC1.sbC (hC1.1.tell (by omega)) (hW.tell ht), by rw [sB_15]; exact q2, hF1.sbF _⟩)
    · refine Go_const d_X_tell_26 ?_
      first
        | exact Go_iretI d_X_tell_27 (Or.inl ⟨fun q => by unfold toldOk at q; omega, rfl, rfl⟩)
        | exact Go_iretI d_X_tell_27 (Or.inl ⟨fun q => h23 (l1.2 q), rfl, rfl⟩)
        | exact Go_iretI d_X_tell_27 (Or.inr (Or.inl ⟨ht, by rw [← hvt]; exact h40, rfl, rfl⟩))
        | (refine Go_iretI d_X_tell_27 (Or.inr (Or.inr ⟨ht, by rw [← hvt]; exact h40, hvt, ?_⟩))
           rw [st3_sB]
           exact ⟨hC1.sbC (hC1.1.tell (by omega)) (hW.tell ht), by rw [sB_15]; exact q2, hF1.sbF _⟩)
theorem c_X_begin (hC : CS S N A) : Fn G k_X_begin [oR G 0] S (PI (fun z S1 => (N 5 = 0 ∧ z = -2 ∧ S1 = S) ∨ (N 5 ≠ 0 ∧ z = N 5 ∧ CS S1 (begN N) (noteA A (S 15 2 0) N) ∧ S1 15 2 0 = noteU (S 15 2 0) ∧ FrC S S1))) := by
  obtain ⟨hB, hW, hP, hA⟩ := id hC
  have hN := hW.1
  have hc : 1 ≤ 1 ∧ 1 ≤ 14 := by decide
  obtain ⟨a1, ⟨a2, a3, a4, a5⟩, a6, a7, a8, a9⟩ := id hB
  obtain ⟨hr, i0, i1, i2, i3, i4, i5, i6⟩ := id hN
  have hc0 := cnt_0 N (N 5).toNat
  have hc12 := hW.2.1
  obtain ⟨p1, p2, p3⟩ := id hP
  refine Fn.of [some (oR G 0), none] 1 rfl (by decide +kernel) rfl (Nat.le_of_ble_eq_true rfl) (by decide) ?_
  refine Go_aload d_X_begin_0 lg0 ⟨_, rfl⟩ ?_
  refine Go_get d_X_begin_1 fx_0 ?_
  refine Go_get d_X_begin_4 (fb_2 (by first | assumption | decide | omega)) ?_
  refine Go_istore d_X_begin_7 rfl sa1 ?_
  rw [a3]
  refine Go_iload d_X_begin_8 lg1 ?_
  refine Go_if_ne d_X_begin_9 (by omega) (fun h9 => ?_) (fun h9 => ?_)
  · refine Go_aload d_X_begin_15 lg0 ⟨_, rfl⟩ ?_
    refine Go_get d_X_begin_16 fx_1 ?_
    refine Go_aload d_X_begin_19 lg0 ⟨_, rfl⟩ ?_
    refine Go_get d_X_begin_20 fx_0 ?_
    refine Go_V1n d_X_begin_23 (kP (by first | assumption | decide | omega)) (c_P_remember hB hW hP hA) (Nat.le_of_ble_eq_true rfl) ?_
    rintro S1 ⟨q1, q2, q3⟩
    obtain ⟨hC1, hF1⟩ := hC.rem q1 (hA.note hr _) q3
    refine Go_aload d_X_begin_26 lg0 ⟨_, rfl⟩ ?_
    refine Go_get d_X_begin_27 fx_0 ?_
    refine Go_V0n d_X_begin_30 (kB (by first | assumption | decide | omega)) (c_B_clear (by decide)) (Nat.le_of_ble_eq_true rfl) ?_
    rintro S2 rfl
    refine Go_iload d_X_begin_33 lg1 ?_
    exact Go_iretI d_X_begin_34 (Or.inr ⟨h9, rfl, hC1.sbC hC1.1.beg hW.beg, by rw [sB_15]; exact q2, hF1.sbF _⟩)
  · refine Go_const d_X_begin_12 ?_
    exact Go_iretI d_X_begin_14 (Or.inl ⟨h9, rfl, rfl⟩)
theorem c_X_seed (v : Int) (hv : -2147483648 ≤ v ∧ v < 2147483648) (hC : CS S N A) : Fn G k_X_seed [oR G 0, vI v] S (PI (fun z S1 => (v < 0 ∧ z = -1 ∧ S1 = S) ∨ (0 ≤ v ∧ z = N 4 ∧ CS S1 (up N 4 v) A ∧ S1 15 2 0 = S 15 2 0 ∧ FrC S S1))) := by
  obtain ⟨hB, hW, hP, hA⟩ := id hC
  have hN := hW.1
  have hc : 1 ≤ 1 ∧ 1 ≤ 14 := by decide
  obtain ⟨a1, ⟨a2, a3, a4, a5⟩, a6, a7, a8, a9⟩ := id hB
  obtain ⟨hr, i0, i1, i2, i3, i4, i5, i6⟩ := id hN
  have hc0 := cnt_0 N (N 5).toNat
  have hc12 := hW.2.1
  obtain ⟨p1, p2, p3⟩ := id hP
  refine Fn.of [some (oR G 0), some (vI v), none] 1 rfl (by decide +kernel) rfl (Nat.le_of_ble_eq_true rfl) (by decide) ?_
  refine Go_iload d_X_seed_0 lg1 ?_
  refine Go_if_ge d_X_seed_1 (by omega) (fun h1 => ?_) (fun h1 => ?_)
  · refine Go_aload d_X_seed_6 lg0 ⟨_, rfl⟩ ?_
    refine Go_get d_X_seed_7 fx_0 ?_
    refine Go_get d_X_seed_10 (fb_1 (by first | assumption | decide | omega)) ?_
    refine Go_istore d_X_seed_13 rfl sa2 ?_
    refine Go_aload d_X_seed_14 lg0 ⟨_, rfl⟩ ?_
    refine Go_get d_X_seed_15 fx_0 ?_
    refine Go_iload d_X_seed_18 lg1 ?_
    refine Go_put d_X_seed_19 (wb_1 (by first | assumption | decide | omega) _) rfl rfl ?_
    refine Go_iload d_X_seed_22 lg2 ?_
    refine Go_iretI d_X_seed_23 (Or.inr ⟨by omega, a2, ?_⟩)
    rw [st3_sB]
    exact ⟨hC.sbC hB.seed (hW.seed (by omega)), sB_15 _ _, (FrC.rf S).sbF _⟩
  · refine Go_const d_X_seed_4 ?_
    exact Go_iretI d_X_seed_5 (Or.inl ⟨by omega, rfl, rfl⟩)
theorem CS.back {S S1 : St} {N A : Row} {u : Int} (h : CS S N A) (hu : 0 < u ∧ u ≤ S 15 2 0) (hB : BR (S1 1) (rowA A (u - 1))) (hP : PR S1 15 A) : CS S1 (cpR N (fun k => A ((402 * (u - 1)).toNat + k)) 0 402) A := by
  have ex : ∀ x, x < 402 → cpR N (fun k => A ((402 * (u - 1)).toNat + k)) 0 402 x = rowA A (u - 1) x := fun x hx => by
    unfold cpR rowA
    rw [if_pos (by omega)]; rfl
  obtain ⟨z1, z2⟩ := h.2.2.1.2.2 (u - 1) (by omega) (by omega)
  refine ⟨hB.eq402 ex z2.1.2.2.2.2.2.2.1, z2.eq402 ex (fun k => ?_), hP, h.2.2.2⟩
  unfold cpR
  split
  · exact h.2.2.2 _
  · exact h.2.1.1.1 k
theorem c_X_undo (hC : CS S N A) : Fn G k_X_undo [oR G 0] S (PI (fun z S1 => (S 15 2 0 = 0 ∧ z = -4 ∧ S1 = S) ∨ (S 15 2 0 ≠ 0 ∧ z = S 15 2 0 - 1 ∧ CS S1 (cpR N (fun k => A ((402 * (S 15 2 0 - 1)).toNat + k)) 0 402) A ∧ S1 15 2 0 = S 15 2 0 - 1 ∧ FrC S S1))) := by
  obtain ⟨hB, hW, hP, hA⟩ := id hC
  have hN := hW.1
  have hc : 1 ≤ 1 ∧ 1 ≤ 14 := by decide
  obtain ⟨a1, ⟨a2, a3, a4, a5⟩, a6, a7, a8, a9⟩ := id hB
  obtain ⟨hr, i0, i1, i2, i3, i4, i5, i6⟩ := id hN
  have hc0 := cnt_0 N (N 5).toNat
  have hc12 := hW.2.1
  obtain ⟨p1, p2, p3⟩ := id hP
  refine Fn.of [some (oR G 0)] 0 rfl (by decide +kernel) rfl (Nat.le_of_ble_eq_true rfl) (by decide) ?_
  refine Go_aload d_X_undo_0 lg0 ⟨_, rfl⟩ ?_
  refine Go_get d_X_undo_1 fx_1 ?_
  refine Go_get d_X_undo_4 (fp_2 (by first | assumption | decide | omega)) ?_
  refine Go_if_ne d_X_undo_7 (by omega) (fun h7 => ?_) (fun h7 => ?_)
  · refine Go_aload d_X_undo_13 lg0 ⟨_, rfl⟩ ?_
    refine Go_get d_X_undo_14 fx_1 ?_
    refine Go_aload d_X_undo_17 lg0 ⟨_, rfl⟩ ?_
    refine Go_get d_X_undo_18 fx_0 ?_
    refine Go_V1n d_X_undo_21 (kP (by first | assumption | decide | omega)) (c_P_bringBack hP (by omega)) (Nat.le_of_ble_eq_true rfl) ?_
    rintro S1 ⟨q1, q2, q3, q4⟩
    refine Go_aload d_X_undo_24 lg0 ⟨_, rfl⟩ ?_
    refine Go_get d_X_undo_25 fx_1 ?_
    refine Go_get d_X_undo_28 (fp_2 (by first | assumption | decide | omega)) ?_
    exact Go_iretI d_X_undo_31 (Or.inr ⟨h7, q3, hC.back (by omega) q1 q2, q3, fun c a b _ => q4 c b a⟩)
  · refine Go_const d_X_undo_10 ?_
    exact Go_iretI d_X_undo_12 (Or.inl ⟨h7, rfl, rfl⟩)
theorem c_X_image (hC : CS S N A) : Fn G k_X_image [oR G 0] S (PI (fun z S1 => z = 1 ∧ BR (S1 8) N ∧ PR S1 16 A ∧ S1 16 2 0 = S 15 2 0 ∧ S1 0 = ub (S 0) 4 0 1 ∧ ∀ c, c ≠ 0 → c ≠ 8 → c ≠ 16 → ¬ (9 ≤ c ∧ c ≤ 14) → S1 c = S c)) := by
  obtain ⟨hB, hW, hP, hA⟩ := id hC
  have hN := hW.1
  have hc : 1 ≤ 1 ∧ 1 ≤ 14 := by decide
  obtain ⟨a1, ⟨a2, a3, a4, a5⟩, a6, a7, a8, a9⟩ := id hB
  obtain ⟨hr, i0, i1, i2, i3, i4, i5, i6⟩ := id hN
  have hc0 := cnt_0 N (N 5).toNat
  have hc12 := hW.2.1
  obtain ⟨p1, p2, p3⟩ := id hP
  refine Fn.of [some (oR G 0)] 0 rfl (by decide +kernel) rfl (Nat.le_of_ble_eq_true rfl) (by decide) ?_
  refine Go_aload d_X_image_0 lg0 ⟨_, rfl⟩ ?_
  refine Go_get d_X_image_1 fx_2 ?_
  refine Go_aload d_X_image_4 lg0 ⟨_, rfl⟩ ?_
  refine Go_get d_X_image_5 fx_0 ?_
  refine Go_V1n d_X_image_8 (kB (by first | assumption | decide | omega)) (c_B_become (by decide) (by decide) (by decide) hB hN (by omega)) (Nat.le_of_ble_eq_true rfl) ?_
  rintro S1 rfl
  have hP1 : PR (sB S 8 (becB (S 8) (S 1))) 15 A := hP.fr (fun c h => sB_c (by omega))
  refine Go_aload d_X_image_11 lg0 ⟨_, rfl⟩ ?_
  refine Go_get d_X_image_12 fx_3 ?_
  refine Go_aload d_X_image_15 lg0 ⟨_, rfl⟩ ?_
  refine Go_get d_X_image_16 fx_1 ?_
  refine Go_V1n d_X_image_19 (kP (by first | assumption | decide | omega)) (c_P_become16 hP1) (Nat.le_of_ble_eq_true rfl) ?_
  rintro S2 ⟨q1, q2, q3⟩
  refine Go_aload d_X_image_22 lg0 ⟨_, rfl⟩ ?_
  refine Go_const d_X_image_23 ?_
  refine Go_put d_X_image_24 (wx_4 _) rfl rfl ?_
  refine Go_const d_X_image_27 ?_
  refine Go_iretI d_X_image_28 ⟨rfl, ?_, ?_, ?_, ?_, fun c c0 c1 c2 c3 => ?_⟩
  · rw [st3_sB, sB_c (by decide), q3 8 (by decide) (by decide), sB_s]; exact hB.bec i5.1 i6.1
  · rw [st3_sB]; exact q1.fr16 (fun c h => sB_c (by omega))
  · rw [st3_sB, sB_c (by decide), q2, sB_c (by decide)]
  · rw [st3_sB, sB_s, q3 0 (by decide) (by decide), sB_c (by decide)]
  · rw [st3_sB, sB_c c0, q3 c c2 c3, sB_c c1]
theorem c_X_restore {K KA : Row} (hC : CS S N A) (hi : S 0 4 0 = 0 ∨ S 0 4 0 = 1) (hK : S 0 4 0 = 1 → BR (S 8) K ∧ WF K ∧ PR S 16 KA) : Fn G k_X_restore [oR G 0] S (PI (fun z S1 => (S 0 4 0 = 0 ∧ z = -4 ∧ S1 = S) ∨ (S 0 4 0 = 1 ∧ z = 1 ∧ BR (S1 1) K ∧ PR S1 15 KA ∧ S1 15 2 0 = S 16 2 0 ∧ FrC S S1))) := by
  obtain ⟨hB, hW, hP, hA⟩ := id hC
  have hN := hW.1
  have hc : 1 ≤ 1 ∧ 1 ≤ 14 := by decide
  obtain ⟨a1, ⟨a2, a3, a4, a5⟩, a6, a7, a8, a9⟩ := id hB
  obtain ⟨hr, i0, i1, i2, i3, i4, i5, i6⟩ := id hN
  have hc0 := cnt_0 N (N 5).toNat
  have hc12 := hW.2.1
  obtain ⟨p1, p2, p3⟩ := id hP
  refine Fn.of [some (oR G 0)] 0 rfl (by decide +kernel) rfl (Nat.le_of_ble_eq_true rfl) (by decide) ?_
  refine Go_aload d_X_restore_0 lg0 ⟨_, rfl⟩ ?_
  refine Go_get d_X_restore_1 fx_4 ?_
  refine Go_if_ne d_X_restore_4 (by omega) (fun h4 => ?_) (fun h4 => ?_)
  · obtain ⟨k1, k2, k3⟩ := hK (by omega)
    have kN := k2.1.2.2.2.2.2.2
    have kc := k2.2.1
    refine Go_aload d_X_restore_10 lg0 ⟨_, rfl⟩ ?_
    refine Go_get d_X_restore_11 fx_0 ?_
    refine Go_aload d_X_restore_14 lg0 ⟨_, rfl⟩ ?_
    refine Go_get d_X_restore_15 fx_2 ?_
    refine Go_V1n d_X_restore_18 (kB (by first | assumption | decide | omega)) (c_B_become (by decide) (by decide) (by decide) k1 k2.1 (by omega)) (Nat.le_of_ble_eq_true rfl) ?_
    rintro S1 rfl
    have hP1 : PR (sB S 1 (becB (S 1) (S 8))) 16 KA := k3.fr16 (fun c h => sB_c (by omega))
    refine Go_aload d_X_restore_21 lg0 ⟨_, rfl⟩ ?_
    refine Go_get d_X_restore_22 fx_1 ?_
    refine Go_aload d_X_restore_25 lg0 ⟨_, rfl⟩ ?_
    refine Go_get d_X_restore_26 fx_3 ?_
    refine Go_V1n d_X_restore_29 (kP (by first | assumption | decide | omega)) (c_P_become15 hP1) (Nat.le_of_ble_eq_true rfl) ?_
    rintro S2 ⟨q1, q2, q3⟩
    refine Go_const d_X_restore_32 ?_
    refine Go_iretI d_X_restore_33 (Or.inr ⟨by omega, rfl, ?_, q1, ?_, fun c c0 c1 c2 => ?_⟩)
    · rw [q3 1 (by decide) (by decide), sB_s]; exact k1.bec kN.1.1 kN.2.1
    · rw [q2, sB_c (by decide)]
    · rw [q3 c c1 c2, sB_c c0]
  · refine Go_const d_X_restore_7 ?_
    exact Go_iretI d_X_restore_9 (Or.inl ⟨by omega, rfl, rfl⟩)
theorem c_X_tickIfHeard (hC : CS S N A) : Fn G k_X_tickIfHeard [oR G 0] S (PI (fun z S1 => (((tickF N).1 < 0 ∧ z = 0) ∨ (0 ≤ (tickF N).1 ∧ z = 1)) ∧ CS S1 (tickF N).2 A ∧ S1 15 2 0 = S 15 2 0 ∧ FrC S S1)) := by
  obtain ⟨hB, hW, hP, hA⟩ := id hC
  have hN := hW.1
  have hc : 1 ≤ 1 ∧ 1 ≤ 14 := by decide
  obtain ⟨a1, ⟨a2, a3, a4, a5⟩, a6, a7, a8, a9⟩ := id hB
  obtain ⟨hr, i0, i1, i2, i3, i4, i5, i6⟩ := id hN
  have hc0 := cnt_0 N (N 5).toNat
  have hc12 := hW.2.1
  obtain ⟨p1, p2, p3⟩ := id hP
  refine Fn.of [some (oR G 0)] 0 rfl (by decide +kernel) rfl (Nat.le_of_ble_eq_true rfl) (by decide) ?_
  refine Go_aload d_X_tickIfHeard_0 lg0 ⟨_, rfl⟩ ?_
  refine Go_get d_X_tickIfHeard_1 fx_0 ?_
  refine Go_V0p d_X_tickIfHeard_4 (kB (by first | assumption | decide | omega)) (c_B_isFull (by first | assumption | decide) hB hN) (Nat.le_of_ble_eq_true rfl) ?_
  refine Go_ifeq_d d_X_tickIfHeard_7 (fun h7 => ?_) (fun h7 => ?_)
  · refine Go_aload d_X_tickIfHeard_12 lg0 ⟨_, rfl⟩ ?_
    refine Go_get d_X_tickIfHeard_13 fx_0 ?_
    refine Go_V0i d_X_tickIfHeard_16 (kB (by first | assumption | decide | omega)) (c_B_hearTick (by decide) hB hW h7) (Nat.le_of_ble_eq_true rfl) ?_
    rintro z S2 ⟨N1, B1, r1, r2, rfl, r3⟩
    have r4 := tick_go hN r1 h7
    refine Go_pop d_X_tickIfHeard_19 rfl ?_
    refine Go_const d_X_tickIfHeard_20 ?_
    refine Go_zretI d_X_tickIfHeard_21 (by decide) ?_
    rw [r1.eq]
    exact ⟨Or.inr ⟨r4, rfl⟩, hC.sbC r3 r2, sB_15 _ _, (FrC.rf S).sbF _⟩
  · refine Go_const d_X_tickIfHeard_10 ?_
    refine Go_zretI d_X_tickIfHeard_11 (by decide) ?_
    rw [tickF_full h7]
    exact ⟨Or.inl ⟨show (-3 : Int) < 0 by decide, rfl⟩, hC, rfl, FrC.rf S⟩
theorem c_X_takeIfRoom (s r : Int) (hs : 0 ≤ s ∧ s ≤ 9 ∧ s ≠ 8) (hr0 : 0 ≤ r ∧ r ≤ 7) (hC : CS S N A) : Fn G k_X_takeIfRoom [oR G 0, vI s, vI r] S (PI (fun z S1 => (((comeF N s r).1 < 0 ∧ z = 0) ∨ (0 ≤ (comeF N s r).1 ∧ z = 1)) ∧ CS S1 (comeF N s r).2 A ∧ S1 15 2 0 = S 15 2 0 ∧ FrC S S1)) := by
  obtain ⟨hB, hW, hP, hA⟩ := id hC
  have hN := hW.1
  have hc : 1 ≤ 1 ∧ 1 ≤ 14 := by decide
  obtain ⟨a1, ⟨a2, a3, a4, a5⟩, a6, a7, a8, a9⟩ := id hB
  obtain ⟨hr, i0, i1, i2, i3, i4, i5, i6⟩ := id hN
  have hc0 := cnt_0 N (N 5).toNat
  have hc12 := hW.2.1
  obtain ⟨p1, p2, p3⟩ := id hP
  refine Fn.of [some (oR G 0), some (vI s), some (vI r)] 0 rfl (by decide +kernel) rfl (Nat.le_of_ble_eq_true rfl) (by decide) ?_
  refine Go_aload d_X_takeIfRoom_0 lg0 ⟨_, rfl⟩ ?_
  refine Go_get d_X_takeIfRoom_1 fx_0 ?_
  refine Go_V0p d_X_takeIfRoom_4 (kB (by first | assumption | decide | omega)) (c_B_takesLetter (by first | assumption | decide) hB hN) (Nat.le_of_ble_eq_true rfl) ?_
  refine Go_ifne_d d_X_takeIfRoom_7 (fun h7 => ?_) (fun h7 => ?_)
  · refine Go_aload d_X_takeIfRoom_12 lg0 ⟨_, rfl⟩ ?_
    refine Go_get d_X_takeIfRoom_13 fx_0 ?_
    refine Go_iload d_X_takeIfRoom_16 lg1 ?_
    refine Go_iload d_X_takeIfRoom_17 lg2 ?_
    refine Go_V2i d_X_takeIfRoom_18 (kB (by first | assumption | decide | omega)) (c_B_takeLetter _ _ (by decide) hB hW hs hr0 h7) (Nat.le_of_ble_eq_true rfl) ?_
    rintro z S2 ⟨N1, B1, r1, r2, rfl, r3⟩
    have r4 := come_go hN (by omega) hr0 r1 h7
    refine Go_pop d_X_takeIfRoom_21 rfl ?_
    refine Go_const d_X_takeIfRoom_22 ?_
    refine Go_zretI d_X_takeIfRoom_23 (by decide) ?_
    rw [r1.eq]
    exact ⟨Or.inr ⟨r4, rfl⟩, hC.sbC r3 r2, sB_15 _ _, (FrC.rf S).sbF _⟩
  · refine Go_const d_X_takeIfRoom_10 ?_
    refine Go_zretI d_X_takeIfRoom_11 (by decide) ?_
    rw [comeF_full (Classical.byContradiction h7)]
    exact ⟨Or.inl ⟨show (-3 : Int) < 0 by decide, rfl⟩, hC, rfl, FrC.rf S⟩
theorem c_X_driftOnce (hC : CS S N A) : Fn G k_X_driftOnce [oR G 0] S (PN (fun S1 => CS S1 (dftN N) A ∧ S1 15 2 0 = S 15 2 0 ∧ FrC S S1)) := by
  obtain ⟨hB, hW, hP, hA⟩ := id hC
  have hN := hW.1
  have hc : 1 ≤ 1 ∧ 1 ≤ 14 := by decide
  obtain ⟨a1, ⟨a2, a3, a4, a5⟩, a6, a7, a8, a9⟩ := id hB
  obtain ⟨hr, i0, i1, i2, i3, i4, i5, i6⟩ := id hN
  have hc0 := cnt_0 N (N 5).toNat
  have hc12 := hW.2.1
  obtain ⟨p1, p2, p3⟩ := id hP
  have hd := dr_rg (N 4)
  have hC1 : CS (sB S 1 (ub (S 1) 1 0 (dr (N 4)))) (drN N) A := hC.sbC (hB.dr i5.1) hW.dr
  have hF1 : FrC S (sB S 1 (ub (S 1) 1 0 (dr (N 4)))) := (FrC.rf S).sbF _
  have hU1 := sB_15 S (ub (S 1) 1 0 (dr (N 4)))
  refine Fn.of [some (oR G 0), none] 1 rfl (by decide +kernel) rfl (Nat.le_of_ble_eq_true rfl) (by decide) ?_
  refine Go_aload d_X_driftOnce_0 lg0 ⟨_, rfl⟩ ?_
  refine Go_get d_X_driftOnce_1 fx_0 ?_
  refine Go_V0i d_X_driftOnce_4 (kB (by first | assumption | decide | omega)) (c_B_nextDraw (by decide) hB hN) (Nat.le_of_ble_eq_true rfl) ?_
  rintro z S1 ⟨rfl, rfl⟩
  generalize sB S 1 (ub (S 1) 1 0 (dr (N 4))) = S1 at hC1 hF1 hU1
  refine Go_istore d_X_driftOnce_7 rfl sa1 ?_
  refine Go_iload d_X_driftOnce_8 lg1 ?_
  refine Go_const d_X_driftOnce_9 ?_
  refine Go_irem d_X_driftOnce_11 (by omega) (by omega) ?_
  refine Go_if_ne d_X_driftOnce_12 (by omega) (fun h12 => ?_) (fun h12 => ?_)
  · refine Go_aload d_X_driftOnce_23 lg0 ⟨_, rfl⟩ ?_
    refine Go_iload d_X_driftOnce_24 lg1 ?_
    refine Go_const d_X_driftOnce_25 ?_
    refine Go_idiv d_X_driftOnce_27 (by omega) (by omega) ?_
    refine Go_const d_X_driftOnce_28 ?_
    refine Go_irem d_X_driftOnce_30 (by omega) (by omega) ?_
    refine Go_iload d_X_driftOnce_31 lg1 ?_
    refine Go_const d_X_driftOnce_32 ?_
    refine Go_idiv d_X_driftOnce_34 (by omega) (by omega) ?_
    refine Go_const d_X_driftOnce_35 ?_
    refine Go_irem d_X_driftOnce_37 (by omega) (by omega) ?_
    refine Go_V2i d_X_driftOnce_38 kX (c_X_takeIfRoom _ _ (by omega) (by omega) hC1) (Nat.le_of_ble_eq_true rfl) ?_
    rintro z S2 ⟨-, q1, q2, q3⟩
    have e : dftN N = (comeF (drN N) (dr (N 4) / 65536 / 8 % 8) (dr (N 4) / 65536 / 64 % 8)).2 := by unfold dftN; rw [if_neg h12]
    refine Go_pop d_X_driftOnce_41 rfl ?_
    exact Go_vretN d_X_driftOnce_42 (by rw [e]; exact ⟨q1, by rw [q2, hU1], hF1.tr q3⟩)
  · refine Go_aload d_X_driftOnce_15 lg0 ⟨_, rfl⟩ ?_
    refine Go_V0i d_X_driftOnce_16 kX (c_X_tickIfHeard hC1) (Nat.le_of_ble_eq_true rfl) ?_
    rintro z S2 ⟨-, q1, q2, q3⟩
    have e : dftN N = (tickF (drN N)).2 := by unfold dftN; rw [if_pos h12]
    refine Go_pop d_X_driftOnce_19 rfl ?_
    refine Go_goto d_X_driftOnce_20 ?_
    exact Go_vretN d_X_driftOnce_42 (by rw [e]; exact ⟨q1, by rw [q2, hU1], hF1.tr q3⟩)
theorem c_X_drift (n : Int) (hn : -2147483648 ≤ n ∧ n < 2147483648) (hC : CS S N A) : Fn G k_X_drift [oR G 0, vI n] S (PI (fun z S1 => (¬ (1 ≤ n ∧ n ≤ 40) ∧ z = -1 ∧ S1 = S) ∨ ((1 ≤ n ∧ n ≤ 40) ∧ z = (dft n.toNat N A (S 15 2 0)).1 5 ∧ CS S1 (dft n.toNat N A (S 15 2 0)).1 (dft n.toNat N A (S 15 2 0)).2.1 ∧ S1 15 2 0 = (dft n.toNat N A (S 15 2 0)).2.2 ∧ FrC S S1))) := by
  obtain ⟨hB, hW, hP, hA⟩ := id hC
  have hN := hW.1
  have hc : 1 ≤ 1 ∧ 1 ≤ 14 := by decide
  obtain ⟨a1, ⟨a2, a3, a4, a5⟩, a6, a7, a8, a9⟩ := id hB
  obtain ⟨hr, i0, i1, i2, i3, i4, i5, i6⟩ := id hN
  have hc0 := cnt_0 N (N 5).toNat
  have hc12 := hW.2.1
  obtain ⟨p1, p2, p3⟩ := id hP
  refine Fn.of [some (oR G 0), some (vI n), none] 1 rfl (by decide +kernel) rfl (Nat.le_of_ble_eq_true rfl) (by decide) ?_

  have loop : (1 ≤ n ∧ n ≤ 40) → Go G k_X_drift 14 [some (oR G 0), some (vI n), some (vI 0)] [] S (PI (fun z S1 => (¬ (1 ≤ n ∧ n ≤ 40) ∧ z = -1 ∧ S1 = S) ∨ ((1 ≤ n ∧ n ≤ 40) ∧ z = (dft n.toNat N A (S 15 2 0)).1 5 ∧ CS S1 (dft n.toNat N A (S 15 2 0)).1 (dft n.toNat N A (S 15 2 0)).2.1 ∧ S1 15 2 0 = (dft n.toNat N A (S 15 2 0)).2.2 ∧ FrC S S1))) := by
    intro hr1
    have L := loopI (fun b => ∀ S1 : St, CS S1 (dft b.toNat N A (S 15 2 0)).1 (dft b.toNat N A (S 15 2 0)).2.1 → S1 15 2 0 = (dft b.toNat N A (S 15 2 0)).2.2 → FrC S S1 → Go G k_X_drift 14 [some (oR G 0), some (vI n), some (vI b)] [] S1 (PI (fun z S1 => (¬ (1 ≤ n ∧ n ≤ 40) ∧ z = -1 ∧ S1 = S) ∨ ((1 ≤ n ∧ n ≤ 40) ∧ z = (dft n.toNat N A (S 15 2 0)).1 5 ∧ CS S1 (dft n.toNat N A (S 15 2 0)).1 (dft n.toNat N A (S 15 2 0)).2.1 ∧ S1 15 2 0 = (dft n.toNat N A (S 15 2 0)).2.2 ∧ FrC S S1)))) n ?_ ?_
    · exact L 0 (by omega) (by omega) S hC rfl (FrC.rf S)
    · intro S1 f1 f2 f3
      refine Go_iload d_X_drift_14 lg2 ?_
      refine Go_iload d_X_drift_15 lg1 ?_
      refine Go_icmp_ge d_X_drift_16 (by omega) (by omega) (fun h16 => ?_) (fun h16 => absurd h16 (by omega))
      refine Go_aload d_X_drift_40 lg0 ⟨_, rfl⟩ ?_
      refine Go_get d_X_drift_41 fx_0 ?_
      refine Go_get d_X_drift_44 (fb_2 (by first | assumption | decide | omega)) ?_
      exact Go_iretI d_X_drift_47 (Or.inr ⟨hr1, f1.1.2.1.2.1, f1, f2, f3⟩)
    · intro b h0 h1 ih S1 f1 f2 f3
      have e : (b + 1).toNat = b.toNat + 1 := by omega
      have ed : dft (b + 1).toNat N A (S 15 2 0) = (dftN (dft b.toNat N A (S 15 2 0)).1, noteA (dft b.toNat N A (S 15 2 0)).2.1 (dft b.toNat N A (S 15 2 0)).2.2 (dft b.toNat N A (S 15 2 0)).1, noteU (dft b.toNat N A (S 15 2 0)).2.2) := by rw [e]; rfl
      rw [ed] at ih
      clear ed
      generalize dft b.toNat N A (S 15 2 0) = D at f1 f2 ih
      obtain ⟨g1, g2, g3, g4⟩ := id f1
      refine Go_iload d_X_drift_14 lg2 ?_
      refine Go_iload d_X_drift_15 lg1 ?_
      refine Go_icmp_ge d_X_drift_16 (by omega) (by omega) (fun h16 => absurd h16 (by omega)) (fun h16 => ?_)
      refine Go_aload d_X_drift_19 lg0 ⟨_, rfl⟩ ?_
      refine Go_get d_X_drift_20 fx_1 ?_
      refine Go_aload d_X_drift_23 lg0 ⟨_, rfl⟩ ?_
      refine Go_get d_X_drift_24 fx_0 ?_
      refine Go_V1n d_X_drift_27 (kP (by first | assumption | decide | omega)) (c_P_remember g1 g2 g3 g4) (Nat.le_of_ble_eq_true rfl) ?_
      rintro S2 ⟨q1, q2, q3⟩
      obtain ⟨hC1, hF1⟩ := f1.rem q1 (g4.note g2.1.1 _) q3
      refine Go_aload d_X_drift_30 lg0 ⟨_, rfl⟩ ?_
      refine Go_V0n d_X_drift_31 kX (c_X_driftOnce hC1) (Nat.le_of_ble_eq_true rfl) ?_
      rintro S3 ⟨t1, t2, t3⟩
      refine Go_iinc d_X_drift_34 lg2 rfl sa2 ?_
      refine Go_goto d_X_drift_37 ?_
      refine ih S3 ?_ ?_ ((f3.tr hF1).tr t3)
      · rw [f2] at t1; exact t1
      · rw [t2, q2, f2]
  refine Go_iload d_X_drift_0 lg1 ?_
  refine Go_const d_X_drift_1 ?_
  refine Go_const d_X_drift_2 ?_
  refine Go_S3p d_X_drift_4 (c_X_within _ _ _ (by omega) (by omega) (by omega)) (Nat.le_of_ble_eq_true rfl) ?_
  refine Go_ifne_d d_X_drift_7 (fun h7 => ?_) (fun h7 => ?_)
  · refine Go_const d_X_drift_12 ?_
    refine Go_istore d_X_drift_13 rfl sa2 ?_
    exact loop h7
  · refine Go_const d_X_drift_10 ?_
    exact Go_iretI d_X_drift_11 (Or.inl ⟨h7, rfl, rfl⟩)
end XWrite
