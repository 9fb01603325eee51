section Book1
variable {G : GT} {S : St} {c : Nat} {N : Row}
theorem c_X_within (v a b : Int) (h1 : -2147483648 ≤ v ∧ v < 2147483648) (h2 : -2147483648 ≤ a ∧ a < 2147483648) (h3 : -2147483648 ≤ b ∧ b < 2147483648) : Fn G k_X_within [vI v, vI a, vI b] S (PV (vI (bI (a ≤ v ∧ v ≤ b))) S) := by
  refine Fn.of [some (vI v), some (vI a), some (vI b)] 0 rfl (by decide +kernel) rfl (Nat.le_of_ble_eq_true rfl) (by decide) ?_
  refine Go_iload d_X_within_0 lg0 ?_
  refine Go_iload d_X_within_1 lg1 ?_
  refine Go_icmp_lt d_X_within_2 (by omega) (by omega) (fun h2 => ?_) (fun h2 => ?_)
  · refine Go_const d_X_within_14 ?_
    exact Go_zretV d_X_within_15 (by first | exact Or.inl rfl | exact Or.inr rfl | exact @bI_01 _ _) (by first | rfl | exact (bI_pos (by omega)).symm | exact (bI_neg (by omega)).symm)
  · refine Go_iload d_X_within_5 lg0 ?_
    refine Go_iload d_X_within_6 lg2 ?_
    refine Go_icmp_gt d_X_within_7 (by omega) (by omega) (fun h7 => ?_) (fun h7 => ?_)
    · refine Go_const d_X_within_14 ?_
      exact Go_zretV d_X_within_15 (by first | exact Or.inl rfl | exact Or.inr rfl | exact @bI_01 _ _) (by first | rfl | exact (bI_pos (by omega)).symm | exact (bI_neg (by omega)).symm)
    · refine Go_const d_X_within_10 ?_
      refine Go_goto d_X_within_11 ?_
      exact Go_zretV d_X_within_15 (by first | exact Or.inl rfl | exact Or.inr rfl | exact @bI_01 _ _) (by first | rfl | exact (bI_pos (by omega)).symm | exact (bI_neg (by omega)).symm)
theorem c_B_isFull (hc : 1 ≤ c ∧ c ≤ 14) (hB : BR (S c) N) (hN : NR N) : Fn G k_B_isFull [oR G c] S (PV (vI (bI (76 ≤ N 5 ∨ 12 ≤ N 6))) S) := by
  obtain ⟨a1, ⟨a2, a3, a4, a5⟩, a6, a7, a8, a9⟩ := id hB
  obtain ⟨hr, i0, i1, i2, i3, i4, i5, i6⟩ := id hN
  have hc0 := cnt_0 N (N 5).toNat
  refine Fn.of [some (oR G c)] 0 rfl (by decide +kernel) rfl (Nat.le_of_ble_eq_true rfl) (by decide) ?_
  refine Go_aload d_B_isFull_0 lg0 ⟨_, rfl⟩ ?_
  refine Go_get d_B_isFull_1 (fb_2 (by first | assumption | decide | omega)) ?_
  refine Go_const d_B_isFull_4 ?_
  refine Go_icmp_ge d_B_isFull_6 (by omega) (by omega) (fun h6 => ?_) (fun h6 => ?_)
  · refine Go_const d_B_isFull_18 ?_
    refine Go_goto d_B_isFull_19 ?_
    exact Go_zretV d_B_isFull_23 (by first | exact Or.inl rfl | exact Or.inr rfl | exact @bI_01 _ _) (by first | rfl | exact (bI_pos (by omega)).symm | exact (bI_neg (by omega)).symm)
  · refine Go_aload d_B_isFull_9 lg0 ⟨_, rfl⟩ ?_
    refine Go_get d_B_isFull_10 (fb_10 (by first | assumption | decide | omega)) ?_
    refine Go_const d_B_isFull_13 ?_
    refine Go_icmp_lt d_B_isFull_15 (by omega) (by omega) (fun h15 => ?_) (fun h15 => ?_)
    · refine Go_const d_B_isFull_22 ?_
      exact Go_zretV d_B_isFull_23 (by first | exact Or.inl rfl | exact Or.inr rfl | exact @bI_01 _ _) (by first | rfl | exact (bI_pos (by omega)).symm | exact (bI_neg (by omega)).symm)
    · refine Go_const d_B_isFull_18 ?_
      refine Go_goto d_B_isFull_19 ?_
      exact Go_zretV d_B_isFull_23 (by first | exact Or.inl rfl | exact Or.inr rfl | exact @bI_01 _ _) (by first | rfl | exact (bI_pos (by omega)).symm | exact (bI_neg (by omega)).symm)
theorem c_B_takesLetter (hc : 1 ≤ c ∧ c ≤ 14) (hB : BR (S c) N) (hN : NR N) : Fn G k_B_takesLetter [oR G c] S (PV (vI (bI (¬ ((76 ≤ N 5 ∨ 12 ≤ N 6) ∨ 12 ≤ cnt N (N 5).toNat)))) S) := by
  obtain ⟨a1, ⟨a2, a3, a4, a5⟩, a6, a7, a8, a9⟩ := id hB
  obtain ⟨hr, i0, i1, i2, i3, i4, i5, i6⟩ := id hN
  have hc0 := cnt_0 N (N 5).toNat
  refine Fn.of [some (oR G c)] 0 rfl (by decide +kernel) rfl (Nat.le_of_ble_eq_true rfl) (by decide) ?_
  refine Go_aload d_B_takesLetter_0 lg0 ⟨_, rfl⟩ ?_
  refine Go_V0p d_B_takesLetter_1 (kB (by first | assumption | decide | omega)) (c_B_isFull (by first | assumption | decide) hB hN) (Nat.le_of_ble_eq_true rfl) ?_
  refine Go_ifne_d d_B_takesLetter_4 (fun h4 => ?_) (fun h4 => ?_)
  · refine Go_const d_B_takesLetter_20 ?_
    exact Go_zretV d_B_takesLetter_21 (by first | exact Or.inl rfl | exact Or.inr rfl | exact @bI_01 _ _) (by first | rfl | exact (bI_pos (by omega)).symm | exact (bI_neg (by omega)).symm)
  · refine Go_aload d_B_takesLetter_7 lg0 ⟨_, rfl⟩ ?_
    refine Go_get d_B_takesLetter_8 (fb_8 (by first | assumption | decide | omega)) ?_
    refine Go_const d_B_takesLetter_11 ?_
    refine Go_icmp_ge d_B_takesLetter_13 (by omega) (by omega) (fun h13 => ?_) (fun h13 => ?_)
    · refine Go_const d_B_takesLetter_20 ?_
      exact Go_zretV d_B_takesLetter_21 (by first | exact Or.inl rfl | exact Or.inr rfl | exact @bI_01 _ _) (by first | rfl | exact (bI_pos (by omega)).symm | exact (bI_neg (by omega)).symm)
    · refine Go_const d_B_takesLetter_16 ?_
      refine Go_goto d_B_takesLetter_17 ?_
      exact Go_zretV d_B_takesLetter_21 (by first | exact Or.inl rfl | exact Or.inr rfl | exact @bI_01 _ _) (by first | rfl | exact (bI_pos (by omega)).symm | exact (bI_neg (by omega)).symm)
theorem c_B_hasLetter (i : Int) (hi : -2147483648 ≤ i ∧ i < 2147483648) (hc : 1 ≤ c ∧ c ≤ 14) (hB : BR (S c) N) (hN : NR N) : Fn G k_B_hasLetter [oR G c, vI i] S (PV (vI (bI (0 ≤ i ∧ i < N 5))) S) := by
  obtain ⟨a1, ⟨a2, a3, a4, a5⟩, a6, a7, a8, a9⟩ := id hB
  obtain ⟨hr, i0, i1, i2, i3, i4, i5, i6⟩ := id hN
  have hc0 := cnt_0 N (N 5).toNat
  refine Fn.of [some (oR G c), some (vI i)] 0 rfl (by decide +kernel) rfl (Nat.le_of_ble_eq_true rfl) (by decide) ?_
  refine Go_iload d_B_hasLetter_0 lg1 ?_
  refine Go_if_lt d_B_hasLetter_1 (by omega) (fun h1 => ?_) (fun h1 => ?_)
  · refine Go_const d_B_hasLetter_22 ?_
    exact Go_zretV d_B_hasLetter_23 (by first | exact Or.inl rfl | exact Or.inr rfl | exact @bI_01 _ _) (by first | rfl | exact (bI_pos (by omega)).symm | exact (bI_neg (by omega)).symm)
  · refine Go_iload d_B_hasLetter_4 lg1 ?_
    refine Go_aload d_B_hasLetter_5 lg0 ⟨_, rfl⟩ ?_
    refine Go_get d_B_hasLetter_6 (fb_2 (by first | assumption | decide | omega)) ?_
    refine Go_icmp_ge d_B_hasLetter_9 (by omega) (by omega) (fun h9 => ?_) (fun h9 => ?_)
    · refine Go_const d_B_hasLetter_22 ?_
      exact Go_zretV d_B_hasLetter_23 (by first | exact Or.inl rfl | exact Or.inr rfl | exact @bI_01 _ _) (by first | rfl | exact (bI_pos (by omega)).symm | exact (bI_neg (by omega)).symm)
    · refine Go_iload d_B_hasLetter_12 lg1 ?_
      refine Go_const d_B_hasLetter_13 ?_
      refine Go_icmp_ge d_B_hasLetter_15 (by omega) (by omega) (fun h15 => ?_) (fun h15 => ?_)
      · refine Go_const d_B_hasLetter_22 ?_
        exact Go_zretV d_B_hasLetter_23 (by first | exact Or.inl rfl | exact Or.inr rfl | exact @bI_01 _ _) (by first | rfl | exact (bI_pos (by omega)).symm | exact (bI_neg (by omega)).symm)
      · refine Go_const d_B_hasLetter_18 ?_
        refine Go_goto d_B_hasLetter_19 ?_
        exact Go_zretV d_B_hasLetter_23 (by first | exact Or.inl rfl | exact Or.inr rfl | exact @bI_01 _ _) (by first | rfl | exact (bI_pos (by omega)).symm | exact (bI_neg (by omega)).symm)
theorem c_B_hasRound (i : Int) (hi : -2147483648 ≤ i ∧ i < 2147483648) (hc : 1 ≤ c ∧ c ≤ 14) (hB : BR (S c) N) (hN : NR N) : Fn G k_B_hasRound [oR G c, vI i] S (PV (vI (bI (0 ≤ i ∧ i < N 6))) S) := by
  obtain ⟨a1, ⟨a2, a3, a4, a5⟩, a6, a7, a8, a9⟩ := id hB
  obtain ⟨hr, i0, i1, i2, i3, i4, i5, i6⟩ := id hN
  have hc0 := cnt_0 N (N 5).toNat
  refine Fn.of [some (oR G c), some (vI i)] 0 rfl (by decide +kernel) rfl (Nat.le_of_ble_eq_true rfl) (by decide) ?_
  refine Go_iload d_B_hasRound_0 lg1 ?_
  refine Go_if_lt d_B_hasRound_1 (by omega) (fun h1 => ?_) (fun h1 => ?_)
  · refine Go_const d_B_hasRound_22 ?_
    exact Go_zretV d_B_hasRound_23 (by first | exact Or.inl rfl | exact Or.inr rfl | exact @bI_01 _ _) (by first | rfl | exact (bI_pos (by omega)).symm | exact (bI_neg (by omega)).symm)
  · refine Go_iload d_B_hasRound_4 lg1 ?_
    refine Go_aload d_B_hasRound_5 lg0 ⟨_, rfl⟩ ?_
    refine Go_get d_B_hasRound_6 (fb_10 (by first | assumption | decide | omega)) ?_
    refine Go_icmp_ge d_B_hasRound_9 (by omega) (by omega) (fun h9 => ?_) (fun h9 => ?_)
    · refine Go_const d_B_hasRound_22 ?_
      exact Go_zretV d_B_hasRound_23 (by first | exact Or.inl rfl | exact Or.inr rfl | exact @bI_01 _ _) (by first | rfl | exact (bI_pos (by omega)).symm | exact (bI_neg (by omega)).symm)
    · refine Go_iload d_B_hasRound_12 lg1 ?_
      refine Go_const d_B_hasRound_13 ?_
      refine Go_icmp_ge d_B_hasRound_15 (by omega) (by omega) (fun h15 => ?_) (fun h15 => ?_)
      · refine Go_const d_B_hasRound_22 ?_
        exact Go_zretV d_B_hasRound_23 (by first | exact Or.inl rfl | exact Or.inr rfl | exact @bI_01 _ _) (by first | rfl | exact (bI_pos (by omega)).symm | exact (bI_neg (by omega)).symm)
      · refine Go_const d_B_hasRound_18 ?_
        refine Go_goto d_B_hasRound_19 ?_
        exact Go_zretV d_B_hasRound_23 (by first | exact Or.inl rfl | exact Or.inr rfl | exact @bI_01 _ _) (by first | rfl | exact (bI_pos (by omega)).symm | exact (bI_neg (by omega)).symm)
theorem c_B_fact (r v : Int) (hr0 : -2147483648 ≤ r ∧ r < 2147483648) (hv : -2147483648 ≤ v ∧ v < 2147483648) (hc : 1 ≤ c ∧ c ≤ 14) (hB : BR (S c) N) (hN : NR N) : Fn G k_B_fact [oR G c, vI r, vI v] S (PV (vI (if (0 ≤ r ∧ r < N 6) ∧ 0 ≤ v ∧ v ≤ 5 then rof N r v (N 5).toNat else 0)) S) := by
  obtain ⟨a1, ⟨a2, a3, a4, a5⟩, a6, a7, a8, a9⟩ := id hB
  obtain ⟨hr, i0, i1, i2, i3, i4, i5, i6⟩ := id hN
  have hc0 := cnt_0 N (N 5).toNat
  refine Fn.of [some (oR G c), some (vI r), some (vI v)] 0 rfl (by decide +kernel) rfl (Nat.le_of_ble_eq_true rfl) (by decide) ?_
  refine Go_aload d_B_fact_0 lg0 ⟨_, rfl⟩ ?_
  refine Go_iload d_B_fact_1 lg1 ?_
  refine Go_V1p d_B_fact_2 (kB (by first | assumption | decide | omega)) (c_B_hasRound _ (by omega) (by first | assumption | decide) hB hN) (Nat.le_of_ble_eq_true rfl) ?_
  refine Go_ifeq_d d_B_fact_5 (fun h5 => ?_) (fun h5 => ?_)
  · refine Go_const d_B_fact_31 ?_
    first
      | exact Go_iretV d_B_fact_32 (by rw [if_pos (by omega)]; exact a8 r v (by omega) (by omega) (by omega) (by omega))
      | exact Go_iretV d_B_fact_32 (by rw [if_neg (by omega)])
  · refine Go_iload d_B_fact_8 lg2 ?_
    refine Go_const d_B_fact_9 ?_
    refine Go_const d_B_fact_10 ?_
    refine Go_S3p d_B_fact_11 (c_X_within _ _ _ (by omega) (by omega) (by omega)) (Nat.le_of_ble_eq_true rfl) ?_
    refine Go_ifeq_d d_B_fact_14 (fun h14 => ?_) (fun h14 => ?_)
    · refine Go_const d_B_fact_31 ?_
      first
        | exact Go_iretV d_B_fact_32 (by rw [if_pos (by omega)]; exact a8 r v (by omega) (by omega) (by omega) (by omega))
        | exact Go_iretV d_B_fact_32 (by rw [if_neg (by omega)])
    · refine Go_aload d_B_fact_17 lg0 ⟨_, rfl⟩ ?_
      refine Go_get d_B_fact_18 (fb_11 (by first | assumption | decide | omega)) ?_
      refine Go_iload d_B_fact_21 lg1 ?_
      refine Go_const d_B_fact_22 ?_
      refine Go_imul d_B_fact_24 ?_
      refine Go_iload d_B_fact_25 lg2 ?_
      refine Go_iadd d_B_fact_26 ?_
      refine Go_iald d_B_fact_27 (ab_11 (by first | assumption | decide | omega)) (by omega) ?_
      refine Go_goto d_B_fact_28 ?_
      first
        | exact Go_iretV d_B_fact_32 (by rw [if_pos (by omega)]; exact a8 r v (by omega) (by omega) (by omega) (by omega))
        | exact Go_iretV d_B_fact_32 (by rw [if_neg (by omega)])
theorem c_B_hasOut (r k : Int) (hr0 : -2147483648 ≤ r ∧ r < 2147483648) (hk : -2147483648 ≤ k ∧ k < 2147483648) (hc : 1 ≤ c ∧ c ≤ 14) (hB : BR (S c) N) (hN : NR N) : Fn G k_B_hasOut [oR G c, vI r, vI k] S (PV (vI (bI ((0 ≤ r ∧ r < N 6) ∧ 0 ≤ k ∧ k < rof N r 1 (N 5).toNat))) S) := by
  obtain ⟨a1, ⟨a2, a3, a4, a5⟩, a6, a7, a8, a9⟩ := id hB
  obtain ⟨hr, i0, i1, i2, i3, i4, i5, i6⟩ := id hN
  have hc0 := cnt_0 N (N 5).toNat
  have hro := rof_0 N r 1 (N 5).toNat
  refine Fn.of [some (oR G c), some (vI r), some (vI k)] 0 rfl (by decide +kernel) rfl (Nat.le_of_ble_eq_true rfl) (by decide) ?_
  refine Go_aload d_B_hasOut_0 lg0 ⟨_, rfl⟩ ?_
  refine Go_iload d_B_hasOut_1 lg1 ?_
  refine Go_V1p d_B_hasOut_2 (kB (by first | assumption | decide | omega)) (c_B_hasRound _ (by omega) (by first | assumption | decide) hB hN) (Nat.le_of_ble_eq_true rfl) ?_
  refine Go_ifeq_d d_B_hasOut_5 (fun h5 => ?_) (fun h5 => ?_)
  · refine Go_const d_B_hasOut_32 ?_
    exact Go_zretV d_B_hasOut_33 (by first | exact Or.inl rfl | exact Or.inr rfl) (by
      first
        | exact (bI_pos (by omega)).symm
        | exact (bI_neg (by rintro ⟨z1, z2, z3⟩; have := (a9 r k (by omega) (by omega) (by omega) z3).2.2; omega)).symm)
  · refine Go_iload d_B_hasOut_8 lg2 ?_
    refine Go_if_lt d_B_hasOut_9 (by omega) (fun h9 => ?_) (fun h9 => ?_)
    · refine Go_const d_B_hasOut_32 ?_
      exact Go_zretV d_B_hasOut_33 (by first | exact Or.inl rfl | exact Or.inr rfl) (by
        first
          | exact (bI_pos (by omega)).symm
          | exact (bI_neg (by rintro ⟨z1, z2, z3⟩; have := (a9 r k (by omega) (by omega) (by omega) z3).2.2; omega)).symm)
    · refine Go_iload d_B_hasOut_12 lg2 ?_
      refine Go_const d_B_hasOut_13 ?_
      refine Go_icmp_ge d_B_hasOut_15 (by omega) (by omega) (fun h15 => ?_) (fun h15 => ?_)
      · refine Go_const d_B_hasOut_32 ?_
        exact Go_zretV d_B_hasOut_33 (by first | exact Or.inl rfl | exact Or.inr rfl) (by
          first
            | exact (bI_pos (by omega)).symm
            | exact (bI_neg (by rintro ⟨z1, z2, z3⟩; have := (a9 r k (by omega) (by omega) (by omega) z3).2.2; omega)).symm)
      · refine Go_iload d_B_hasOut_18 lg2 ?_
        refine Go_aload d_B_hasOut_19 lg0 ⟨_, rfl⟩ ?_
        refine Go_iload d_B_hasOut_20 lg1 ?_
        refine Go_const d_B_hasOut_21 ?_
        refine Go_V2p d_B_hasOut_22 (kB (by first | assumption | decide | omega)) (c_B_fact _ _ (by omega) (by omega) (by first | assumption | decide) hB hN) (Nat.le_of_ble_eq_true rfl) ?_
        rw [if_pos (by omega)]
        refine Go_icmp_ge d_B_hasOut_25 (by omega) (by omega) (fun h25 => ?_) (fun h25 => ?_)
        · refine Go_const d_B_hasOut_32 ?_
          exact Go_zretV d_B_hasOut_33 (by first | exact Or.inl rfl | exact Or.inr rfl) (by
            first
              | exact (bI_pos (by omega)).symm
              | exact (bI_neg (by rintro ⟨z1, z2, z3⟩; have := (a9 r k (by omega) (by omega) (by omega) z3).2.2; omega)).symm)
        · refine Go_const d_B_hasOut_28 ?_
          refine Go_goto d_B_hasOut_29 ?_
          exact Go_zretV d_B_hasOut_33 (by first | exact Or.inl rfl | exact Or.inr rfl) (by
            first
              | exact (bI_pos (by omega)).symm
              | exact (bI_neg (by rintro ⟨z1, z2, z3⟩; have := (a9 r k (by omega) (by omega) (by omega) z3).2.2; omega)).symm)
theorem c_B_outLetter (r k : Int) (hr0 : -2147483648 ≤ r ∧ r < 2147483648) (hk : -2147483648 ≤ k ∧ k < 2147483648) (hc : 1 ≤ c ∧ c ≤ 14) (hB : BR (S c) N) (hN : NR N) : Fn G k_B_outLetter [oR G c, vI r, vI k] S (PV (vI (if ((0 ≤ r ∧ r < N 6) ∧ 0 ≤ k ∧ k < rof N r 1 (N 5).toNat) then lout N r k (N 5).toNat else -4)) S) := by
  obtain ⟨a1, ⟨a2, a3, a4, a5⟩, a6, a7, a8, a9⟩ := id hB
  obtain ⟨hr, i0, i1, i2, i3, i4, i5, i6⟩ := id hN
  have hc0 := cnt_0 N (N 5).toNat
  have hro := rof_0 N r 1 (N 5).toNat
  refine Fn.of [some (oR G c), some (vI r), some (vI k)] 0 rfl (by decide +kernel) rfl (Nat.le_of_ble_eq_true rfl) (by decide) ?_
  refine Go_aload d_B_outLetter_0 lg0 ⟨_, rfl⟩ ?_
  refine Go_iload d_B_outLetter_1 lg1 ?_
  refine Go_iload d_B_outLetter_2 lg2 ?_
  refine Go_V2p d_B_outLetter_3 (kB (by first | assumption | decide | omega)) (c_B_hasOut _ _ (by omega) (by omega) (by first | assumption | decide) hB hN) (Nat.le_of_ble_eq_true rfl) ?_
  refine Go_ifeq_d d_B_outLetter_6 (fun h6 => ?_) (fun h6 => ?_)
  · refine Go_const d_B_outLetter_23 ?_
    first
      | exact Go_iretV d_B_outLetter_25 (by rw [if_pos h6]; exact (a9 r k (by omega) (by omega) (by omega) (by omega)).1)
      | exact Go_iretV d_B_outLetter_25 (by rw [if_neg h6])
  · refine Go_aload d_B_outLetter_9 lg0 ⟨_, rfl⟩ ?_
    refine Go_get d_B_outLetter_10 (fb_12 (by first | assumption | decide | omega)) ?_
    refine Go_iload d_B_outLetter_13 lg1 ?_
    refine Go_const d_B_outLetter_14 ?_
    refine Go_imul d_B_outLetter_16 ?_
    refine Go_iload d_B_outLetter_17 lg2 ?_
    refine Go_iadd d_B_outLetter_18 ?_
    refine Go_iald d_B_outLetter_19 (ab_12 (by first | assumption | decide | omega)) (by have := (a9 r k (by omega) (by omega) (by omega) (by omega)).2.2; omega) ?_
    refine Go_goto d_B_outLetter_20 ?_
    first
      | exact Go_iretV d_B_outLetter_25 (by rw [if_pos h6]; exact (a9 r k (by omega) (by omega) (by omega) (by omega)).1)
      | exact Go_iretV d_B_outLetter_25 (by rw [if_neg h6])
theorem c_B_senderOf (i : Int) (hi : -2147483648 ≤ i ∧ i < 2147483648) (hc : 1 ≤ c ∧ c ≤ 14) (hB : BR (S c) N) (hN : NR N) : Fn G k_B_senderOf [oR G c, vI i] S (PV (vI (if 0 ≤ i ∧ i < N 5 then lf N i 0 else -4)) S) := by
  obtain ⟨a1, ⟨a2, a3, a4, a5⟩, a6, a7, a8, a9⟩ := id hB
  obtain ⟨hr, i0, i1, i2, i3, i4, i5, i6⟩ := id hN
  have hc0 := cnt_0 N (N 5).toNat
  refine Fn.of [some (oR G c), some (vI i)] 0 rfl (by decide +kernel) rfl (Nat.le_of_ble_eq_true rfl) (by decide) ?_
  refine Go_aload d_B_senderOf_0 lg0 ⟨_, rfl⟩ ?_
  refine Go_iload d_B_senderOf_1 lg1 ?_
  refine Go_V1p d_B_senderOf_2 (kB (by first | assumption | decide | omega)) (c_B_hasLetter _ (by omega) (by first | assumption | decide) hB hN) (Nat.le_of_ble_eq_true rfl) ?_
  refine Go_ifeq_d d_B_senderOf_5 (fun h5 => ?_) (fun h5 => ?_)
  · refine Go_const d_B_senderOf_17 ?_
    first
      | exact Go_iretV d_B_senderOf_19 (by rw [if_pos h5]; exact (a6 i (by omega) (by omega)).1)
      | exact Go_iretV d_B_senderOf_19 (by rw [if_neg h5])
  · refine Go_aload d_B_senderOf_8 lg0 ⟨_, rfl⟩ ?_
    refine Go_get d_B_senderOf_9 (fb_3 (by first | assumption | decide | omega)) ?_
    refine Go_iload d_B_senderOf_12 lg1 ?_
    refine Go_iald d_B_senderOf_13 (ab_3 (by first | assumption | decide | omega)) (by omega) ?_
    refine Go_goto d_B_senderOf_14 ?_
    first
      | exact Go_iretV d_B_senderOf_19 (by rw [if_pos h5]; exact (a6 i (by omega) (by omega)).1)
      | exact Go_iretV d_B_senderOf_19 (by rw [if_neg h5])
theorem c_B_receiverOf (i : Int) (hi : -2147483648 ≤ i ∧ i < 2147483648) (hc : 1 ≤ c ∧ c ≤ 14) (hB : BR (S c) N) (hN : NR N) : Fn G k_B_receiverOf [oR G c, vI i] S (PV (vI (if 0 ≤ i ∧ i < N 5 then lf N i 1 else -4)) S) := by
  obtain ⟨a1, ⟨a2, a3, a4, a5⟩, a6, a7, a8, a9⟩ := id hB
  obtain ⟨hr, i0, i1, i2, i3, i4, i5, i6⟩ := id hN
  have hc0 := cnt_0 N (N 5).toNat
  refine Fn.of [some (oR G c), some (vI i)] 0 rfl (by decide +kernel) rfl (Nat.le_of_ble_eq_true rfl) (by decide) ?_
  refine Go_aload d_B_receiverOf_0 lg0 ⟨_, rfl⟩ ?_
  refine Go_iload d_B_receiverOf_1 lg1 ?_
  refine Go_V1p d_B_receiverOf_2 (kB (by first | assumption | decide | omega)) (c_B_hasLetter _ (by omega) (by first | assumption | decide) hB hN) (Nat.le_of_ble_eq_true rfl) ?_
  refine Go_ifeq_d d_B_receiverOf_5 (fun h5 => ?_) (fun h5 => ?_)
  · refine Go_const d_B_receiverOf_17 ?_
    first
      | exact Go_iretV d_B_receiverOf_19 (by rw [if_pos h5]; exact (a6 i (by omega) (by omega)).2.1)
      | exact Go_iretV d_B_receiverOf_19 (by rw [if_neg h5])
  · refine Go_aload d_B_receiverOf_8 lg0 ⟨_, rfl⟩ ?_
    refine Go_get d_B_receiverOf_9 (fb_4 (by first | assumption | decide | omega)) ?_
    refine Go_iload d_B_receiverOf_12 lg1 ?_
    refine Go_iald d_B_receiverOf_13 (ab_4 (by first | assumption | decide | omega)) (by omega) ?_
    refine Go_goto d_B_receiverOf_14 ?_
    first
      | exact Go_iretV d_B_receiverOf_19 (by rw [if_pos h5]; exact (a6 i (by omega) (by omega)).2.1)
      | exact Go_iretV d_B_receiverOf_19 (by rw [if_neg h5])
theorem c_B_firstOf (i : Int) (hi : -2147483648 ≤ i ∧ i < 2147483648) (hc : 1 ≤ c ∧ c ≤ 14) (hB : BR (S c) N) (hN : NR N) : Fn G k_B_firstOf [oR G c, vI i] S (PV (vI (if 0 ≤ i ∧ i < N 5 then lf N i 2 else -4)) S) := by
  obtain ⟨a1, ⟨a2, a3, a4, a5⟩, a6, a7, a8, a9⟩ := id hB
  obtain ⟨hr, i0, i1, i2, i3, i4, i5, i6⟩ := id hN
  have hc0 := cnt_0 N (N 5).toNat
  refine Fn.of [some (oR G c), some (vI i)] 0 rfl (by decide +kernel) rfl (Nat.le_of_ble_eq_true rfl) (by decide) ?_
  refine Go_aload d_B_firstOf_0 lg0 ⟨_, rfl⟩ ?_
  refine Go_iload d_B_firstOf_1 lg1 ?_
  refine Go_V1p d_B_firstOf_2 (kB (by first | assumption | decide | omega)) (c_B_hasLetter _ (by omega) (by first | assumption | decide) hB hN) (Nat.le_of_ble_eq_true rfl) ?_
  refine Go_ifeq_d d_B_firstOf_5 (fun h5 => ?_) (fun h5 => ?_)
  · refine Go_const d_B_firstOf_17 ?_
    first
      | exact Go_iretV d_B_firstOf_19 (by rw [if_pos h5]; exact (a6 i (by omega) (by omega)).2.2.1)
      | exact Go_iretV d_B_firstOf_19 (by rw [if_neg h5])
  · refine Go_aload d_B_firstOf_8 lg0 ⟨_, rfl⟩ ?_
    refine Go_get d_B_firstOf_9 (fb_5 (by first | assumption | decide | omega)) ?_
    refine Go_iload d_B_firstOf_12 lg1 ?_
    refine Go_iald d_B_firstOf_13 (ab_5 (by first | assumption | decide | omega)) (by omega) ?_
    refine Go_goto d_B_firstOf_14 ?_
    first
      | exact Go_iretV d_B_firstOf_19 (by rw [if_pos h5]; exact (a6 i (by omega) (by omega)).2.2.1)
      | exact Go_iretV d_B_firstOf_19 (by rw [if_neg h5])
theorem c_B_isOwnOut (r k : Int) (hr0 : -2147483648 ≤ r ∧ r < 2147483648) (hk : -2147483648 ≤ k ∧ k < 2147483648) (hc : 1 ≤ c ∧ c ≤ 14) (hB : BR (S c) N) (hN : NR N) : Fn G k_B_isOwnOut [oR G c, vI r, vI k] S (PV (vI (bI (((0 ≤ r ∧ r < N 6) ∧ 0 ≤ k ∧ k < rof N r 1 (N 5).toNat) ∧ lf N (lout N r k (N 5).toNat) 0 = 9))) S) := by
  obtain ⟨a1, ⟨a2, a3, a4, a5⟩, a6, a7, a8, a9⟩ := id hB
  obtain ⟨hr, i0, i1, i2, i3, i4, i5, i6⟩ := id hN
  have hc0 := cnt_0 N (N 5).toNat
  have hlo := lout_rg N r k (N 5).toNat
  have hrr := hr (7 + 5 * (lout N r k (N 5).toNat) + 0).toNat
  have hlf : -2147483648 ≤ lf N (lout N r k (N 5).toNat) 0 ∧ lf N (lout N r k (N 5).toNat) 0 < 2147483648 := hrr
  refine Fn.of [some (oR G c), some (vI r), some (vI k)] 0 rfl (by decide +kernel) rfl (Nat.le_of_ble_eq_true rfl) (by decide) ?_
  refine Go_aload d_B_isOwnOut_0 lg0 ⟨_, rfl⟩ ?_
  refine Go_aload d_B_isOwnOut_1 lg0 ⟨_, rfl⟩ ?_
  refine Go_iload d_B_isOwnOut_2 lg1 ?_
  refine Go_iload d_B_isOwnOut_3 lg2 ?_
  refine Go_V2p d_B_isOwnOut_4 (kB (by first | assumption | decide | omega)) (c_B_outLetter _ _ (by omega) (by omega) (by first | assumption | decide) hB hN) (Nat.le_of_ble_eq_true rfl) ?_
  refine Go_V1p d_B_isOwnOut_7 (kB (by first | assumption | decide | omega)) (c_B_senderOf _ (by split <;> omega) (by first | assumption | decide) hB hN) (Nat.le_of_ble_eq_true rfl) ?_
  refine Go_const d_B_isOwnOut_10 ?_
  refine Go_icmp_ne d_B_isOwnOut_12 (by (repeat' split) <;> omega) (by omega) (fun h12 => ?_) (fun h12 => ?_)
  · refine Go_const d_B_isOwnOut_19 ?_
    exact Go_zretV d_B_isOwnOut_20 (by first | exact Or.inl rfl | exact Or.inr rfl) (by
      by_cases hq : ((0 ≤ r ∧ r < N 6) ∧ 0 ≤ k ∧ k < rof N r 1 (N 5).toNat)
      · rw [if_pos hq] at h12
        have hl0 := (a9 r k (by omega) (by omega) (by omega) (by omega)).2.1
        rw [if_pos (by omega)] at h12
        first | exact (bI_pos (by omega)).symm | exact (bI_neg (by omega)).symm
      · rw [if_neg hq, if_neg (by omega)] at h12
        first | (exfalso; omega) | exact (bI_neg (fun z => hq z.1)).symm)
  · refine Go_const d_B_isOwnOut_15 ?_
    refine Go_goto d_B_isOwnOut_16 ?_
    exact Go_zretV d_B_isOwnOut_20 (by first | exact Or.inl rfl | exact Or.inr rfl) (by
      by_cases hq : ((0 ≤ r ∧ r < N 6) ∧ 0 ≤ k ∧ k < rof N r 1 (N 5).toNat)
      · rw [if_pos hq] at h12
        have hl0 := (a9 r k (by omega) (by omega) (by omega) (by omega)).2.1
        rw [if_pos (by omega)] at h12
        first | exact (bI_pos (by omega)).symm | exact (bI_neg (by omega)).symm
      · rw [if_neg hq, if_neg (by omega)] at h12
        first | (exfalso; omega) | exact (bI_neg (fun z => hq z.1)).symm)
theorem c_B_nextDraw (hc : 1 ≤ c ∧ c ≤ 14) (hB : BR (S c) N) (hN : NR N) : Fn G k_B_nextDraw [oR G c] S (PI (fun z S1 => z = dr (N 4) / 65536 ∧ S1 = sB S c (ub (S c) 1 0 (dr (N 4))))) := by
  obtain ⟨a1, ⟨a2, a3, a4, a5⟩, a6, a7, a8, a9⟩ := id hB
  obtain ⟨hr, i0, i1, i2, i3, i4, i5, i6⟩ := id hN
  have hc0 := cnt_0 N (N 5).toNat
  have hd := dr_rg (N 4)
  have he : (S c 1 0 * 1103515245 + 12345) % 2147483648 = dr (N 4) := by rw [a2]; rfl
  refine Fn.of [some (oR G c)] 0 rfl (by decide +kernel) rfl (Nat.le_of_ble_eq_true rfl) (by decide) ?_
  refine Go_aload d_B_nextDraw_0 lg0 ⟨_, rfl⟩ ?_
  refine Go_aload d_B_nextDraw_1 lg0 ⟨_, rfl⟩ ?_
  refine Go_get d_B_nextDraw_2 (fb_1 (by first | assumption | decide | omega)) ?_
  refine Go_const d_B_nextDraw_5 ?_
  refine Go_imul d_B_nextDraw_7 ?_
  refine Go_const d_B_nextDraw_8 ?_
  refine Go_iadd d_B_nextDraw_11 ?_
  refine Go_const d_B_nextDraw_12 ?_
  refine Go_andM d_B_nextDraw_14 ?_
  rw [he]
  refine Go_put d_B_nextDraw_15 (wb_1 (by first | assumption | decide | omega) _) rfl rfl ?_
  refine Go_aload d_B_nextDraw_18 lg0 ⟨_, rfl⟩ ?_
  refine Go_get d_B_nextDraw_19 (fb_1 (by first | assumption | decide | omega)) ?_
  rw [st3_s]
  refine Go_const d_B_nextDraw_22 ?_
  refine Go_shr16 d_B_nextDraw_24 (by omega) ?_
  exact Go_iretI d_B_nextDraw_25 ⟨rfl, st3_sB _ _ _ _ _⟩
noncomputable def lvV (N : Row) (p : Int) (T : Prop) (x : Int) : Int := cif (begP N p T x) (shr N p (x + N 3)) 0
theorem c_B_leaving (p x : Int) (T : Prop) [Decidable T] (hc : 1 ≤ c ∧ c ≤ 14) (hp : p = 0 ∨ p = 1 ∨ p = 2 ∨ p = 3) (hx : 0 ≤ x ∧ x ≤ 1000) (hT : ∀ k : Nat, k < 4 → S c 0 k = N k) (hN : NR N) : Fn G k_B_leaving [vI p, aR G c 0, vI x, vI (bI T)] S (PV (vI (lvV N p T x)) S) := by
  obtain ⟨hr, i0, i1, i2, i3, i4, i5, i6⟩ := id hN
  have t1 := hT 1 (by decide)
  have t2 := hT 2 (by decide)
  have t3 := hT 3 (by decide)
  refine Fn.of [some (vI p), some (aR G c 0), some (vI x), some (vI (bI T)), none] 1 rfl (by decide +kernel) rfl (Nat.le_of_ble_eq_true rfl) (by decide) ?_
  refine Go_iload d_B_leaving_0 lg2 ?_
  refine Go_aload d_B_leaving_1 lg1 ⟨_, rfl⟩ ?_
  refine Go_const d_B_leaving_2 ?_
  refine Go_ialdC (k0 := 3) d_B_leaving_3 (ab_0 (by first | assumption | decide | omega)) rfl (by decide) ?_
  refine Go_iadd d_B_leaving_4 ?_
  refine Go_istore d_B_leaving_5 rfl sa4 ?_
  refine Go_iload d_B_leaving_7 lg0 ?_
  rcases hp with rfl | rfl | rfl | rfl
  · refine Go_tswIn (t := 40) d_B_leaving_8 (by decide) (by decide) (by decide) rfl (by decide) ?_
    refine Go_iload d_B_leaving_40 lg3 ?_
    refine Go_ifne_d d_B_leaving_41 (fun h41 => ?_) (fun h41 => ?_)
    · refine Go_const d_B_leaving_56 ?_
      first
        | exact Go_iretV d_B_leaving_57 (by unfold lvV; rw [cif_pos (by simp [begP]; first | omega | (refine ⟨?_, ?_⟩ <;> first | assumption | omega))]; simp [shr]; omega)
        | exact Go_iretV d_B_leaving_57 (by unfold lvV; rw [cif_neg (by simp [begP]; first | omega | (intros; first | omega | contradiction))])
    · refine Go_iload d_B_leaving_44 lg2 ?_
      refine Go_aload d_B_leaving_45 lg1 ⟨_, rfl⟩ ?_
      refine Go_const d_B_leaving_46 ?_
      refine Go_ialdC (k0 := 1) d_B_leaving_47 (ab_0 (by first | assumption | decide | omega)) rfl (by decide) ?_
      refine Go_icmp_lt d_B_leaving_48 (by omega) (by omega) (fun h48 => ?_) (fun h48 => ?_)
      · refine Go_const d_B_leaving_56 ?_
        first
          | exact Go_iretV d_B_leaving_57 (by unfold lvV; rw [cif_pos (by simp [begP]; first | omega | (refine ⟨?_, ?_⟩ <;> first | assumption | omega))]; simp [shr]; omega)
          | exact Go_iretV d_B_leaving_57 (by unfold lvV; rw [cif_neg (by simp [begP]; first | omega | (intros; first | omega | contradiction))])
      · refine Go_iload d_B_leaving_51 lg4 ?_
        refine Go_goto d_B_leaving_53 ?_
        first
          | exact Go_iretV d_B_leaving_57 (by unfold lvV; rw [cif_pos (by simp [begP]; first | omega | (refine ⟨?_, ?_⟩ <;> first | assumption | omega))]; simp [shr]; omega)
          | exact Go_iretV d_B_leaving_57 (by unfold lvV; rw [cif_neg (by simp [begP]; first | omega | (intros; first | omega | contradiction))])
  · refine Go_tswIn (t := 58) d_B_leaving_8 (by decide) (by decide) (by decide) rfl (by decide) ?_
    refine Go_iload d_B_leaving_58 lg3 ?_
    refine Go_ifne_d d_B_leaving_59 (fun h59 => ?_) (fun h59 => ?_)
    · refine Go_const d_B_leaving_82 ?_
      first
        | exact Go_iretV d_B_leaving_83 (by unfold lvV; rw [cif_pos (by simp [begP]; first | omega | (refine ⟨?_, ?_⟩ <;> first | assumption | omega))]; simp [shr]; omega)
        | exact Go_iretV d_B_leaving_83 (by unfold lvV; rw [cif_neg (by simp [begP]; first | omega | (intros; first | omega | contradiction))])
    · refine Go_iload d_B_leaving_62 lg2 ?_
      refine Go_aload d_B_leaving_63 lg1 ⟨_, rfl⟩ ?_
      refine Go_const d_B_leaving_64 ?_
      refine Go_ialdC (k0 := 1) d_B_leaving_65 (ab_0 (by first | assumption | decide | omega)) rfl (by decide) ?_
      refine Go_aload d_B_leaving_66 lg1 ⟨_, rfl⟩ ?_
      refine Go_const d_B_leaving_67 ?_
      refine Go_ialdC (k0 := 2) d_B_leaving_68 (ab_0 (by first | assumption | decide | omega)) rfl (by decide) ?_
      refine Go_iadd d_B_leaving_69 ?_
      refine Go_icmp_lt d_B_leaving_70 (by omega) (by omega) (fun h70 => ?_) (fun h70 => ?_)
      · refine Go_const d_B_leaving_82 ?_
        first
          | exact Go_iretV d_B_leaving_83 (by unfold lvV; rw [cif_pos (by simp [begP]; first | omega | (refine ⟨?_, ?_⟩ <;> first | assumption | omega))]; simp [shr]; omega)
          | exact Go_iretV d_B_leaving_83 (by unfold lvV; rw [cif_neg (by simp [begP]; first | omega | (intros; first | omega | contradiction))])
      · refine Go_iload d_B_leaving_73 lg4 ?_
        refine Go_aload d_B_leaving_75 lg1 ⟨_, rfl⟩ ?_
        refine Go_const d_B_leaving_76 ?_
        refine Go_ialdC (k0 := 2) d_B_leaving_77 (ab_0 (by first | assumption | decide | omega)) rfl (by decide) ?_
        refine Go_isub d_B_leaving_78 ?_
        refine Go_goto d_B_leaving_79 ?_
        first
          | exact Go_iretV d_B_leaving_83 (by unfold lvV; rw [cif_pos (by simp [begP]; first | omega | (refine ⟨?_, ?_⟩ <;> first | assumption | omega))]; simp [shr]; omega)
          | exact Go_iretV d_B_leaving_83 (by unfold lvV; rw [cif_neg (by simp [begP]; first | omega | (intros; first | omega | contradiction))])
  · refine Go_tswIn (t := 84) d_B_leaving_8 (by decide) (by decide) (by decide) rfl (by decide) ?_
    refine Go_iload d_B_leaving_84 lg3 ?_
    refine Go_ifeq_d d_B_leaving_85 (fun h85 => ?_) (fun h85 => ?_)
    · refine Go_const d_B_leaving_104 ?_
      first
        | exact Go_iretV d_B_leaving_105 (by unfold lvV; rw [cif_pos (by simp [begP]; first | omega | (refine ⟨?_, ?_⟩ <;> first | assumption | omega))]; simp [shr]; omega)
        | exact Go_iretV d_B_leaving_105 (by unfold lvV; rw [cif_neg (by simp [begP]; first | omega | (intros; first | omega | contradiction))])
    · refine Go_iload d_B_leaving_88 lg2 ?_
      refine Go_aload d_B_leaving_89 lg1 ⟨_, rfl⟩ ?_
      refine Go_const d_B_leaving_90 ?_
      refine Go_ialdC (k0 := 2) d_B_leaving_91 (ab_0 (by first | assumption | decide | omega)) rfl (by decide) ?_
      refine Go_icmp_le d_B_leaving_92 (by omega) (by omega) (fun h92 => ?_) (fun h92 => ?_)
      · refine Go_const d_B_leaving_104 ?_
        first
          | exact Go_iretV d_B_leaving_105 (by unfold lvV; rw [cif_pos (by simp [begP]; first | omega | (refine ⟨?_, ?_⟩ <;> first | assumption | omega))]; simp [shr]; omega)
          | exact Go_iretV d_B_leaving_105 (by unfold lvV; rw [cif_neg (by simp [begP]; first | omega | (intros; first | omega | contradiction))])
      · refine Go_iload d_B_leaving_95 lg4 ?_
        refine Go_aload d_B_leaving_97 lg1 ⟨_, rfl⟩ ?_
        refine Go_const d_B_leaving_98 ?_
        refine Go_ialdC (k0 := 2) d_B_leaving_99 (ab_0 (by first | assumption | decide | omega)) rfl (by decide) ?_
        refine Go_isub d_B_leaving_100 ?_
        refine Go_goto d_B_leaving_101 ?_
        first
          | exact Go_iretV d_B_leaving_105 (by unfold lvV; rw [cif_pos (by simp [begP]; first | omega | (refine ⟨?_, ?_⟩ <;> first | assumption | omega))]; simp [shr]; omega)
          | exact Go_iretV d_B_leaving_105 (by unfold lvV; rw [cif_neg (by simp [begP]; first | omega | (intros; first | omega | contradiction))])
  · refine Go_tswIn (t := 106) d_B_leaving_8 (by decide) (by decide) (by decide) rfl (by decide) ?_
    refine Go_iload d_B_leaving_106 lg3 ?_
    refine Go_ifeq_d d_B_leaving_107 (fun h107 => ?_) (fun h107 => ?_)
    · refine Go_const d_B_leaving_123 ?_
      first
        | exact Go_iretV d_B_leaving_124 (by unfold lvV; rw [cif_pos (by simp [begP]; first | omega | (refine ⟨?_, ?_⟩ <;> first | assumption | omega))]; simp [shr]; omega)
        | exact Go_iretV d_B_leaving_124 (by unfold lvV; rw [cif_neg (by simp [begP]; first | omega | (intros; first | omega | contradiction))])
    · refine Go_iload d_B_leaving_110 lg2 ?_
      refine Go_if_le d_B_leaving_111 (by omega) (fun h111 => ?_) (fun h111 => ?_)
      · refine Go_const d_B_leaving_123 ?_
        first
          | exact Go_iretV d_B_leaving_124 (by unfold lvV; rw [cif_pos (by simp [begP]; first | omega | (refine ⟨?_, ?_⟩ <;> first | assumption | omega))]; simp [shr]; omega)
          | exact Go_iretV d_B_leaving_124 (by unfold lvV; rw [cif_neg (by simp [begP]; first | omega | (intros; first | omega | contradiction))])
      · refine Go_iload d_B_leaving_114 lg4 ?_
        refine Go_const d_B_leaving_116 ?_
        refine Go_iadd d_B_leaving_117 ?_
        refine Go_const d_B_leaving_118 ?_
        refine Go_idiv d_B_leaving_119 (by omega) (by omega) ?_
        refine Go_goto d_B_leaving_120 ?_
        first
          | exact Go_iretV d_B_leaving_124 (by unfold lvV; rw [cif_pos (by simp [begP]; first | omega | (refine ⟨?_, ?_⟩ <;> first | assumption | omega))]; simp [shr]; omega)
          | exact Go_iretV d_B_leaving_124 (by unfold lvV; rw [cif_neg (by simp [begP]; first | omega | (intros; first | omega | contradiction))])
theorem c_B_add (s r0 : Int) (hc : 1 ≤ c ∧ c ≤ 14) (hB : BR (S c) N) (hN : NR N) (h79 : N 5 < 79) (h15 : cnt N (N 5).toNat < 15) : Fn G k_B_add [oR G c, vI s, vI r0] S (PN (fun S1 => S1 = sB S c (addB (S c) s r0))) := by
  obtain ⟨a1, ⟨a2, a3, a4, a5⟩, a6, a7, a8, a9⟩ := id hB
  obtain ⟨hr, i0, i1, i2, i3, i4, i5, i6⟩ := id hN
  have hc0 := cnt_0 N (N 5).toNat
  refine Fn.of [some (oR G c), some (vI s), some (vI r0)] 0 rfl (by decide +kernel) rfl (Nat.le_of_ble_eq_true rfl) (by decide) ?_
  refine Go_aload d_B_add_0 lg0 ⟨_, rfl⟩ ?_
  refine Go_get d_B_add_1 (fb_2 (by first | assumption | decide | omega)) ?_
  refine Go_const d_B_add_4 ?_
  refine Go_icmp_ge d_B_add_6 (by omega) (by omega) (fun h6 => absurd h6 (by omega)) (fun h6 => ?_)
  refine Go_aload d_B_add_9 lg0 ⟨_, rfl⟩ ?_
  refine Go_get d_B_add_10 (fb_8 (by first | assumption | decide | omega)) ?_
  refine Go_const d_B_add_13 ?_
  refine Go_icmp_lt d_B_add_15 (by omega) (by omega) (fun h15 => ?_) (fun h15 => absurd h15 (by omega))
  refine Go_aload d_B_add_19 lg0 ⟨_, rfl⟩ ?_
  refine Go_get d_B_add_20 (fb_3 (by first | assumption | decide | omega)) ?_
  refine Go_aload d_B_add_23 lg0 ⟨_, rfl⟩ ?_
  refine Go_get d_B_add_24 (fb_2 (by first | assumption | decide | omega)) ?_
  refine Go_iload d_B_add_27 lg1 ?_
  refine Go_iast d_B_add_28 (ab_3 (by first | assumption | decide | omega)) (by omega) ?_
  refine Go_aload d_B_add_29 lg0 ⟨_, rfl⟩ ?_
  refine Go_get d_B_add_30 (fb_4 (by first | assumption | decide | omega)) ?_
  refine Go_aload d_B_add_33 lg0 ⟨_, rfl⟩ ?_
  refine Go_get d_B_add_34 (fb_2 (by first | assumption | decide | omega)) ?_
  rw [st3_j (by decide)]
  refine Go_iload d_B_add_37 lg2 ?_
  refine Go_iast d_B_add_38 (ab_4 (by first | assumption | decide | omega)) (by omega) ?_
  refine Go_aload d_B_add_39 lg0 ⟨_, rfl⟩ ?_
  refine Go_get d_B_add_40 (fb_5 (by first | assumption | decide | omega)) ?_
  refine Go_aload d_B_add_43 lg0 ⟨_, rfl⟩ ?_
  refine Go_get d_B_add_44 (fb_2 (by first | assumption | decide | omega)) ?_
  rw [st3_j (by decide), st3_j (by decide)]
  refine Go_aload d_B_add_47 lg0 ⟨_, rfl⟩ ?_
  refine Go_get d_B_add_48 (fb_10 (by first | assumption | decide | omega)) ?_
  rw [st3_j (by decide), st3_j (by decide)]
  refine Go_iast d_B_add_51 (ab_5 (by first | assumption | decide | omega)) (by omega) ?_
  refine Go_aload d_B_add_52 lg0 ⟨_, rfl⟩ ?_
  refine Go_get d_B_add_53 (fb_6 (by first | assumption | decide | omega)) ?_
  refine Go_aload d_B_add_56 lg0 ⟨_, rfl⟩ ?_
  refine Go_get d_B_add_57 (fb_2 (by first | assumption | decide | omega)) ?_
  rw [st3_j (by decide), st3_j (by decide), st3_j (by decide)]
  refine Go_const d_B_add_60 ?_
  refine Go_iast d_B_add_62 (ab_6 (by first | assumption | decide | omega)) (by omega) ?_
  refine Go_aload d_B_add_63 lg0 ⟨_, rfl⟩ ?_
  refine Go_get d_B_add_64 (fb_7 (by first | assumption | decide | omega)) ?_
  refine Go_aload d_B_add_67 lg0 ⟨_, rfl⟩ ?_
  refine Go_get d_B_add_68 (fb_2 (by first | assumption | decide | omega)) ?_
  rw [st3_j (by decide), st3_j (by decide), st3_j (by decide), st3_j (by decide)]
  refine Go_const d_B_add_71 ?_
  refine Go_iast d_B_add_73 (ab_7 (by first | assumption | decide | omega)) (by omega) ?_
  refine Go_aload d_B_add_74 lg0 ⟨_, rfl⟩ ?_
  refine Go_get d_B_add_75 (fb_9 (by first | assumption | decide | omega)) ?_
  refine Go_aload d_B_add_78 lg0 ⟨_, rfl⟩ ?_
  refine Go_get d_B_add_79 (fb_8 (by first | assumption | decide | omega)) ?_
  rw [st3_j (by decide), st3_j (by decide), st3_j (by decide), st3_j (by decide), st3_j (by decide)]
  refine Go_aload d_B_add_82 lg0 ⟨_, rfl⟩ ?_
  refine Go_get d_B_add_83 (fb_2 (by first | assumption | decide | omega)) ?_
  rw [st3_j (by decide), st3_j (by decide), st3_j (by decide), st3_j (by decide), st3_j (by decide)]
  refine Go_iast d_B_add_86 (ab_9 (by first | assumption | decide | omega)) (by omega) ?_
  refine Go_aload d_B_add_87 lg0 ⟨_, rfl⟩ ?_
  refine Go_dup d_B_add_88 rfl ?_
  refine Go_get d_B_add_89 (fb_8 (by first | assumption | decide | omega)) ?_
  rw [st3_j (by decide), st3_j (by decide), st3_j (by decide), st3_j (by decide), st3_j (by decide), st3_j (by decide)]
  refine Go_const d_B_add_92 ?_
  refine Go_iadd d_B_add_93 ?_
  refine Go_put d_B_add_94 (wb_8 (by first | assumption | decide | omega) _) rfl rfl ?_
  refine Go_aload d_B_add_97 lg0 ⟨_, rfl⟩ ?_
  refine Go_dup d_B_add_98 rfl ?_
  refine Go_get d_B_add_99 (fb_2 (by first | assumption | decide | omega)) ?_
  rw [st3_j (by decide), st3_j (by decide), st3_j (by decide), st3_j (by decide), st3_j (by decide), st3_j (by decide), st3_j (by decide)]
  refine Go_const d_B_add_102 ?_
  refine Go_iadd d_B_add_103 ?_
  refine Go_put d_B_add_104 (wb_2 (by first | assumption | decide | omega) _) rfl rfl ?_
  exact Go_vretN d_B_add_107 (by unfold addB; simp only [st3_sB, sB_sB, sB_s])
theorem c_B_ownWaiting (hc : 1 ≤ c ∧ c ≤ 14) (hB : BR (S c) N) (hN : NR N) (h15 : cnt N (N 5).toNat ≤ 15) : Fn G k_B_ownWaiting [oR G c] S (PV (vI (ow N (N 5).toNat)) S) := by
  obtain ⟨a1, ⟨a2, a3, a4, a5⟩, a6, a7, a8, a9⟩ := id hB
  obtain ⟨hr, i0, i1, i2, i3, i4, i5, i6⟩ := id hN
  have hc0 := cnt_0 N (N 5).toNat
  refine Fn.of [some (oR G c), none, none, none] 3 rfl (by decide +kernel) rfl (Nat.le_of_ble_eq_true rfl) (by decide) ?_

  have loop := loopI (fun k => ∀ n : Int, n = cP (fun k => lf N (sat N k (N 5).toNat) 0 = 9) k.toNat → Go G k_B_ownWaiting 4 [some (oR G c), some (vI n), some (vI k), none] [] S (PV (vI (ow N (N 5).toNat)) S)) (cnt N (N 5).toNat) ?_ ?_
  refine Go_const d_B_ownWaiting_0 ?_
  refine Go_istore d_B_ownWaiting_1 rfl sa1 ?_
  refine Go_const d_B_ownWaiting_2 ?_
  refine Go_istore d_B_ownWaiting_3 rfl sa2 ?_
  exact loop 0 (by omega) (by omega) 0 rfl
  · intro n hn
    refine Go_iload d_B_ownWaiting_4 lg2 ?_
    refine Go_aload d_B_ownWaiting_5 lg0 ⟨_, rfl⟩ ?_
    refine Go_get d_B_ownWaiting_6 (fb_8 (by first | assumption | decide | omega)) ?_
    refine Go_icmp_ge d_B_ownWaiting_9 (by omega) (by omega) (fun h9 => ?_) (fun h9 => absurd h9 (by omega))
    refine Go_iload d_B_ownWaiting_53 lg1 ?_
    exact Go_iretV d_B_ownWaiting_54 (by rw [hn, ow_sum _ (Nat.le_refl _)])
  · intro k h0 h1 ih n hn
    have h9 := a7 k h0 h1
    obtain ⟨i, q1, q2, q3, q4⟩ := sat_ex (N := N) (n := (N 5).toNat) h0 h1
    have l3 := (a6 (i : Int) (by omega) (by omega)).1
    have e9 : S c 9 k.toNat = (i : Int) := by rw [h9, q4]
    have hri := hr (7 + 5 * (i : Int) + 0).toNat
    have hli : -2147483648 ≤ lf N (i : Int) 0 ∧ lf N (i : Int) 0 < 2147483648 := hri
    rw [show ((i : Int)).toNat = i by omega] at l3
    have hpS := cP_S (fun k => lf N (sat N k (N 5).toNat) 0 = 9) h0
    try dsimp only at hpS
    rw [q4] at hpS
    refine Go_iload d_B_ownWaiting_4 lg2 ?_
    refine Go_aload d_B_ownWaiting_5 lg0 ⟨_, rfl⟩ ?_
    refine Go_get d_B_ownWaiting_6 (fb_8 (by first | assumption | decide | omega)) ?_
    refine Go_icmp_ge d_B_ownWaiting_9 (by omega) (by omega) (fun h9 => absurd h9 (by omega)) (fun h9 => ?_)
    refine Go_iload d_B_ownWaiting_12 lg2 ?_
    refine Go_const d_B_ownWaiting_13 ?_
    refine Go_icmp_ge d_B_ownWaiting_15 (by omega) (by omega) (fun h15 => absurd h15 (by omega)) (fun h15 => ?_)
    refine Go_aload d_B_ownWaiting_18 lg0 ⟨_, rfl⟩ ?_
    refine Go_get d_B_ownWaiting_19 (fb_9 (by first | assumption | decide | omega)) ?_
    refine Go_iload d_B_ownWaiting_22 lg2 ?_
    refine Go_iald d_B_ownWaiting_23 (ab_9 (by first | assumption | decide | omega)) (by omega) ?_
    rw [e9]
    refine Go_istore d_B_ownWaiting_24 rfl sa3 ?_
    refine Go_aload d_B_ownWaiting_25 lg0 ⟨_, rfl⟩ ?_
    refine Go_iload d_B_ownWaiting_26 lg3 ?_
    refine Go_V1p d_B_ownWaiting_27 (kB (by first | assumption | decide | omega)) (c_B_hasLetter _ (by omega) (by first | assumption | decide) hB hN) (Nat.le_of_ble_eq_true rfl) ?_
    refine Go_ifeq_d d_B_ownWaiting_30 (fun h30 => absurd h30 (by omega)) (fun h30 => ?_)
    refine Go_aload d_B_ownWaiting_33 lg0 ⟨_, rfl⟩ ?_
    refine Go_get d_B_ownWaiting_34 (fb_3 (by first | assumption | decide | omega)) ?_
    refine Go_iload d_B_ownWaiting_37 lg3 ?_
    refine Go_iald d_B_ownWaiting_38 (ab_3 (by first | assumption | decide | omega)) (by omega) ?_
    refine Go_const d_B_ownWaiting_39 ?_
    refine Go_icmp_ne d_B_ownWaiting_41 (by rw [show ((i : Int)).toNat = i by omega, l3]; exact hli) (by omega) (fun h41 => ?_) (fun h41 => ?_)
    · refine Go_iinc d_B_ownWaiting_47 lg2 rfl sa2 ?_
      refine Go_goto d_B_ownWaiting_50 ?_
      refine fg3 (ih _ ?_)
      rw [hpS, hn]
      rw [show ((i : Int)).toNat = i by omega, l3] at h41
      first
        | rw [← bC1 h41]
        | rw [← bC0 h41, Int.add_zero]
    · refine Go_iinc d_B_ownWaiting_44 lg1 rfl sa1 ?_
      refine Go_iinc d_B_ownWaiting_47 lg2 rfl sa2 ?_
      refine Go_goto d_B_ownWaiting_50 ?_
      refine fg3 (ih _ ?_)
      rw [hpS, hn]
      rw [show ((i : Int)).toNat = i by omega, l3] at h41
      first
        | rw [← bC1 h41]
        | rw [← bC0 h41, Int.add_zero]
end Book1
