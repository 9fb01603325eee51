section Model1
variable {G : GT} {S : St}
theorem c_M_in (v a b : Int) (h1 : -9223372036854775808 ≤ v ∧ v < 9223372036854775808) (h2 : -9223372036854775808 ≤ a ∧ a < 9223372036854775808) (h3 : -9223372036854775808 ≤ b ∧ b < 9223372036854775808) : Fn G k_M_in [vL v, vL a, vL b] S (PV (vI (bI (a ≤ v ∧ v ≤ b))) S) := by
  refine Fn.of [some (vL v), none, some (vL a), none, some (vL b), none] 0 rfl (by decide +kernel) rfl (Nat.le_of_ble_eq_true rfl) (by decide) ?_
  refine Go_lload d_M_in_0 lg0 ?_
  refine Go_lload d_M_in_1 lg2 ?_
  refine Go_lcmp d_M_in_2 (by omega) (by omega) ?_
  refine Go_ifc_lt d_M_in_3 (fun h3 => ?_) (fun h3 => ?_)
  · refine Go_const d_M_in_17 ?_
    exact Go_zretV d_M_in_18 (by first | exact Or.inl rfl | exact Or.inr rfl | exact @bI_01 _ _) (by first | rfl | exact (bI_pos (by omega)).symm | exact (bI_neg (by omega)).symm)
  · refine Go_lload d_M_in_6 lg0 ?_
    refine Go_lload d_M_in_7 lg4 ?_
    refine Go_lcmp d_M_in_9 (by omega) (by omega) ?_
    refine Go_ifc_gt d_M_in_10 (fun h10 => ?_) (fun h10 => ?_)
    · refine Go_const d_M_in_17 ?_
      exact Go_zretV d_M_in_18 (by first | exact Or.inl rfl | exact Or.inr rfl | exact @bI_01 _ _) (by first | rfl | exact (bI_pos (by omega)).symm | exact (bI_neg (by omega)).symm)
    · refine Go_const d_M_in_13 ?_
      refine Go_goto d_M_in_14 ?_
      exact Go_zretV d_M_in_18 (by first | exact Or.inl rfl | exact Or.inr rfl | exact @bI_01 _ _) (by first | rfl | exact (bI_pos (by omega)).symm | exact (bI_neg (by omega)).symm)
theorem c_M_of (i k : Int) (h : 0 ≤ 7 + 5 * i + k ∧ 7 + 5 * i + k < 402) : Fn G k_M_of [oR G 22, vI i, vI k] S (PV (vI (lf (S 22 0) i k)) S) := by
  refine Fn.of [some (oR G 22), some (vI i), some (vI k)] 0 rfl (by decide +kernel) rfl (Nat.le_of_ble_eq_true rfl) (by decide) ?_
  refine Go_aload d_M_of_0 lg0 ⟨_, rfl⟩ ?_
  refine Go_get d_M_of_1 fm_0 ?_
  refine Go_const d_M_of_4 ?_
  refine Go_const d_M_of_6 ?_
  refine Go_iload d_M_of_7 lg1 ?_
  refine Go_imul d_M_of_8 ?_
  refine Go_iadd d_M_of_9 ?_
  refine Go_iload d_M_of_10 lg2 ?_
  refine Go_iadd d_M_of_11 ?_
  refine Go_iald d_M_of_12 am_0 (by omega) ?_
  exact Go_iretV d_M_of_13 (by first | rfl | omega)
theorem c_M_isLetter (i : Int) (hi : -2147483648 ≤ i ∧ i < 2147483648) (hm : 0 ≤ S 22 0 5 ∧ S 22 0 5 ≤ 79) : Fn G k_M_isLetter [oR G 22, vI i] S (PV (vI (bI (0 ≤ i ∧ i ≤ S 22 0 5 - 1))) S) := by
  refine Fn.of [some (oR G 22), some (vI i)] 0 rfl (by decide +kernel) rfl (Nat.le_of_ble_eq_true rfl) (by decide) ?_
  refine Go_iload d_M_isLetter_0 lg1 ?_
  refine Go_i2l d_M_isLetter_1 (by omega) ?_
  refine Go_lconst d_M_isLetter_2 ?_
  refine Go_aload d_M_isLetter_3 lg0 ⟨_, rfl⟩ ?_
  refine Go_get d_M_isLetter_4 fm_0 ?_
  refine Go_const d_M_isLetter_7 ?_
  refine Go_ialdC (k0 := 5) d_M_isLetter_8 am_0 rfl (by decide) ?_
  refine Go_const d_M_isLetter_9 ?_
  refine Go_isub d_M_isLetter_10 ?_
  refine Go_i2l d_M_isLetter_11 (by omega) ?_
  refine Go_S3p d_M_isLetter_12 (c_M_in _ _ _ (by omega) (by omega) (by omega)) (Nat.le_of_ble_eq_true rfl) ?_
  exact Go_zretV d_M_isLetter_15 (by first | exact Or.inl rfl | exact Or.inr rfl | exact @bI_01 _ _) (by first | rfl | exact (bI_pos (by omega)).symm | exact (bI_neg (by omega)).symm)
theorem c_M_isRound (i : Int) (hi : -2147483648 ≤ i ∧ i < 2147483648) (hm : 0 ≤ S 22 0 6 ∧ S 22 0 6 ≤ 79) : Fn G k_M_isRound [oR G 22, vI i] S (PV (vI (bI (0 ≤ i ∧ i ≤ S 22 0 6 - 1))) S) := by
  refine Fn.of [some (oR G 22), some (vI i)] 0 rfl (by decide +kernel) rfl (Nat.le_of_ble_eq_true rfl) (by decide) ?_
  refine Go_iload d_M_isRound_0 lg1 ?_
  refine Go_i2l d_M_isRound_1 (by omega) ?_
  refine Go_lconst d_M_isRound_2 ?_
  refine Go_aload d_M_isRound_3 lg0 ⟨_, rfl⟩ ?_
  refine Go_get d_M_isRound_4 fm_0 ?_
  refine Go_const d_M_isRound_7 ?_
  refine Go_ialdC (k0 := 6) d_M_isRound_9 am_0 rfl (by decide) ?_
  refine Go_const d_M_isRound_10 ?_
  refine Go_isub d_M_isRound_11 ?_
  refine Go_i2l d_M_isRound_12 (by omega) ?_
  refine Go_S3p d_M_isRound_13 (c_M_in _ _ _ (by omega) (by omega) (by omega)) (Nat.le_of_ble_eq_true rfl) ?_
  exact Go_zretV d_M_isRound_16 (by first | exact Or.inl rfl | exact Or.inr rfl | exact @bI_01 _ _) (by first | rfl | exact (bI_pos (by omega)).symm | exact (bI_neg (by omega)).symm)
theorem c_M_stands (i : Int) (hi : 0 ≤ i ∧ i < 79) (hr : ∀ k, -2147483648 ≤ S 22 0 k ∧ S 22 0 k < 2147483648) : Fn G k_M_stands [oR G 22, vI i] S (PV (vI (bI (lf (S 22 0) i 3 = -4))) S) := by
  refine Fn.of [some (oR G 22), some (vI i)] 0 rfl (by decide +kernel) rfl (Nat.le_of_ble_eq_true rfl) (by decide) ?_
  refine Go_aload d_M_stands_0 lg0 ⟨_, rfl⟩ ?_
  refine Go_iload d_M_stands_1 lg1 ?_
  refine Go_const d_M_stands_2 ?_
  refine Go_V2p d_M_stands_3 kM (c_M_of _ _ (by omega)) (Nat.le_of_ble_eq_true rfl) ?_
  refine Go_const d_M_stands_6 ?_
  refine Go_icmp_ne d_M_stands_8 (by first | omega | exact hr _) (by first | omega | exact hr _) (fun h8 => ?_) (fun h8 => ?_)
  · refine Go_const d_M_stands_15 ?_
    exact Go_zretV d_M_stands_16 (by first | exact Or.inl rfl | exact Or.inr rfl | exact @bI_01 _ _) (by first | rfl | exact (bI_pos (by omega)).symm | exact (bI_neg (by omega)).symm)
  · refine Go_const d_M_stands_11 ?_
    refine Go_goto d_M_stands_12 ?_
    exact Go_zretV d_M_stands_16 (by first | exact Or.inl rfl | exact Or.inr rfl | exact @bI_01 _ _) (by first | rfl | exact (bI_pos (by omega)).symm | exact (bI_neg (by omega)).symm)
theorem c_M_isOwn (i : Int) (hi : 0 ≤ i ∧ i < 79) (hr : ∀ k, -2147483648 ≤ S 22 0 k ∧ S 22 0 k < 2147483648) : Fn G k_M_isOwn [oR G 22, vI i] S (PV (vI (bI (lf (S 22 0) i 0 = 9))) S) := by
  refine Fn.of [some (oR G 22), some (vI i)] 0 rfl (by decide +kernel) rfl (Nat.le_of_ble_eq_true rfl) (by decide) ?_
  refine Go_aload d_M_isOwn_0 lg0 ⟨_, rfl⟩ ?_
  refine Go_iload d_M_isOwn_1 lg1 ?_
  refine Go_const d_M_isOwn_2 ?_
  refine Go_V2p d_M_isOwn_3 kM (c_M_of _ _ (by omega)) (Nat.le_of_ble_eq_true rfl) ?_
  refine Go_const d_M_isOwn_6 ?_
  refine Go_icmp_ne d_M_isOwn_8 (by first | omega | exact hr _) (by first | omega | exact hr _) (fun h8 => ?_) (fun h8 => ?_)
  · refine Go_const d_M_isOwn_15 ?_
    exact Go_zretV d_M_isOwn_16 (by first | exact Or.inl rfl | exact Or.inr rfl | exact @bI_01 _ _) (by first | rfl | exact (bI_pos (by omega)).symm | exact (bI_neg (by omega)).symm)
  · refine Go_const d_M_isOwn_11 ?_
    refine Go_goto d_M_isOwn_12 ?_
    exact Go_zretV d_M_isOwn_16 (by first | exact Or.inl rfl | exact Or.inr rfl | exact @bI_01 _ _) (by first | rfl | exact (bI_pos (by omega)).symm | exact (bI_neg (by omega)).symm)
theorem c_M_standing (hm : 0 ≤ S 22 0 5 ∧ S 22 0 5 ≤ 79) (hr : ∀ k, -2147483648 ≤ S 22 0 k ∧ S 22 0 k < 2147483648) : Fn G k_M_standing [oR G 22] S (PV (vI (cnt (S 22 0) (S 22 0 5).toNat)) S) := by
  refine Fn.of [some (oR G 22), none, none] 2 rfl (by decide +kernel) rfl (Nat.le_of_ble_eq_true rfl) (by decide) ?_

  have loop := loopI (fun i => ∀ n : Int, n = cnt (S 22 0) i.toNat → Go G k_M_standing 4 [some (oR G 22), some (vI n), some (vI i)] [] S (PV (vI (cnt (S 22 0) (S 22 0 5).toNat)) S)) (S 22 0 5) ?_ ?_
  refine Go_const d_M_standing_0 ?_
  refine Go_istore d_M_standing_1 rfl sa1 ?_
  refine Go_const d_M_standing_2 ?_
  refine Go_istore d_M_standing_3 rfl sa2 ?_
  exact loop 0 (by omega) (by omega) 0 rfl
  · intro n hn
    refine Go_iload d_M_standing_4 lg2 ?_
    refine Go_aload d_M_standing_5 lg0 ⟨_, rfl⟩ ?_
    refine Go_get d_M_standing_6 fm_0 ?_
    refine Go_const d_M_standing_9 ?_
    refine Go_ialdC (k0 := 5) d_M_standing_10 am_0 rfl (by decide) ?_
    refine Go_icmp_ge d_M_standing_11 (by first | omega | exact hr _) (by first | omega | exact hr _) (fun h11 => ?_) (fun h11 => absurd h11 (by omega))
    refine Go_iload d_M_standing_36 lg1 ?_
    exact Go_iretV d_M_standing_37 hn
  · intro i h0 h1 ih n hn
    refine Go_iload d_M_standing_4 lg2 ?_
    refine Go_aload d_M_standing_5 lg0 ⟨_, rfl⟩ ?_
    refine Go_get d_M_standing_6 fm_0 ?_
    refine Go_const d_M_standing_9 ?_
    refine Go_ialdC (k0 := 5) d_M_standing_10 am_0 rfl (by decide) ?_
    refine Go_icmp_ge d_M_standing_11 (by first | omega | exact hr _) (by first | omega | exact hr _) (fun h11 => absurd h11 (by omega)) (fun h11 => ?_)
    refine Go_iload d_M_standing_14 lg1 ?_
    refine Go_aload d_M_standing_15 lg0 ⟨_, rfl⟩ ?_
    refine Go_iload d_M_standing_16 lg2 ?_
    refine Go_V1p d_M_standing_17 kM (c_M_stands _ (by omega) hr) (Nat.le_of_ble_eq_true rfl) ?_
    refine Go_ifeq_d d_M_standing_20 (fun h20 => ?_) (fun h20 => ?_)
    · refine Go_const d_M_standing_27 ?_
      refine Go_iadd d_M_standing_28 ?_
      refine Go_istore d_M_standing_29 rfl sa1 ?_
      refine Go_iinc d_M_standing_30 lg2 rfl sa2 ?_
      refine Go_goto d_M_standing_33 ?_
      exact ih _ (by rw [cnt_S _ _ h0]; (first | rw [bI_pos (by assumption)] | rw [bI_neg (by assumption)]); omega)
    · refine Go_const d_M_standing_23 ?_
      refine Go_goto d_M_standing_24 ?_
      refine Go_iadd d_M_standing_28 ?_
      refine Go_istore d_M_standing_29 rfl sa1 ?_
      refine Go_iinc d_M_standing_30 lg2 rfl sa2 ?_
      refine Go_goto d_M_standing_33 ?_
      exact ih _ (by rw [cnt_S _ _ h0]; (first | rw [bI_pos (by assumption)] | rw [bI_neg (by assumption)]); omega)
theorem c_M_standsAt (k : Int) (hk : -2147483648 ≤ k ∧ k < 2147483648) (hm : 0 ≤ S 22 0 5 ∧ S 22 0 5 ≤ 79) (hr : ∀ k, -2147483648 ≤ S 22 0 k ∧ S 22 0 k < 2147483648) : Fn G k_M_standsAt [oR G 22, vI k] S (PV (vI (sat (S 22 0) k (S 22 0 5).toNat)) S) := by
  refine Fn.of [some (oR G 22), some (vI k), none, none] 2 rfl (by decide +kernel) rfl (Nat.le_of_ble_eq_true rfl) (by decide) ?_

  have loop := loopI (fun i => ∀ n : Int, n = cnt (S 22 0) i.toNat → sat (S 22 0) k i.toNat = -4 → Go G k_M_standsAt 4 [some (oR G 22), some (vI k), some (vI n), some (vI i)] [] S (PV (vI (sat (S 22 0) k (S 22 0 5).toNat)) S)) (S 22 0 5) ?_ ?_
  refine Go_const d_M_standsAt_0 ?_
  refine Go_istore d_M_standsAt_1 rfl sa2 ?_
  refine Go_const d_M_standsAt_2 ?_
  refine Go_istore d_M_standsAt_3 rfl sa3 ?_
  exact loop 0 (by omega) (by omega) 0 rfl rfl
  · intro n hn hs
    refine Go_iload d_M_standsAt_4 lg3 ?_
    refine Go_aload d_M_standsAt_5 lg0 ⟨_, rfl⟩ ?_
    refine Go_get d_M_standsAt_6 fm_0 ?_
    refine Go_const d_M_standsAt_9 ?_
    refine Go_ialdC (k0 := 5) d_M_standsAt_10 am_0 rfl (by decide) ?_
    refine Go_icmp_ge d_M_standsAt_11 (by first | omega | exact hr _) (by first | omega | exact hr _) (fun h11 => ?_) (fun h11 => absurd h11 (by omega))
    refine Go_const d_M_standsAt_38 ?_
    exact Go_iretV d_M_standsAt_40 hs.symm
  · intro i h0 h1 ih n hn hs
    have hc := cnt_0 (S 22 0) i.toNat
    refine Go_iload d_M_standsAt_4 lg3 ?_
    refine Go_aload d_M_standsAt_5 lg0 ⟨_, rfl⟩ ?_
    refine Go_get d_M_standsAt_6 fm_0 ?_
    refine Go_const d_M_standsAt_9 ?_
    refine Go_ialdC (k0 := 5) d_M_standsAt_10 am_0 rfl (by decide) ?_
    refine Go_icmp_ge d_M_standsAt_11 (by first | omega | exact hr _) (by first | omega | exact hr _) (fun h11 => absurd h11 (by omega)) (fun h11 => ?_)
    refine Go_aload d_M_standsAt_14 lg0 ⟨_, rfl⟩ ?_
    refine Go_iload d_M_standsAt_15 lg3 ?_
    refine Go_V1p d_M_standsAt_16 kM (c_M_stands _ (by omega) hr) (Nat.le_of_ble_eq_true rfl) ?_
    refine Go_ifeq_d d_M_standsAt_19 (fun h19 => ?_) (fun h19 => ?_)
    · refine Go_iinc d_M_standsAt_32 lg3 rfl sa3 ?_
      refine Go_goto d_M_standsAt_35 ?_
      exact ih _ (by rw [cnt_S _ _ h0]; (first | rw [bI_pos (by assumption)] | rw [bI_neg (by assumption)]); omega) (by rw [sat_S _ _ _ h0, if_neg (by rintro ⟨z1, z2⟩; first | contradiction | omega)]; exact hs)
    · refine Go_iload d_M_standsAt_22 lg2 ?_
      refine Go_iload d_M_standsAt_23 lg1 ?_
      refine Go_icmp_ne d_M_standsAt_24 (by first | omega | exact hr _) (by first | omega | exact hr _) (fun h24 => ?_) (fun h24 => ?_)
      · refine Go_iinc d_M_standsAt_29 lg2 rfl sa2 ?_
        refine Go_iinc d_M_standsAt_32 lg3 rfl sa3 ?_
        refine Go_goto d_M_standsAt_35 ?_
        exact ih _ (by rw [cnt_S _ _ h0]; (first | rw [bI_pos (by assumption)] | rw [bI_neg (by assumption)]); omega) (by rw [sat_S _ _ _ h0, if_neg (by rintro ⟨z1, z2⟩; first | contradiction | omega)]; exact hs)
      · refine Go_iload d_M_standsAt_27 lg3 ?_
        exact Go_iretV d_M_standsAt_28 (sat_atI h0 h1 (by assumption) (by omega))
theorem c_M_draws (hd : 0 ≤ S 22 0 4 ∧ S 22 0 4 < 2147483648) : Fn G k_M_draws [oR G 22] S (PI (fun z S1 => z = dr (S 22 0 4) / 65536 ∧ S1 = sR S 22 0 (drN (S 22 0)))) := by
  refine Fn.of [some (oR G 22), none, none] 2 rfl (by decide +kernel) rfl (Nat.le_of_ble_eq_true rfl) (by decide) ?_
  refine Go_aload d_M_draws_0 lg0 ⟨_, rfl⟩ ?_
  refine Go_get d_M_draws_1 fm_0 ?_
  refine Go_const d_M_draws_4 ?_
  refine Go_ialdC (k0 := 4) d_M_draws_5 am_0 rfl (by decide) ?_
  refine Go_i2l d_M_draws_6 (by omega) ?_
  refine Go_lconst d_M_draws_7 ?_
  refine Go_lmul d_M_draws_10 ?_
  refine Go_lconst d_M_draws_11 ?_
  refine Go_ladd d_M_draws_14 ?_
  refine Go_lconst d_M_draws_15 ?_
  refine Go_lrem d_M_draws_18 (by omega) (by omega) ?_
  refine Go_lstore d_M_draws_19 rfl sb1 ?_
  refine Go_aload d_M_draws_20 lg0 ⟨_, rfl⟩ ?_
  refine Go_get d_M_draws_21 fm_0 ?_
  refine Go_const d_M_draws_24 ?_
  refine Go_lload d_M_draws_25 lg1 ?_
  refine Go_l2i d_M_draws_26 ?_
  refine Go_iastC (k0 := 4) d_M_draws_27 am_0 rfl (by decide) ?_
  refine Go_lload d_M_draws_28 lg1 ?_
  refine Go_lconst d_M_draws_29 ?_
  refine Go_ldiv d_M_draws_32 (by omega) (by omega) ?_
  refine Go_l2i d_M_draws_33 ?_
  exact Go_iretI d_M_draws_34 ⟨rfl, st3_sR _ _ _ _ _⟩
theorem c_M_adds (a r : Int) (hm : 0 ≤ S 22 0 5 ∧ S 22 0 5 < 79) : Fn G k_M_adds [oR G 22, vI a, vI r] S (PN (fun S1 => S1 = sR S 22 0 (addN (S 22 0) a r))) := by
  refine Fn.of [some (oR G 22), some (vI a), some (vI r), none] 1 rfl (by decide +kernel) rfl (Nat.le_of_ble_eq_true rfl) (by decide) ?_
  refine Go_const d_M_adds_0 ?_
  refine Go_const d_M_adds_2 ?_
  refine Go_aload d_M_adds_3 lg0 ⟨_, rfl⟩ ?_
  refine Go_get d_M_adds_4 fm_0 ?_
  refine Go_const d_M_adds_7 ?_
  refine Go_ialdC (k0 := 5) d_M_adds_8 am_0 rfl (by decide) ?_
  refine Go_imul d_M_adds_9 ?_
  refine Go_iadd d_M_adds_10 ?_
  refine Go_istore d_M_adds_11 rfl sa3 ?_
  refine Go_aload d_M_adds_12 lg0 ⟨_, rfl⟩ ?_
  refine Go_get d_M_adds_13 fm_0 ?_
  refine Go_iload d_M_adds_16 lg3 ?_
  refine Go_iload d_M_adds_17 lg1 ?_
  refine Go_iast d_M_adds_18 am_0 (by omega) ?_
  refine Go_aload d_M_adds_19 lg0 ⟨_, rfl⟩ ?_
  refine Go_get d_M_adds_20 fm_0 ?_
  refine Go_iload d_M_adds_23 lg3 ?_
  refine Go_const d_M_adds_24 ?_
  refine Go_iadd d_M_adds_25 ?_
  refine Go_iload d_M_adds_26 lg2 ?_
  refine Go_iast d_M_adds_27 am_0 (by omega) ?_
  refine Go_aload d_M_adds_28 lg0 ⟨_, rfl⟩ ?_
  refine Go_get d_M_adds_29 fm_0 ?_
  refine Go_iload d_M_adds_32 lg3 ?_
  refine Go_const d_M_adds_33 ?_
  refine Go_iadd d_M_adds_34 ?_
  refine Go_aload d_M_adds_35 lg0 ⟨_, rfl⟩ ?_
  refine Go_get d_M_adds_36 fm_0 ?_
  refine Go_const d_M_adds_39 ?_
  refine Go_ialdC (k0 := 6) d_M_adds_41 am_0 rfl (by decide) ?_
  rw [st3_i (by omega), st3_i (by omega)]
  refine Go_iast d_M_adds_42 am_0 (by omega) ?_
  refine Go_aload d_M_adds_43 lg0 ⟨_, rfl⟩ ?_
  refine Go_get d_M_adds_44 fm_0 ?_
  refine Go_iload d_M_adds_47 lg3 ?_
  refine Go_const d_M_adds_48 ?_
  refine Go_iadd d_M_adds_49 ?_
  refine Go_const d_M_adds_50 ?_
  refine Go_iast d_M_adds_52 am_0 (by omega) ?_
  refine Go_aload d_M_adds_53 lg0 ⟨_, rfl⟩ ?_
  refine Go_get d_M_adds_54 fm_0 ?_
  refine Go_iload d_M_adds_57 lg3 ?_
  refine Go_const d_M_adds_58 ?_
  refine Go_iadd d_M_adds_59 ?_
  refine Go_const d_M_adds_60 ?_
  refine Go_iast d_M_adds_62 am_0 (by omega) ?_
  refine Go_aload d_M_adds_63 lg0 ⟨_, rfl⟩ ?_
  refine Go_get d_M_adds_64 fm_0 ?_
  refine Go_const d_M_adds_67 ?_
  refine Go_dup2 d_M_adds_68 rfl rfl ?_
  refine Go_ialdC (k0 := 5) d_M_adds_69 am_0 rfl (by decide) ?_
  rw [st3_i (by omega), st3_i (by omega), st3_i (by omega), st3_i (by omega), st3_i (by omega)]
  refine Go_const d_M_adds_70 ?_
  refine Go_iadd d_M_adds_71 ?_
  refine Go_iastC (k0 := 5) d_M_adds_72 am_0 rfl (by decide) ?_
  refine Go_vretN d_M_adds_73 ?_
  funext c j i
  by_cases h : c = 22 ∧ j = 0
  · obtain ⟨rfl, rfl⟩ := h
    simp only [st3, sR, addN, true_and, and_self, if_true]
    (repeat' split) <;> omega
  · simp only [st3, sR, if_neg h]
    (repeat' split) <;> first | rfl | omega
theorem c_M_share (p n : Int) (hp : 0 ≤ p ∧ p ≤ 3) (hn : 0 ≤ n ∧ n ≤ 1000) (hq : 0 ≤ S 22 0 2 ∧ S 22 0 2 ≤ 4) : Fn G k_M_share [oR G 22, vI p, vI n] S (PV (vI (shr (S 22 0) p n)) S) := by
  refine Fn.of [some (oR G 22), some (vI p), some (vI n)] 0 rfl (by decide +kernel) rfl (Nat.le_of_ble_eq_true rfl) (by decide) ?_
  refine Go_iload d_M_share_0 lg1 ?_
  refine Go_if_ne d_M_share_1 (by omega) (fun h1 => ?_) (fun h1 => ?_)
  · refine Go_iload d_M_share_8 lg1 ?_
    refine Go_const d_M_share_9 ?_
    refine Go_icmp_ne d_M_share_10 (by omega) (by omega) (fun h10 => ?_) (fun h10 => ?_)
    · refine Go_iload d_M_share_21 lg2 ?_
      refine Go_aload d_M_share_22 lg0 ⟨_, rfl⟩ ?_
      refine Go_get d_M_share_23 fm_0 ?_
      refine Go_const d_M_share_26 ?_
      refine Go_ialdC (k0 := 2) d_M_share_27 am_0 rfl (by decide) ?_
      refine Go_isub d_M_share_28 ?_
      exact Go_iretV d_M_share_29 (by unfold shr; (repeat' split) <;> omega)
    · refine Go_iload d_M_share_13 lg2 ?_
      refine Go_const d_M_share_14 ?_
      refine Go_iadd d_M_share_15 ?_
      refine Go_const d_M_share_16 ?_
      refine Go_idiv d_M_share_17 (by omega) (by omega) ?_
      refine Go_goto d_M_share_18 ?_
      exact Go_iretV d_M_share_29 (by unfold shr; (repeat' split) <;> omega)
  · refine Go_iload d_M_share_4 lg2 ?_
    refine Go_goto d_M_share_5 ?_
    exact Go_iretV d_M_share_29 (by unfold shr; (repeat' split) <;> omega)
theorem c_M_isFull (hm : 0 ≤ S 22 0 5 ∧ S 22 0 5 ≤ 79) (hn : 0 ≤ S 22 0 6 ∧ S 22 0 6 ≤ 12) : Fn G k_M_isFull [oR G 22] S (PV (vI (bI (76 ≤ S 22 0 5 ∨ 12 ≤ S 22 0 6))) S) := by
  refine Fn.of [some (oR G 22)] 0 rfl (by decide +kernel) rfl (Nat.le_of_ble_eq_true rfl) (by decide) ?_
  refine Go_aload d_M_isFull_0 lg0 ⟨_, rfl⟩ ?_
  refine Go_get d_M_isFull_1 fm_0 ?_
  refine Go_const d_M_isFull_4 ?_
  refine Go_ialdC (k0 := 5) d_M_isFull_5 am_0 rfl (by decide) ?_
  refine Go_const d_M_isFull_6 ?_
  refine Go_icmp_ge d_M_isFull_8 (by omega) (by omega) (fun h8 => ?_) (fun h8 => ?_)
  · refine Go_const d_M_isFull_23 ?_
    refine Go_goto d_M_isFull_24 ?_
    exact Go_zretV d_M_isFull_28 (by first | exact Or.inl rfl | exact Or.inr rfl | exact @bI_01 _ _) (by first | rfl | exact (bI_pos (by omega)).symm | exact (bI_neg (by omega)).symm)
  · refine Go_aload d_M_isFull_11 lg0 ⟨_, rfl⟩ ?_
    refine Go_get d_M_isFull_12 fm_0 ?_
    refine Go_const d_M_isFull_15 ?_
    refine Go_ialdC (k0 := 6) d_M_isFull_17 am_0 rfl (by decide) ?_
    refine Go_const d_M_isFull_18 ?_
    refine Go_icmp_lt d_M_isFull_20 (by omega) (by omega) (fun h20 => ?_) (fun h20 => ?_)
    · refine Go_const d_M_isFull_27 ?_
      exact Go_zretV d_M_isFull_28 (by first | exact Or.inl rfl | exact Or.inr rfl | exact @bI_01 _ _) (by first | rfl | exact (bI_pos (by omega)).symm | exact (bI_neg (by omega)).symm)
    · refine Go_const d_M_isFull_23 ?_
      refine Go_goto d_M_isFull_24 ?_
      exact Go_zretV d_M_isFull_28 (by first | exact Or.inl rfl | exact Or.inr rfl | exact @bI_01 _ _) (by first | rfl | exact (bI_pos (by omega)).symm | exact (bI_neg (by omega)).symm)
theorem c_M_begins (p n : Int) (T : Prop) [Decidable T] (hp : p = 0 ∨ p = 1 ∨ p = 2 ∨ p = 3) (hn : 0 ≤ n ∧ n ≤ 1000) (h1 : 1 ≤ S 22 0 1 ∧ S 22 0 1 ≤ 8) (h2 : 0 ≤ S 22 0 2 ∧ S 22 0 2 ≤ 4) : Fn G k_M_begins [oR G 22, vI p, vI (bI T), vI n] S (PV (vI (bC (begP (S 22 0) p T n))) S) := by
  refine Fn.of [some (oR G 22), some (vI p), some (vI (bI T)), some (vI n)] 0 rfl (by decide +kernel) rfl (Nat.le_of_ble_eq_true rfl) (by decide) ?_
  refine Go_iload d_M_begins_0 lg1 ?_
  rcases hp with rfl | rfl | rfl | rfl
  · refine Go_tswIn (t := 28) d_M_begins_1 (by decide) (by decide) (by decide) rfl (by decide) ?_
    refine Go_iload d_M_begins_28 lg2 ?_
    refine Go_ifne_d d_M_begins_29 (fun h29 => ?_) (fun h29 => ?_)
    · refine Go_const d_M_begins_46 ?_
      exact Go_zretV d_M_begins_47 (by decide) (by first | exact bC1 (by simp [begP]; first | omega | (refine ⟨?_, ?_⟩ <;> first | assumption | omega)) | exact bC0 (by simp [begP]; first | omega | (intros; first | omega | contradiction)))
    · refine Go_iload d_M_begins_32 lg3 ?_
      refine Go_aload d_M_begins_33 lg0 ⟨_, rfl⟩ ?_
      refine Go_get d_M_begins_34 fm_0 ?_
      refine Go_const d_M_begins_37 ?_
      refine Go_ialdC (k0 := 1) d_M_begins_38 am_0 rfl (by decide) ?_
      refine Go_icmp_lt d_M_begins_39 (by omega) (by omega) (fun h39 => ?_) (fun h39 => ?_)
      · refine Go_const d_M_begins_46 ?_
        exact Go_zretV d_M_begins_47 (by decide) (by first | exact bC1 (by simp [begP]; first | omega | (refine ⟨?_, ?_⟩ <;> first | assumption | omega)) | exact bC0 (by simp [begP]; first | omega | (intros; first | omega | contradiction)))
      · refine Go_const d_M_begins_42 ?_
        refine Go_goto d_M_begins_43 ?_
        exact Go_zretV d_M_begins_47 (by decide) (by first | exact bC1 (by simp [begP]; first | omega | (refine ⟨?_, ?_⟩ <;> first | assumption | omega)) | exact bC0 (by simp [begP]; first | omega | (intros; first | omega | contradiction)))
  · refine Go_tswIn (t := 48) d_M_begins_1 (by decide) (by decide) (by decide) rfl (by decide) ?_
    refine Go_iload d_M_begins_48 lg2 ?_
    refine Go_ifne_d d_M_begins_49 (fun h49 => ?_) (fun h49 => ?_)
    · refine Go_const d_M_begins_73 ?_
      exact Go_zretV d_M_begins_74 (by decide) (by first | exact bC1 (by simp [begP]; first | omega | (refine ⟨?_, ?_⟩ <;> first | assumption | omega)) | exact bC0 (by simp [begP]; first | omega | (intros; first | omega | contradiction)))
    · refine Go_iload d_M_begins_52 lg3 ?_
      refine Go_aload d_M_begins_53 lg0 ⟨_, rfl⟩ ?_
      refine Go_get d_M_begins_54 fm_0 ?_
      refine Go_const d_M_begins_57 ?_
      refine Go_ialdC (k0 := 1) d_M_begins_58 am_0 rfl (by decide) ?_
      refine Go_aload d_M_begins_59 lg0 ⟨_, rfl⟩ ?_
      refine Go_get d_M_begins_60 fm_0 ?_
      refine Go_const d_M_begins_63 ?_
      refine Go_ialdC (k0 := 2) d_M_begins_64 am_0 rfl (by decide) ?_
      refine Go_iadd d_M_begins_65 ?_
      refine Go_icmp_lt d_M_begins_66 (by omega) (by omega) (fun h66 => ?_) (fun h66 => ?_)
      · refine Go_const d_M_begins_73 ?_
        exact Go_zretV d_M_begins_74 (by decide) (by first | exact bC1 (by simp [begP]; first | omega | (refine ⟨?_, ?_⟩ <;> first | assumption | omega)) | exact bC0 (by simp [begP]; first | omega | (intros; first | omega | contradiction)))
      · refine Go_const d_M_begins_69 ?_
        refine Go_goto d_M_begins_70 ?_
        exact Go_zretV d_M_begins_74 (by decide) (by first | exact bC1 (by simp [begP]; first | omega | (refine ⟨?_, ?_⟩ <;> first | assumption | omega)) | exact bC0 (by simp [begP]; first | omega | (intros; first | omega | contradiction)))
  · refine Go_tswIn (t := 75) d_M_begins_1 (by decide) (by decide) (by decide) rfl (by decide) ?_
    refine Go_iload d_M_begins_75 lg2 ?_
    refine Go_ifeq_d d_M_begins_76 (fun h76 => ?_) (fun h76 => ?_)
    · refine Go_const d_M_begins_93 ?_
      exact Go_zretV d_M_begins_94 (by decide) (by first | exact bC1 (by simp [begP]; first | omega | (refine ⟨?_, ?_⟩ <;> first | assumption | omega)) | exact bC0 (by simp [begP]; first | omega | (intros; first | omega | contradiction)))
    · refine Go_iload d_M_begins_79 lg3 ?_
      refine Go_aload d_M_begins_80 lg0 ⟨_, rfl⟩ ?_
      refine Go_get d_M_begins_81 fm_0 ?_
      refine Go_const d_M_begins_84 ?_
      refine Go_ialdC (k0 := 2) d_M_begins_85 am_0 rfl (by decide) ?_
      refine Go_icmp_le d_M_begins_86 (by omega) (by omega) (fun h86 => ?_) (fun h86 => ?_)
      · refine Go_const d_M_begins_93 ?_
        exact Go_zretV d_M_begins_94 (by decide) (by first | exact bC1 (by simp [begP]; first | omega | (refine ⟨?_, ?_⟩ <;> first | assumption | omega)) | exact bC0 (by simp [begP]; first | omega | (intros; first | omega | contradiction)))
      · refine Go_const d_M_begins_89 ?_
        refine Go_goto d_M_begins_90 ?_
        exact Go_zretV d_M_begins_94 (by decide) (by first | exact bC1 (by simp [begP]; first | omega | (refine ⟨?_, ?_⟩ <;> first | assumption | omega)) | exact bC0 (by simp [begP]; first | omega | (intros; first | omega | contradiction)))
  · refine Go_tswOut (t := 95) d_M_begins_1 (by decide) (by decide) (by decide) ?_
    refine Go_iload d_M_begins_95 lg2 ?_
    refine Go_ifeq_d d_M_begins_96 (fun h96 => ?_) (fun h96 => ?_)
    · refine Go_const d_M_begins_107 ?_
      exact Go_zretV d_M_begins_108 (by decide) (by first | exact bC1 (by simp [begP]; first | omega | (refine ⟨?_, ?_⟩ <;> first | assumption | omega)) | exact bC0 (by simp [begP]; first | omega | (intros; first | omega | contradiction)))
    · refine Go_iload d_M_begins_99 lg3 ?_
      refine Go_if_le d_M_begins_100 (by omega) (fun h100 => ?_) (fun h100 => ?_)
      · refine Go_const d_M_begins_107 ?_
        exact Go_zretV d_M_begins_108 (by decide) (by first | exact bC1 (by simp [begP]; first | omega | (refine ⟨?_, ?_⟩ <;> first | assumption | omega)) | exact bC0 (by simp [begP]; first | omega | (intros; first | omega | contradiction)))
      · refine Go_const d_M_begins_103 ?_
        refine Go_goto d_M_begins_104 ?_
        exact Go_zretV d_M_begins_108 (by decide) (by first | exact bC1 (by simp [begP]; first | omega | (refine ⟨?_, ?_⟩ <;> first | assumption | omega)) | exact bC0 (by simp [begP]; first | omega | (intros; first | omega | contradiction)))
end Model1
