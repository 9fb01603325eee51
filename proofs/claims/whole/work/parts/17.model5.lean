section Model5
variable {G : GT} {S : St}
theorem c_M_chance (r k i v : Int) (hr0 : -2147483648 ≤ r ∧ r < 2147483648) (hk : -2147483648 ≤ k ∧ k < 2147483648) (hi : -2147483648 ≤ i ∧ i < 2147483648) (hv : -2147483648 ≤ v ∧ v < 2147483648) (hW : WN (S 22 0)) : Fn G k_M_chance [oR G 22, vI r, vI k, vI i, vI v] S (PL (fun z S1 => z = chanceV (S 22 0) r k i v ∧ FrW S S1)) := by
  obtain ⟨hr, i0, i1, i2, i3, i4, i5, i6⟩ := id hW.1.1
  have hwr := whV_rg hW
  have hlo := lout_rg (S 22 0) r k (S 22 0 5).toNat
  refine Fn.of [some (oR G 22), some (vI r), some (vI k), some (vI i), some (vI v), none, none, none] 3 rfl (by decide +kernel) rfl (Nat.le_of_ble_eq_true rfl) (by decide) ?_
  refine Go_aload d_M_chance_0 lg0 ⟨_, rfl⟩ ?_
  refine Go_iload d_M_chance_1 lg1 ?_
  refine Go_V1p d_M_chance_2 kM (c_M_isRound _ (by omega) (by omega)) (Nat.le_of_ble_eq_true rfl) ?_
  refine Go_ifeq_d d_M_chance_5 (fun h5 => ?_) (fun h5 => ?_)
  · refine Go_const d_M_chance_21 ?_
    refine Go_istore d_M_chance_23 rfl sa5 ?_
    refine Go_iload d_M_chance_25 lg5 ?_
    refine Go_if_lt d_M_chance_27 (by decide) (fun _ => ?_) (fun h => absurd h (by decide))
    refine Go_lconst d_M_chance_49 ?_
    exact Go_lretL d_M_chance_52 ⟨by unfold chanceV; rw [if_neg (by omega)], fun _ _ _ => rfl⟩
  · refine Go_iload d_M_chance_8 lg2 ?_
    refine Go_if_lt d_M_chance_9 (by first | omega | exact hr _) (fun h9 => ?_) (fun h9 => ?_)
    · refine Go_const d_M_chance_21 ?_
      refine Go_istore d_M_chance_23 rfl sa5 ?_
      refine Go_iload d_M_chance_25 lg5 ?_
      refine Go_if_lt d_M_chance_27 (by decide) (fun _ => ?_) (fun h => absurd h (by decide))
      refine Go_lconst d_M_chance_49 ?_
      exact Go_lretL d_M_chance_52 ⟨by unfold chanceV; rw [if_neg (by omega)], fun _ _ _ => rfl⟩
    · refine Go_aload d_M_chance_12 lg0 ⟨_, rfl⟩ ?_
      refine Go_iload d_M_chance_13 lg1 ?_
      refine Go_iload d_M_chance_14 lg2 ?_
      refine Go_V2p d_M_chance_15 kM (c_M_letterOut _ _ (by omega) (by omega) (by omega) hr) (Nat.le_of_ble_eq_true rfl) ?_
      refine Go_goto d_M_chance_18 ?_
      refine Go_istore d_M_chance_23 rfl sa5 ?_
      refine Go_iload d_M_chance_25 lg5 ?_
      refine Go_if_lt d_M_chance_27 (by first | omega | exact hr _) (fun h27 => ?_) (fun h27 => ?_)
      · refine Go_lconst d_M_chance_49 ?_
        exact Go_lretL d_M_chance_52 ⟨by unfold chanceV; rw [if_neg (by omega)], fun _ _ _ => rfl⟩
      · refine Go_aload d_M_chance_30 lg0 ⟨_, rfl⟩ ?_
        refine Go_iload d_M_chance_31 lg3 ?_
        refine Go_V1p d_M_chance_32 kM (c_M_isLetter _ (by omega) (by omega)) (Nat.le_of_ble_eq_true rfl) ?_
        refine Go_ifeq_d d_M_chance_35 (fun h35 => ?_) (fun h35 => ?_)
        · refine Go_lconst d_M_chance_49 ?_
          exact Go_lretL d_M_chance_52 ⟨by unfold chanceV; rw [if_neg (by omega)], fun _ _ _ => rfl⟩
        · refine Go_iload d_M_chance_38 lg4 ?_
          refine Go_i2l d_M_chance_40 (by first | omega | exact hr _) ?_
          refine Go_lconst d_M_chance_41 ?_
          refine Go_lconst d_M_chance_42 ?_
          refine Go_S3p d_M_chance_43 (c_M_in _ _ _ (by omega) (by omega) (by omega)) (Nat.le_of_ble_eq_true rfl) ?_
          refine Go_ifne_d d_M_chance_46 (fun h46 => ?_) (fun h46 => ?_)
          · have hg3 : lf (S 22 0) (lout (S 22 0) r k (S 22 0 5).toNat) 3 = r := by omega
            have hgr : 0 ≤ lout (S 22 0) r k (S 22 0 5).toNat ∧ lout (S 22 0) r k (S 22 0 5).toNat < S 22 0 5 := by omega
            generalize hge : lout (S 22 0) r k (S 22 0 5).toNat = g at *
            refine Go_aload d_M_chance_53 lg0 ⟨_, rfl⟩ ?_
            refine Go_V0l d_M_chance_54 kM (c_M_whole hW.1.1) (Nat.le_of_ble_eq_true rfl) ?_
            rintro zw S1 ⟨hzw, hHL⟩
            have e0 := hHL.e0
            have hW1 := hHL.WR hW
            have hzw : zw = whV (S 22 0) := hzw
            have hr1 : ∀ k, -2147483648 ≤ S1 22 0 k ∧ S1 22 0 k < 2147483648 := by rw [e0]; exact hr
            have hgp : lf (S1 22 0) g 0 ≠ 9 → 0 < S1 22 1 r.toNat := by
              rw [e0, (hHL.eq r.toNat (by omega)).1]
              intro hne
              have := hW.2.1 g (by omega) (by omega) hne (by omega)
              rw [hg3] at this
              exact this
            refine Go_lstore d_M_chance_57 rfl sb6 ?_
            refine Go_aload d_M_chance_59 lg0 ⟨_, rfl⟩ ?_
            refine Go_lload d_M_chance_60 lg6 ?_
            refine Go_iload d_M_chance_62 lg5 ?_
            refine Go_iload d_M_chance_64 lg1 ?_
            refine Go_iload d_M_chance_65 lg3 ?_
            refine Go_V4p d_M_chance_66 kM (c_M_chanceOf _ _ _ _ (by omega) (by rw [e0]; omega) (by rw [e0]; omega) (by rw [e0]; omega) hgp hW1) (Nat.le_of_ble_eq_true rfl) ?_
            rw [hHL.ch hW (by omega) (by omega)]
            have hcr := chV_rg hW.1 (w := zw) (g := g) (r := r) (i := i) (by omega) (by omega) (by omega)
            refine Go_lload d_M_chance_69 lg6 ?_
            refine Go_iload d_M_chance_71 lg4 ?_
            refine Go_S3p d_M_chance_73 (c_M_fraction _ _ _ (by omega) (by omega) (by omega)) (Nat.le_of_ble_eq_true rfl) ?_
            exact Go_lretL d_M_chance_76 ⟨by unfold chanceV; rw [if_pos (by omega), hge, ← hzw], hHL.2⟩
          · refine Go_lconst d_M_chance_49 ?_
            exact Go_lretL d_M_chance_52 ⟨by unfold chanceV; rw [if_neg (by omega)], fun _ _ _ => rfl⟩
theorem c_M_sender (r k u v : Int) (hr0 : -2147483648 ≤ r ∧ r < 2147483648) (hk : -2147483648 ≤ k ∧ k < 2147483648) (hu : -2147483648 ≤ u ∧ u < 2147483648) (hv : -2147483648 ≤ v ∧ v < 2147483648) (hW : WN (S 22 0)) : Fn G k_M_sender [oR G 22, vI r, vI k, vI u, vI v] S (PL (fun z S1 => z = senderV (S 22 0) r k u v ∧ FrW S S1)) := by
  obtain ⟨hr, i0, i1, i2, i3, i4, i5, i6⟩ := id hW.1.1
  have hwr := whV_rg hW
  have hlo := lout_rg (S 22 0) r k (S 22 0 5).toNat
  refine Fn.of [some (oR G 22), some (vI r), some (vI k), some (vI u), some (vI v), none, none, none] 3 rfl (by decide +kernel) rfl (Nat.le_of_ble_eq_true rfl) (by decide) ?_
  refine Go_aload d_M_sender_0 lg0 ⟨_, rfl⟩ ?_
  refine Go_iload d_M_sender_1 lg1 ?_
  refine Go_V1p d_M_sender_2 kM (c_M_isRound _ (by omega) (by omega)) (Nat.le_of_ble_eq_true rfl) ?_
  refine Go_ifeq_d d_M_sender_5 (fun h5 => ?_) (fun h5 => ?_)
  · refine Go_const d_M_sender_21 ?_
    refine Go_istore d_M_sender_23 rfl sa5 ?_
    refine Go_iload d_M_sender_25 lg5 ?_
    refine Go_if_lt d_M_sender_27 (by decide) (fun _ => ?_) (fun h => absurd h (by decide))
    refine Go_lconst d_M_sender_53 ?_
    exact Go_lretL d_M_sender_56 ⟨by unfold senderV; rw [if_neg (by omega)], fun _ _ _ => rfl⟩
  · refine Go_iload d_M_sender_8 lg2 ?_
    refine Go_if_lt d_M_sender_9 (by first | omega | exact hr _) (fun h9 => ?_) (fun h9 => ?_)
    · refine Go_const d_M_sender_21 ?_
      refine Go_istore d_M_sender_23 rfl sa5 ?_
      refine Go_iload d_M_sender_25 lg5 ?_
      refine Go_if_lt d_M_sender_27 (by decide) (fun _ => ?_) (fun h => absurd h (by decide))
      refine Go_lconst d_M_sender_53 ?_
      exact Go_lretL d_M_sender_56 ⟨by unfold senderV; rw [if_neg (by omega)], fun _ _ _ => rfl⟩
    · refine Go_aload d_M_sender_12 lg0 ⟨_, rfl⟩ ?_
      refine Go_iload d_M_sender_13 lg1 ?_
      refine Go_iload d_M_sender_14 lg2 ?_
      refine Go_V2p d_M_sender_15 kM (c_M_letterOut _ _ (by omega) (by omega) (by omega) hr) (Nat.le_of_ble_eq_true rfl) ?_
      refine Go_goto d_M_sender_18 ?_
      refine Go_istore d_M_sender_23 rfl sa5 ?_
      refine Go_iload d_M_sender_25 lg5 ?_
      refine Go_if_lt d_M_sender_27 (by first | omega | exact hr _) (fun h27 => ?_) (fun h27 => ?_)
      · refine Go_lconst d_M_sender_53 ?_
        exact Go_lretL d_M_sender_56 ⟨by unfold senderV; rw [if_neg (by omega)], fun _ _ _ => rfl⟩
      · refine Go_iload d_M_sender_30 lg3 ?_
        refine Go_i2l d_M_sender_31 (by first | omega | exact hr _) ?_
        refine Go_lconst d_M_sender_32 ?_
        refine Go_lconst d_M_sender_33 ?_
        refine Go_S3p d_M_sender_36 (c_M_in _ _ _ (by omega) (by omega) (by omega)) (Nat.le_of_ble_eq_true rfl) ?_
        refine Go_ifeq_d d_M_sender_39 (fun h39 => ?_) (fun h39 => ?_)
        · refine Go_lconst d_M_sender_53 ?_
          exact Go_lretL d_M_sender_56 ⟨by unfold senderV; rw [if_neg (by omega)], fun _ _ _ => rfl⟩
        · refine Go_iload d_M_sender_42 lg4 ?_
          refine Go_i2l d_M_sender_44 (by first | omega | exact hr _) ?_
          refine Go_lconst d_M_sender_45 ?_
          refine Go_lconst d_M_sender_46 ?_
          refine Go_S3p d_M_sender_47 (c_M_in _ _ _ (by omega) (by omega) (by omega)) (Nat.le_of_ble_eq_true rfl) ?_
          refine Go_ifne_d d_M_sender_50 (fun h50 => ?_) (fun h50 => ?_)
          · have hg3 : lf (S 22 0) (lout (S 22 0) r k (S 22 0 5).toNat) 3 = r := by omega
            have hgr : 0 ≤ lout (S 22 0) r k (S 22 0 5).toNat ∧ lout (S 22 0) r k (S 22 0 5).toNat < S 22 0 5 := by omega
            generalize hge : lout (S 22 0) r k (S 22 0 5).toNat = g at *
            refine Go_aload d_M_sender_57 lg0 ⟨_, rfl⟩ ?_
            refine Go_V0l d_M_sender_58 kM (c_M_whole hW.1.1) (Nat.le_of_ble_eq_true rfl) ?_
            rintro zw S1 ⟨hzw, hHL⟩
            have e0 := hHL.e0
            have hW1 := hHL.WR hW
            have hzw : zw = whV (S 22 0) := hzw
            have hr1 : ∀ k, -2147483648 ≤ S1 22 0 k ∧ S1 22 0 k < 2147483648 := by rw [e0]; exact hr
            have hgp : lf (S1 22 0) g 0 ≠ 9 → 0 < S1 22 1 r.toNat := by
              rw [e0, (hHL.eq r.toNat (by omega)).1]
              intro hne
              have := hW.2.1 g (by omega) (by omega) hne (by omega)
              rw [hg3] at this
              exact this
            refine Go_lstore d_M_sender_61 rfl sb6 ?_
            refine Go_aload d_M_sender_63 lg0 ⟨_, rfl⟩ ?_
            refine Go_lload d_M_sender_64 lg6 ?_
            refine Go_iload d_M_sender_66 lg5 ?_
            refine Go_iload d_M_sender_68 lg1 ?_
            refine Go_iload d_M_sender_69 lg3 ?_
            refine Go_V4p d_M_sender_70 kM (c_M_senderOf _ _ _ _ (by omega) (by rw [e0]; omega) (by omega) (by rw [e0]; omega) hgp hW1) (Nat.le_of_ble_eq_true rfl) ?_
            rw [hHL.se hW (by omega)]
            have hcr := seV_rg hW.1 (w := zw) (g := g) (r := r) (u := u) (by omega) (by omega) (S 22 0 5).toNat (by omega)
            have hcr2 : (((S 22 0 5).toNat : Nat) : Int) * zw ≤ 79 * zw := Int.mul_le_mul_of_nonneg_right (by omega) (by omega)
            refine Go_lload d_M_sender_73 lg6 ?_
            refine Go_iload d_M_sender_75 lg4 ?_
            refine Go_S3p d_M_sender_77 (c_M_fraction _ _ _ (by omega) (by omega) (by omega)) (Nat.le_of_ble_eq_true rfl) ?_
            exact Go_lretL d_M_sender_80 ⟨by unfold senderV; rw [if_pos (by omega), hge, ← hzw], hHL.2⟩
          · refine Go_lconst d_M_sender_53 ?_
            exact Go_lretL d_M_sender_56 ⟨by unfold senderV; rw [if_neg (by omega)], fun _ _ _ => rfl⟩
theorem c_M_stays (i v : Int) (hi : -2147483648 ≤ i ∧ i < 2147483648) (hv : -2147483648 ≤ v ∧ v < 2147483648) (hW : WN (S 22 0)) : Fn G k_M_stays [oR G 22, vI i, vI v] S (PL (fun z S1 => z = staysV (S 22 0) i v ∧ FrW S S1)) := by
  obtain ⟨hr, i0, i1, i2, i3, i4, i5, i6⟩ := id hW.1.1
  have hwr := whV_rg hW
  refine Fn.of [some (oR G 22), some (vI i), some (vI v), none, none] 2 rfl (by decide +kernel) rfl (Nat.le_of_ble_eq_true rfl) (by decide) ?_
  refine Go_aload d_M_stays_0 lg0 ⟨_, rfl⟩ ?_
  refine Go_iload d_M_stays_1 lg1 ?_
  refine Go_V1p d_M_stays_2 kM (c_M_isLetter _ (by omega) (by omega)) (Nat.le_of_ble_eq_true rfl) ?_
  refine Go_ifeq_d d_M_stays_5 (fun h5 => ?_) (fun h5 => ?_)
  · refine Go_lconst d_M_stays_18 ?_
    exact Go_lretL d_M_stays_21 ⟨by unfold staysV; rw [if_neg (by omega)], fun _ _ _ => rfl⟩
  · refine Go_iload d_M_stays_8 lg2 ?_
    refine Go_i2l d_M_stays_9 (by first | omega | exact hr _) ?_
    refine Go_lconst d_M_stays_10 ?_
    refine Go_lconst d_M_stays_11 ?_
    refine Go_S3p d_M_stays_12 (c_M_in _ _ _ (by omega) (by omega) (by omega)) (Nat.le_of_ble_eq_true rfl) ?_
    refine Go_ifne_d d_M_stays_15 (fun h15 => ?_) (fun h15 => ?_)
    · refine Go_aload d_M_stays_22 lg0 ⟨_, rfl⟩ ?_
      refine Go_iload d_M_stays_23 lg1 ?_
      refine Go_V1p d_M_stays_24 kM (c_M_isOwn _ (by omega) hr) (Nat.le_of_ble_eq_true rfl) ?_
      refine Go_ifeq_d d_M_stays_27 (fun h27 => ?_) (fun h27 => ?_)
      · refine Go_aload d_M_stays_34 lg0 ⟨_, rfl⟩ ?_
        refine Go_V0l d_M_stays_35 kM (c_M_whole hW.1.1) (Nat.le_of_ble_eq_true rfl) ?_
        rintro zw S1 ⟨hzw, hHL⟩
        have e0 := hHL.e0
        have hW1 := hHL.WR hW
        have hzw : zw = whV (S 22 0) := hzw
        have hr1 : ∀ k, -2147483648 ≤ S1 22 0 k ∧ S1 22 0 k < 2147483648 := by rw [e0]; exact hr
        refine Go_lstore d_M_stays_38 rfl sb3 ?_
        refine Go_aload d_M_stays_39 lg0 ⟨_, rfl⟩ ?_
        refine Go_lload d_M_stays_40 lg3 ?_
        refine Go_iload d_M_stays_41 lg1 ?_
        refine Go_aload d_M_stays_42 lg0 ⟨_, rfl⟩ ?_
        refine Go_get d_M_stays_43 fm_0 ?_
        refine Go_const d_M_stays_46 ?_
        refine Go_ialdC (k0 := 6) d_M_stays_48 am_0 rfl (by decide) ?_
        refine Go_V3p d_M_stays_49 kM (c_M_leftOf _ _ _ (by omega) (by rw [e0]; omega) (by rw [e0]; exact h27) (by rw [e0]; omega) hW1) (Nat.le_of_ble_eq_true rfl) ?_
        rw [show S1 22 0 6 = S 22 0 6 by rw [e0], hHL.lf hW (by omega) (by omega)]
        have hf := hW.1.2.1 i (by omega) (by omega)
        have hcr := lfN_rg (H := mM (S 22 0)) (J := mJ (S 22 0)) (w := zw) (f := (lf (S 22 0) i 2).toNat) (by omega) (S 22 0 6 - lf (S 22 0) i 2).toNat (fun q a b => by have := hW.1.2.2.1 q (by omega); omega)
        refine Go_lload d_M_stays_52 lg3 ?_
        refine Go_iload d_M_stays_53 lg2 ?_
        refine Go_S3p d_M_stays_54 (c_M_fraction _ _ _ (by omega) (by omega) (by omega)) (Nat.le_of_ble_eq_true rfl) ?_
        exact Go_lretL d_M_stays_57 ⟨by unfold staysV; rw [if_pos (by omega), if_neg h27, ← hzw], hHL.2⟩
      · refine Go_lconst d_M_stays_30 ?_
        exact Go_lretL d_M_stays_33 ⟨by unfold staysV; rw [if_pos (by omega), if_pos h27], fun _ _ _ => rfl⟩
    · refine Go_lconst d_M_stays_18 ?_
      exact Go_lretL d_M_stays_21 ⟨by unfold staysV; rw [if_neg (by omega)], fun _ _ _ => rfl⟩
theorem c_M_expected (u x v : Int) (hu : -2147483648 ≤ u ∧ u < 2147483648) (hx : -2147483648 ≤ x ∧ x < 2147483648) (hv : -2147483648 ≤ v ∧ v < 2147483648) (hW : WN (S 22 0)) : Fn G k_M_expected [oR G 22, vI u, vI x, vI v] S (PL (fun z S1 => z = expV (S 22 0) u x v ∧ FrW S S1)) := by
  obtain ⟨hr, i0, i1, i2, i3, i4, i5, i6⟩ := id hW.1.1
  have hwr := whV_rg hW
  refine Fn.of [some (oR G 22), some (vI u), some (vI x), some (vI v), none, none, none, none, none] 5 rfl (by decide +kernel) rfl (Nat.le_of_ble_eq_true rfl) (by decide) ?_

  have loop := loopI (fun i => ((0 ≤ u ∧ u ≤ 9) ∧ (0 ≤ x ∧ x ≤ 7) ∧ 0 ≤ v ∧ v ≤ 1) → ∀ zw z S1, zw = whV (S 22 0) → HL S S1 → z = exV (S 22 0) (mM (S 22 0)) (mJ (S 22 0)) zw u x i.toNat → Go G k_M_expected 50 [some (oR G 22), some (vI u), some (vI x), some (vI v), some (vL zw), none, some (vL z), none, some (vI i)] [] S1 (PL (fun z S1 => z = expV (S 22 0) u x v ∧ FrW S S1))) (S 22 0 5) ?_ ?_
  refine Go_iload d_M_expected_0 lg1 ?_
  refine Go_i2l d_M_expected_1 (by first | omega | exact hr1 _) ?_
  refine Go_lconst d_M_expected_2 ?_
  refine Go_lconst d_M_expected_3 ?_
  refine Go_S3p d_M_expected_6 (c_M_in _ _ _ (by omega) (by omega) (by omega)) (Nat.le_of_ble_eq_true rfl) ?_
  refine Go_ifeq_d d_M_expected_9 (fun h9 => ?_) (fun h9 => ?_)
  · refine Go_lconst d_M_expected_34 ?_
    exact Go_lretL d_M_expected_37 ⟨by unfold expV; rw [if_neg (by omega)], fun _ _ _ => rfl⟩
  · refine Go_iload d_M_expected_12 lg2 ?_
    refine Go_i2l d_M_expected_13 (by first | omega | exact hr1 _) ?_
    refine Go_lconst d_M_expected_14 ?_
    refine Go_lconst d_M_expected_15 ?_
    refine Go_S3p d_M_expected_18 (c_M_in _ _ _ (by omega) (by omega) (by omega)) (Nat.le_of_ble_eq_true rfl) ?_
    refine Go_ifeq_d d_M_expected_21 (fun h21 => ?_) (fun h21 => ?_)
    · refine Go_lconst d_M_expected_34 ?_
      exact Go_lretL d_M_expected_37 ⟨by unfold expV; rw [if_neg (by omega)], fun _ _ _ => rfl⟩
    · refine Go_iload d_M_expected_24 lg3 ?_
      refine Go_i2l d_M_expected_25 (by first | omega | exact hr1 _) ?_
      refine Go_lconst d_M_expected_26 ?_
      refine Go_lconst d_M_expected_27 ?_
      refine Go_S3p d_M_expected_28 (c_M_in _ _ _ (by omega) (by omega) (by omega)) (Nat.le_of_ble_eq_true rfl) ?_
      refine Go_ifne_d d_M_expected_31 (fun h31 => ?_) (fun h31 => ?_)
      · refine Go_aload d_M_expected_38 lg0 ⟨_, rfl⟩ ?_
        refine Go_V0l d_M_expected_39 kM (c_M_whole hW.1.1) (Nat.le_of_ble_eq_true rfl) ?_
        rintro zw S1 ⟨hzw, hHL⟩
        have e0 := hHL.e0
        have hW1 := hHL.WR hW
        have hzw : zw = whV (S 22 0) := hzw
        have hr1 : ∀ k, -2147483648 ≤ S1 22 0 k ∧ S1 22 0 k < 2147483648 := by rw [e0]; exact hr
        refine Go_lstore d_M_expected_42 rfl sb4 ?_
        refine Go_lconst d_M_expected_44 ?_
        refine Go_lstore d_M_expected_45 rfl sb6 ?_
        refine Go_const d_M_expected_47 ?_
        refine Go_istore d_M_expected_48 rfl sa8 ?_
        exact loop 0 (by omega) (by omega) (by omega) zw 0 S1 hzw hHL rfl
      · refine Go_lconst d_M_expected_34 ?_
        exact Go_lretL d_M_expected_37 ⟨by unfold expV; rw [if_neg (by omega)], fun _ _ _ => rfl⟩
  · intro hok zw z S1 hzw hHL hz
    have e0 := hHL.e0
    have e5 : S1 22 0 5 = S 22 0 5 := by rw [e0]
    have hr1 : ∀ k, -2147483648 ≤ S1 22 0 k ∧ S1 22 0 k < 2147483648 := by rw [e0]; exact hr
    have hcr := exV_rg hW (u := u) (v := x) (S 22 0 5).toNat (by omega)
    rw [← hzw, ← hz] at hcr
    refine Go_iload d_M_expected_50 lg8 ?_
    refine Go_aload d_M_expected_52 lg0 ⟨_, rfl⟩ ?_
    refine Go_get d_M_expected_53 fm_0 ?_
    refine Go_const d_M_expected_56 ?_
    refine Go_ialdC (k0 := 5) d_M_expected_57 am_0 rfl (by decide) ?_
    refine Go_icmp_ge d_M_expected_58 (by first | omega | exact hr1 _) (by first | omega | exact hr1 _) (fun h58 => ?_) (fun h58 => absurd h58 (by omega))
    refine Go_lload d_M_expected_112 lg6 ?_
    refine Go_lload d_M_expected_114 lg4 ?_
    refine Go_iload d_M_expected_116 lg3 ?_
    refine Go_S3p d_M_expected_117 (c_M_fraction _ _ _ (by omega) (by omega) (by omega)) (Nat.le_of_ble_eq_true rfl) ?_
    exact Go_lretL d_M_expected_120 ⟨by unfold expV; rw [if_pos hok, hz, ← hzw], hHL.2⟩
  · intro i h0 h1 ih hok zw z S1 hzw hHL hz
    have e0 := hHL.e0
    have e5 : S1 22 0 5 = S 22 0 5 := by rw [e0]
    have hr1 : ∀ k, -2147483648 ≤ S1 22 0 k ∧ S1 22 0 k < 2147483648 := by rw [e0]; exact hr
    have hW1 := hHL.WR hW
    have hg := hW.2.2 i h0 h1
    refine Go_iload d_M_expected_50 lg8 ?_
    refine Go_aload d_M_expected_52 lg0 ⟨_, rfl⟩ ?_
    refine Go_get d_M_expected_53 fm_0 ?_
    refine Go_const d_M_expected_56 ?_
    refine Go_ialdC (k0 := 5) d_M_expected_57 am_0 rfl (by decide) ?_
    refine Go_icmp_ge d_M_expected_58 (by first | omega | exact hr1 _) (by first | omega | exact hr1 _) (fun h58 => absurd h58 (by omega)) (fun h58 => ?_)
    refine Go_lload d_M_expected_61 lg6 ?_
    refine Go_aload d_M_expected_63 lg0 ⟨_, rfl⟩ ?_
    refine Go_iload d_M_expected_64 lg8 ?_
    refine Go_V1p d_M_expected_66 kM (c_M_stands _ (by omega) hr1) (Nat.le_of_ble_eq_true rfl) ?_
    refine Go_ifne_d d_M_expected_69 (fun h69 => ?_) (fun h69 => ?_)
    · refine Go_lconst d_M_expected_102 ?_
      refine Go_ladd d_M_expected_103 ?_
      refine Go_lstore d_M_expected_104 rfl sb6 ?_
      refine Go_iinc d_M_expected_106 lg8 rfl sa8 ?_
      refine Go_goto d_M_expected_109 ?_
      refine ih hok zw _ S1 hzw hHL ?_
      rw [exV_S _ _ _ _ _ _ _ h0, ← hz]
      rw [e0] at *
      first
        | rw [if_pos ⟨by assumption, by assumption⟩]
        | rw [if_neg (by rintro ⟨z1, z2⟩; contradiction)]
    · refine Go_aload d_M_expected_72 lg0 ⟨_, rfl⟩ ?_
      refine Go_iload d_M_expected_73 lg8 ?_
      refine Go_const d_M_expected_75 ?_
      refine Go_V2p d_M_expected_76 kM (c_M_of _ _ (by omega)) (Nat.le_of_ble_eq_true rfl) ?_
      refine Go_iload d_M_expected_79 lg2 ?_
      refine Go_icmp_ne d_M_expected_80 (by first | omega | exact hr1 _) (by first | omega | exact hr1 _) (fun h80 => ?_) (fun h80 => ?_)
      · refine Go_lconst d_M_expected_102 ?_
        refine Go_ladd d_M_expected_103 ?_
        refine Go_lstore d_M_expected_104 rfl sb6 ?_
        refine Go_iinc d_M_expected_106 lg8 rfl sa8 ?_
        refine Go_goto d_M_expected_109 ?_
        refine ih hok zw _ S1 hzw hHL ?_
        rw [exV_S _ _ _ _ _ _ _ h0, ← hz]
        rw [e0] at *
        first
          | rw [if_pos ⟨by assumption, by assumption⟩]
          | rw [if_neg (by rintro ⟨z1, z2⟩; contradiction)]
      · refine Go_aload d_M_expected_83 lg0 ⟨_, rfl⟩ ?_
        refine Go_lload d_M_expected_84 lg4 ?_
        refine Go_iload d_M_expected_86 lg8 ?_
        refine Go_aload d_M_expected_88 lg0 ⟨_, rfl⟩ ?_
        refine Go_iload d_M_expected_89 lg8 ?_
        refine Go_const d_M_expected_91 ?_
        refine Go_V2p d_M_expected_92 kM (c_M_of _ _ (by omega)) (Nat.le_of_ble_eq_true rfl) ?_
        refine Go_iload d_M_expected_95 lg1 ?_
        refine Go_V4p d_M_expected_96 kM (c_M_senderOf _ _ _ _ (by omega) (by omega) (by omega) (by rw [e0] at *; omega) (by rw [e0, (hHL.eq _ (by rw [e0] at *; omega)).1]; exact fun hne => hW.2.1 i h0 h1 hne (by rw [e0] at *; omega)) hW1) (Nat.le_of_ble_eq_true rfl) ?_
        rw [hHL.se hW (by rw [e0] at *; omega)]
        refine Go_goto d_M_expected_99 ?_
        refine Go_ladd d_M_expected_103 ?_
        refine Go_lstore d_M_expected_104 rfl sb6 ?_
        refine Go_iinc d_M_expected_106 lg8 rfl sa8 ?_
        refine Go_goto d_M_expected_109 ?_
        refine ih hok zw _ S1 hzw hHL ?_
        rw [exV_S _ _ _ _ _ _ _ h0, ← hz]
        rw [e0] at *
        first
          | rw [if_pos ⟨by assumption, by assumption⟩]
          | rw [if_neg (by rintro ⟨z1, z2⟩; contradiction)]
set_option maxHeartbeats 4000000 in
theorem c_M_out (r k v : Int) (hr0 : -2147483648 ≤ r ∧ r < 2147483648) (hk : -2147483648 ≤ k ∧ k < 2147483648) (hv : -2147483648 ≤ v ∧ v < 2147483648) (hW : WN (S 22 0)) : Fn G k_M_out [oR G 22, vI r, vI k, vI v] S (PI (fun z S1 => z = outV (S 22 0) r k v ∧ FrW S S1)) := by
  obtain ⟨hr, i0, i1, i2, i3, i4, i5, i6⟩ := id hW.1.1
  have hwr := whV_rg hW
  have hlo := lout_rg (S 22 0) r k (S 22 0 5).toNat
  refine Fn.of [some (oR G 22), some (vI r), some (vI k), some (vI v), none, none, none, none, none, none, none, none, none, none] 10 rfl (by decide +kernel) rfl (Nat.le_of_ble_eq_true rfl) (by decide) ?_

  have loop := loopI (fun i => ∀ g, lout (S 22 0) r k (S 22 0 5).toNat = g → (0 ≤ g ∧ g < S 22 0 5) → (0 ≤ r ∧ r < S 22 0 6) → 0 ≤ k → (2 ≤ v ∧ v ≤ 3) → lf (S 22 0) g 3 = r → ∀ zw z b m S1, zw = whV (S 22 0) → HL S S1 → z = nmV (S 22 0) (mM (S 22 0)) (mJ (S 22 0)) zw g r i.toNat → (b, m) = mxV (S 22 0) (mM (S 22 0)) (mJ (S 22 0)) zw g r i.toNat → Go G k_M_out 86 [some (oR G 22), some (vI r), some (vI k), some (vI v), some (vI g), some (vL zw), none, some (vI z), some (vI b), some (vL m), none, some (vI i), none, none] [] S1 (PI (fun z S1 => z = outV (S 22 0) r k v ∧ FrW S S1))) (S 22 0 5) ?_ ?_
  refine Go_aload d_M_out_0 lg0 ⟨_, rfl⟩ ?_
  refine Go_iload d_M_out_1 lg1 ?_
  refine Go_V1p d_M_out_2 kM (c_M_isRound _ (by omega) (by omega)) (Nat.le_of_ble_eq_true rfl) ?_
  refine Go_ifeq_d d_M_out_5 (fun h5 => ?_) (fun h5 => ?_)
  · refine Go_const d_M_out_17 ?_
    refine Go_istore d_M_out_19 rfl sa4 ?_
    refine Go_iload d_M_out_21 lg4 ?_
    refine Go_if_lt d_M_out_23 (by decide) (fun _ => ?_) (fun h => absurd h (by decide))
    refine Go_const d_M_out_42 ?_
    exact Go_iretI d_M_out_43 ⟨by unfold outV; rw [if_neg (by omega)], fun _ _ _ => rfl⟩
  · refine Go_aload d_M_out_8 lg0 ⟨_, rfl⟩ ?_
    refine Go_iload d_M_out_9 lg1 ?_
    refine Go_iload d_M_out_10 lg2 ?_
    refine Go_V2p d_M_out_11 kM (c_M_letterOut _ _ (by omega) (by omega) (by omega) hr) (Nat.le_of_ble_eq_true rfl) ?_
    refine Go_goto d_M_out_14 ?_
    refine Go_istore d_M_out_19 rfl sa4 ?_
    refine Go_iload d_M_out_21 lg4 ?_
    refine Go_if_lt d_M_out_23 (by first | omega | exact hr _ | exact hr1 _) (fun h23 => ?_) (fun h23 => ?_)
    · refine Go_const d_M_out_42 ?_
      exact Go_iretI d_M_out_43 ⟨by unfold outV; rw [if_neg (by omega)], fun _ _ _ => rfl⟩
    · refine Go_iload d_M_out_26 lg2 ?_
      refine Go_if_lt d_M_out_27 (by first | omega | exact hr _ | exact hr1 _) (fun h27 => ?_) (fun h27 => ?_)
      · refine Go_const d_M_out_42 ?_
        exact Go_iretI d_M_out_43 ⟨by unfold outV; rw [if_neg (by omega)], fun _ _ _ => rfl⟩
      · refine Go_iload d_M_out_30 lg3 ?_
        refine Go_i2l d_M_out_31 (by first | omega | exact hr _ | exact hr1 _) ?_
        refine Go_lconst d_M_out_32 ?_
        refine Go_lconst d_M_out_33 ?_
        refine Go_S3p d_M_out_36 (c_M_in _ _ _ (by omega) (by omega) (by omega)) (Nat.le_of_ble_eq_true rfl) ?_
        refine Go_ifne_d d_M_out_39 (fun h39 => ?_) (fun h39 => ?_)
        · refine Go_iload d_M_out_44 lg3 ?_
          refine Go_const d_M_out_45 ?_
          refine Go_icmp_ge d_M_out_46 (by first | omega | exact hr _ | exact hr1 _) (by first | omega | exact hr _ | exact hr1 _) (fun h46 => ?_) (fun h46 => ?_)
          · have hg3 : lf (S 22 0) (lout (S 22 0) r k (S 22 0 5).toNat) 3 = r := by omega
            have hgr : 0 ≤ lout (S 22 0) r k (S 22 0 5).toNat ∧ lout (S 22 0) r k (S 22 0 5).toNat < S 22 0 5 := by omega
            have hge : lout (S 22 0) r k (S 22 0 5).toNat = lout (S 22 0) r k (S 22 0 5).toNat := rfl
            refine Go_aload d_M_out_66 lg0 ⟨_, rfl⟩ ?_
            refine Go_V0l d_M_out_67 kM (c_M_whole hW.1.1) (Nat.le_of_ble_eq_true rfl) ?_
            rintro zw S1 ⟨hzw, hHL⟩
            have e0 := hHL.e0
            have hW1 := hHL.WR hW
            have hzw : zw = whV (S 22 0) := hzw
            have hr1 : ∀ k, -2147483648 ≤ S1 22 0 k ∧ S1 22 0 k < 2147483648 := by rw [e0]; exact hr
            refine Go_lstore d_M_out_70 rfl sb5 ?_
            refine Go_const d_M_out_72 ?_
            refine Go_istore d_M_out_73 rfl sa7 ?_
            refine Go_const d_M_out_75 ?_
            refine Go_istore d_M_out_76 rfl sa8 ?_
            refine Go_lconst d_M_out_78 ?_
            refine Go_lstore d_M_out_81 rfl sb9 ?_
            refine Go_const d_M_out_83 ?_
            refine Go_istore d_M_out_84 rfl sa11 ?_
            exact loop 0 (by omega) (by omega) _ rfl (by omega) (by omega) (by omega) (by omega) hg3 zw 0 0 (-1) S1 hzw hHL rfl rfl
          · refine Go_iload d_M_out_49 lg3 ?_
            refine Go_if_ne d_M_out_50 (by first | omega | exact hr _ | exact hr1 _) (fun h50 => ?_) (fun h50 => ?_)
            · refine Go_aload d_M_out_58 lg0 ⟨_, rfl⟩ ?_
              refine Go_iload d_M_out_59 lg4 ?_
              refine Go_const d_M_out_61 ?_
              refine Go_V2p d_M_out_62 kM (c_M_of _ _ (by omega)) (Nat.le_of_ble_eq_true rfl) ?_
              exact Go_iretI d_M_out_65 ⟨by
                unfold outV
                rw [if_pos (by omega)]
                first | rw [if_pos (by omega)] | rw [if_neg (by omega), if_pos (by omega)], fun _ _ _ => rfl⟩
            · refine Go_iload d_M_out_53 lg4 ?_
              refine Go_goto d_M_out_55 ?_
              exact Go_iretI d_M_out_65 ⟨by
                unfold outV
                rw [if_pos (by omega)]
                first | rw [if_pos (by omega)] | rw [if_neg (by omega), if_pos (by omega)], fun _ _ _ => rfl⟩
        · refine Go_const d_M_out_42 ?_
          exact Go_iretI d_M_out_43 ⟨by unfold outV; rw [if_neg (by omega)], fun _ _ _ => rfl⟩
  · intro g hge hgr hrr hkk hvv hg3 zw z b m S1 hzw hHL hz hm
    have e0 := hHL.e0
    have e5 : S1 22 0 5 = S 22 0 5 := by rw [e0]
    have hr1 : ∀ k, -2147483648 ≤ S1 22 0 k ∧ S1 22 0 k < 2147483648 := by rw [e0]; exact hr
    refine Go_iload d_M_out_86 lg11 ?_
    refine Go_aload d_M_out_88 lg0 ⟨_, rfl⟩ ?_
    refine Go_get d_M_out_89 fm_0 ?_
    refine Go_const d_M_out_92 ?_
    refine Go_ialdC (k0 := 5) d_M_out_93 am_0 rfl (by decide) ?_
    refine Go_icmp_ge d_M_out_94 (by first | omega | exact hr _ | exact hr1 _) (by first | omega | exact hr _ | exact hr1 _) (fun h94 => ?_) (fun h94 => absurd h94 (by omega))
    refine Go_iload d_M_out_167 lg3 ?_
    refine Go_const d_M_out_168 ?_
    refine Go_icmp_ne d_M_out_169 (by first | omega | exact hr _ | exact hr1 _) (by first | omega | exact hr _ | exact hr1 _) (fun h169 => ?_) (fun h169 => ?_)
    · refine Go_iload d_M_out_177 lg8 ?_
      exact Go_iretI d_M_out_179 ⟨by
        unfold outV
        rw [if_pos (by omega), if_neg (by omega), if_neg (by omega), hge, ← hzw]
        first | rw [if_pos (by omega)]; exact hz | rw [if_neg (by omega), ← hm], hHL.2⟩
    · refine Go_iload d_M_out_172 lg7 ?_
      refine Go_goto d_M_out_174 ?_
      exact Go_iretI d_M_out_179 ⟨by
        unfold outV
        rw [if_pos (by omega), if_neg (by omega), if_neg (by omega), hge, ← hzw]
        first | rw [if_pos (by omega)]; exact hz | rw [if_neg (by omega), ← hm], hHL.2⟩
  · intro i h0 h1 ih g hge hgr hrr hkk hvv hg3 zw z b m S1 hzw hHL hz hm
    have e0 := hHL.e0
    have e5 : S1 22 0 5 = S 22 0 5 := by rw [e0]
    have hr1 : ∀ k, -2147483648 ≤ S1 22 0 k ∧ S1 22 0 k < 2147483648 := by rw [e0]; exact hr
    have hW1 := hHL.WR hW
    have hgp : lf (S1 22 0) g 0 ≠ 9 → 0 < S1 22 1 r.toNat := by
      rw [e0, (hHL.eq r.toNat (by omega)).1]
      intro hne
      have := hW.2.1 g (by omega) (by omega) hne (by omega)
      rw [hg3] at this
      exact this
    have hcr := chV_rg hW.1 (w := zw) (g := g) (r := r) (i := i) (by omega) (by omega) (by omega)
    have hmr := mxV_rg hW.1 (w := zw) (g := g) (r := r) (by omega) (by omega) i.toNat (by omega)
    have hnr := nmV_rg (S 22 0) (mM (S 22 0)) (mJ (S 22 0)) zw g r i.toNat
    rw [← hm] at hmr
    dsimp only at hmr
    refine Go_iload d_M_out_86 lg11 ?_
    refine Go_aload d_M_out_88 lg0 ⟨_, rfl⟩ ?_
    refine Go_get d_M_out_89 fm_0 ?_
    refine Go_const d_M_out_92 ?_
    refine Go_ialdC (k0 := 5) d_M_out_93 am_0 rfl (by decide) ?_
    refine Go_icmp_ge d_M_out_94 (by first | omega | exact hr _ | exact hr1 _) (by first | omega | exact hr _ | exact hr1 _) (fun h94 => absurd h94 (by omega)) (fun h94 => ?_)
    refine Go_aload d_M_out_97 lg0 ⟨_, rfl⟩ ?_
    refine Go_lload d_M_out_98 lg5 ?_
    refine Go_iload d_M_out_100 lg4 ?_
    refine Go_iload d_M_out_102 lg1 ?_
    refine Go_iload d_M_out_103 lg11 ?_
    refine Go_V4p d_M_out_105 kM (c_M_chanceOf _ _ _ _ (by omega) (by omega) (by omega) (by rw [e0]; omega) hgp hW1) (Nat.le_of_ble_eq_true rfl) ?_
    rw [hHL.ch hW (by omega) (by omega)]
    refine Go_lstore d_M_out_108 rfl sb12 ?_
    refine Go_iload d_M_out_110 lg7 ?_
    refine Go_lload d_M_out_112 lg12 ?_
    refine Go_lconst d_M_out_114 ?_
    refine Go_lcmp d_M_out_115 (by first | omega | exact hr _ | exact hr1 _) (by first | omega | exact hr _ | exact hr1 _) ?_
    refine Go_ifc_le d_M_out_116 (fun h116 => ?_) (fun h116 => ?_)
    · refine Go_const d_M_out_123 ?_
      refine Go_iadd d_M_out_124 ?_
      refine Go_istore d_M_out_125 rfl sa7 ?_
      refine Go_lload d_M_out_127 lg12 ?_
      refine Go_lload d_M_out_129 lg9 ?_
      refine Go_lcmp d_M_out_131 (by first | omega | exact hr _ | exact hr1 _) (by first | omega | exact hr _ | exact hr1 _) ?_
      refine Go_ifc_le d_M_out_132 (fun h132 => ?_) (fun h132 => ?_)
      · refine Go_iload d_M_out_140 lg8 ?_
        refine Go_istore d_M_out_142 rfl sa8 ?_
        refine Go_lload d_M_out_144 lg12 ?_
        refine Go_lload d_M_out_146 lg9 ?_
        refine Go_lcmp d_M_out_148 (by first | omega | exact hr _ | exact hr1 _) (by first | omega | exact hr _ | exact hr1 _) ?_
        refine Go_ifc_le d_M_out_149 (fun h149 => ?_) (fun h149 => ?_)
        · refine Go_lload d_M_out_157 lg9 ?_
          refine Go_lstore d_M_out_159 rfl sb9 ?_
          refine Go_iinc d_M_out_161 lg11 rfl sa11 ?_
          refine Go_goto d_M_out_164 ?_
          first
            | (exfalso; omega)
            | (refine fg12 (ih g hge hgr hrr hkk hvv hg3 zw _ _ _ S1 hzw hHL ?_ ?_)
               · rw [nmV_S _ _ _ _ _ _ _ h0, ← hz]
                 first | rw [bI_pos (by omega)] | rw [bI_neg (by omega)]
               · rw [mxV_S _ _ _ _ _ _ _ h0, ← hm]
                 dsimp only
                 first | rw [if_pos (by omega)] | rw [if_neg (by omega)])
        · refine Go_lload d_M_out_152 lg12 ?_
          refine Go_goto d_M_out_154 ?_
          refine Go_lstore d_M_out_159 rfl sb9 ?_
          refine Go_iinc d_M_out_161 lg11 rfl sa11 ?_
          refine Go_goto d_M_out_164 ?_
          first
            | (exfalso; omega)
            | (refine fg12 (ih g hge hgr hrr hkk hvv hg3 zw _ _ _ S1 hzw hHL ?_ ?_)
               · rw [nmV_S _ _ _ _ _ _ _ h0, ← hz]
                 first | rw [bI_pos (by omega)] | rw [bI_neg (by omega)]
               · rw [mxV_S _ _ _ _ _ _ _ h0, ← hm]
                 dsimp only
                 first | rw [if_pos (by omega)] | rw [if_neg (by omega)])
      · refine Go_iload d_M_out_135 lg11 ?_
        refine Go_goto d_M_out_137 ?_
        refine Go_istore d_M_out_142 rfl sa8 ?_
        refine Go_lload d_M_out_144 lg12 ?_
        refine Go_lload d_M_out_146 lg9 ?_
        refine Go_lcmp d_M_out_148 (by first | omega | exact hr _ | exact hr1 _) (by first | omega | exact hr _ | exact hr1 _) ?_
        refine Go_ifc_le d_M_out_149 (fun h149 => ?_) (fun h149 => ?_)
        · refine Go_lload d_M_out_157 lg9 ?_
          refine Go_lstore d_M_out_159 rfl sb9 ?_
          refine Go_iinc d_M_out_161 lg11 rfl sa11 ?_
          refine Go_goto d_M_out_164 ?_
          first
            | (exfalso; omega)
            | (refine fg12 (ih g hge hgr hrr hkk hvv hg3 zw _ _ _ S1 hzw hHL ?_ ?_)
               · rw [nmV_S _ _ _ _ _ _ _ h0, ← hz]
                 first | rw [bI_pos (by omega)] | rw [bI_neg (by omega)]
               · rw [mxV_S _ _ _ _ _ _ _ h0, ← hm]
                 dsimp only
                 first | rw [if_pos (by omega)] | rw [if_neg (by omega)])
        · refine Go_lload d_M_out_152 lg12 ?_
          refine Go_goto d_M_out_154 ?_
          refine Go_lstore d_M_out_159 rfl sb9 ?_
          refine Go_iinc d_M_out_161 lg11 rfl sa11 ?_
          refine Go_goto d_M_out_164 ?_
          first
            | (exfalso; omega)
            | (refine fg12 (ih g hge hgr hrr hkk hvv hg3 zw _ _ _ S1 hzw hHL ?_ ?_)
               · rw [nmV_S _ _ _ _ _ _ _ h0, ← hz]
                 first | rw [bI_pos (by omega)] | rw [bI_neg (by omega)]
               · rw [mxV_S _ _ _ _ _ _ _ h0, ← hm]
                 dsimp only
                 first | rw [if_pos (by omega)] | rw [if_neg (by omega)])
    · refine Go_const d_M_out_119 ?_
      refine Go_goto d_M_out_120 ?_
      refine Go_iadd d_M_out_124 ?_
      refine Go_istore d_M_out_125 rfl sa7 ?_
      refine Go_lload d_M_out_127 lg12 ?_
      refine Go_lload d_M_out_129 lg9 ?_
      refine Go_lcmp d_M_out_131 (by first | omega | exact hr _ | exact hr1 _) (by first | omega | exact hr _ | exact hr1 _) ?_
      refine Go_ifc_le d_M_out_132 (fun h132 => ?_) (fun h132 => ?_)
      · refine Go_iload d_M_out_140 lg8 ?_
        refine Go_istore d_M_out_142 rfl sa8 ?_
        refine Go_lload d_M_out_144 lg12 ?_
        refine Go_lload d_M_out_146 lg9 ?_
        refine Go_lcmp d_M_out_148 (by first | omega | exact hr _ | exact hr1 _) (by first | omega | exact hr _ | exact hr1 _) ?_
        refine Go_ifc_le d_M_out_149 (fun h149 => ?_) (fun h149 => ?_)
        · refine Go_lload d_M_out_157 lg9 ?_
          refine Go_lstore d_M_out_159 rfl sb9 ?_
          refine Go_iinc d_M_out_161 lg11 rfl sa11 ?_
          refine Go_goto d_M_out_164 ?_
          first
            | (exfalso; omega)
            | (refine fg12 (ih g hge hgr hrr hkk hvv hg3 zw _ _ _ S1 hzw hHL ?_ ?_)
               · rw [nmV_S _ _ _ _ _ _ _ h0, ← hz]
                 first | rw [bI_pos (by omega)] | rw [bI_neg (by omega)]
               · rw [mxV_S _ _ _ _ _ _ _ h0, ← hm]
                 dsimp only
                 first | rw [if_pos (by omega)] | rw [if_neg (by omega)])
        · refine Go_lload d_M_out_152 lg12 ?_
          refine Go_goto d_M_out_154 ?_
          refine Go_lstore d_M_out_159 rfl sb9 ?_
          refine Go_iinc d_M_out_161 lg11 rfl sa11 ?_
          refine Go_goto d_M_out_164 ?_
          first
            | (exfalso; omega)
            | (refine fg12 (ih g hge hgr hrr hkk hvv hg3 zw _ _ _ S1 hzw hHL ?_ ?_)
               · rw [nmV_S _ _ _ _ _ _ _ h0, ← hz]
                 first | rw [bI_pos (by omega)] | rw [bI_neg (by omega)]
               · rw [mxV_S _ _ _ _ _ _ _ h0, ← hm]
                 dsimp only
                 first | rw [if_pos (by omega)] | rw [if_neg (by omega)])
      · refine Go_iload d_M_out_135 lg11 ?_
        refine Go_goto d_M_out_137 ?_
        refine Go_istore d_M_out_142 rfl sa8 ?_
        refine Go_lload d_M_out_144 lg12 ?_
        refine Go_lload d_M_out_146 lg9 ?_
        refine Go_lcmp d_M_out_148 (by first | omega | exact hr _ | exact hr1 _) (by first | omega | exact hr _ | exact hr1 _) ?_
        refine Go_ifc_le d_M_out_149 (fun h149 => ?_) (fun h149 => ?_)
        · refine Go_lload d_M_out_157 lg9 ?_
          refine Go_lstore d_M_out_159 rfl sb9 ?_
          refine Go_iinc d_M_out_161 lg11 rfl sa11 ?_
          refine Go_goto d_M_out_164 ?_
          first
            | (exfalso; omega)
            | (refine fg12 (ih g hge hgr hrr hkk hvv hg3 zw _ _ _ S1 hzw hHL ?_ ?_)
               · rw [nmV_S _ _ _ _ _ _ _ h0, ← hz]
                 first | rw [bI_pos (by omega)] | rw [bI_neg (by omega)]
               · rw [mxV_S _ _ _ _ _ _ _ h0, ← hm]
                 dsimp only
                 first | rw [if_pos (by omega)] | rw [if_neg (by omega)])
        · refine Go_lload d_M_out_152 lg12 ?_
          refine Go_goto d_M_out_154 ?_
          refine Go_lstore d_M_out_159 rfl sb9 ?_
          refine Go_iinc d_M_out_161 lg11 rfl sa11 ?_
          refine Go_goto d_M_out_164 ?_
          first
            | (exfalso; omega)
            | (refine fg12 (ih g hge hgr hrr hkk hvv hg3 zw _ _ _ S1 hzw hHL ?_ ?_)
               · rw [nmV_S _ _ _ _ _ _ _ h0, ← hz]
                 first | rw [bI_pos (by omega)] | rw [bI_neg (by omega)]
               · rw [mxV_S _ _ _ _ _ _ _ h0, ← hm]
                 dsimp only
                 first | rw [if_pos (by omega)] | rw [if_neg (by omega)])
end Model5
