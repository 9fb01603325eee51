section Model4
variable {G : GT} {S : St}
theorem c_M_image : Fn G k_M_image [oR G 22] S (PI (fun z S1 => z = 1 ∧ S1 = st3 (sR (sR S 22 9 (cpR (S 22 9) (S 22 0) 0 402)) 22 10 (cpR (S 22 10) (S 22 7) 0 2412)) 22 11 0 (S 22 8 0))) := by
  refine Fn.of [some (oR G 22), none] 1 rfl (by decide +kernel) rfl (Nat.le_of_ble_eq_true rfl) (by decide) ?_

  have loop2 := loopI (fun i => ∀ S1, S1 = sR (sR S 22 9 (cpR (S 22 9) (S 22 0) 0 402)) 22 10 (cpR (S 22 10) (S 22 7) 0 i.toNat) → Go G k_M_image 29 [some (oR G 22), some (vI i)] [] S1 (PI (fun z S1 => z = 1 ∧ S1 = st3 (sR (sR S 22 9 (cpR (S 22 9) (S 22 0) 0 402)) 22 10 (cpR (S 22 10) (S 22 7) 0 2412)) 22 11 0 (S 22 8 0)))) 2412 ?_ ?_
  have loop1 := loopI (fun i => ∀ S1, S1 = sR S 22 9 (cpR (S 22 9) (S 22 0) 0 i.toNat) → Go G k_M_image 2 [some (oR G 22), some (vI i)] [] S1 (PI (fun z S1 => z = 1 ∧ S1 = st3 (sR (sR S 22 9 (cpR (S 22 9) (S 22 0) 0 402)) 22 10 (cpR (S 22 10) (S 22 7) 0 2412)) 22 11 0 (S 22 8 0)))) 402 ?_ ?_
  refine Go_const d_M_image_0 ?_
  refine Go_istore d_M_image_1 rfl sa1 ?_
  exact loop1 0 (by omega) (by omega) S (by rw [show (0 : Int).toNat = 0 from rfl, cpR_0, sR_id])
  · intro S1 hS1
    refine Go_iload d_M_image_2 lg1 ?_
    refine Go_const d_M_image_3 ?_
    refine Go_icmp_ge d_M_image_6 (by omega) (by omega) (fun h6 => ?_) (fun h6 => absurd h6 (by omega))
    refine Go_const d_M_image_27 ?_
    refine Go_istore d_M_image_28 rfl sa1 ?_
    refine loop2 0 (by omega) (by omega) S1 ?_
    have e : (sR S 22 9 (cpR (S 22 9) (S 22 0) 0 402)) 22 10 = S 22 10 := sR_j (by decide)
    rw [show (0 : Int).toNat = 0 from rfl, cpR_0, ← e, sR_id, hS1]
    rfl
  · intro i h0 h1 ih S1 hS1
    have e0 : S1 22 0 = S 22 0 := by rw [hS1]; exact sR_j (by decide)
    refine Go_iload d_M_image_2 lg1 ?_
    refine Go_const d_M_image_3 ?_
    refine Go_icmp_ge d_M_image_6 (by omega) (by omega) (fun h6 => absurd h6 (by omega)) (fun h6 => ?_)
    refine Go_aload d_M_image_9 lg0 ⟨_, rfl⟩ ?_
    refine Go_get d_M_image_10 fm_9 ?_
    refine Go_iload d_M_image_13 lg1 ?_
    refine Go_aload d_M_image_14 lg0 ⟨_, rfl⟩ ?_
    refine Go_get d_M_image_15 fm_0 ?_
    refine Go_iload d_M_image_18 lg1 ?_
    refine Go_iald d_M_image_19 am_0 (by omega) ?_
    refine Go_iast d_M_image_20 am_9 (by omega) ?_
    refine Go_iinc d_M_image_21 lg1 rfl sa1 ?_
    refine Go_goto d_M_image_24 ?_
    refine ih _ ?_
    have := cpR_S (S 22 9) (S 22 0) 0 i.toNat
    rw [e0, hS1, st3_sR2, show (i + 1).toNat = i.toNat + 1 by omega, ← this, Nat.zero_add]
  · intro S1 hS1
    have e8 : S1 22 8 0 = S 22 8 0 := by rw [hS1, sR_ji (by decide), sR_ji (by decide)]
    refine Go_iload d_M_image_29 lg1 ?_
    refine Go_const d_M_image_30 ?_
    refine Go_icmp_ge d_M_image_33 (by omega) (by omega) (fun h33 => ?_) (fun h33 => absurd h33 (by omega))
    refine Go_aload d_M_image_54 lg0 ⟨_, rfl⟩ ?_
    refine Go_aload d_M_image_55 lg0 ⟨_, rfl⟩ ?_
    refine Go_get d_M_image_56 fm_8 ?_
    refine Go_put d_M_image_59 (wm_11 _) rfl rfl ?_
    refine Go_const d_M_image_62 ?_
    exact Go_iretI d_M_image_63 ⟨rfl, by rw [e8, hS1]; rfl⟩
  · intro i h0 h1 ih S1 hS1
    have e7 : S1 22 7 = S 22 7 := by rw [hS1, sR_j (by decide), sR_j (by decide)]
    refine Go_iload d_M_image_29 lg1 ?_
    refine Go_const d_M_image_30 ?_
    refine Go_icmp_ge d_M_image_33 (by omega) (by omega) (fun h33 => absurd h33 (by omega)) (fun h33 => ?_)
    refine Go_aload d_M_image_36 lg0 ⟨_, rfl⟩ ?_
    refine Go_get d_M_image_37 fm_10 ?_
    refine Go_iload d_M_image_40 lg1 ?_
    refine Go_aload d_M_image_41 lg0 ⟨_, rfl⟩ ?_
    refine Go_get d_M_image_42 fm_7 ?_
    refine Go_iload d_M_image_45 lg1 ?_
    refine Go_iald d_M_image_46 am_7 (by omega) ?_
    refine Go_iast d_M_image_47 am_10 (by omega) ?_
    refine Go_iinc d_M_image_48 lg1 rfl sa1 ?_
    refine Go_goto d_M_image_51 ?_
    refine ih _ ?_
    have := cpR_S (S 22 10) (S 22 7) 0 i.toNat
    rw [e7, hS1, st3_sR2, show (i + 1).toNat = i.toNat + 1 by omega, ← this, Nat.zero_add]
theorem c_M_restore (hu : -1 ≤ S 22 11 0 ∧ S 22 11 0 ≤ 6) : Fn G k_M_restore [oR G 22] S (PI (fun z S1 => (S 22 11 0 < 0 ∧ z = -4 ∧ S1 = S) ∨ (0 ≤ S 22 11 0 ∧ z = 1 ∧ S1 = st3 (sR (sR S 22 0 (cpR (S 22 0) (S 22 9) 0 402)) 22 7 (cpR (S 22 7) (S 22 10) 0 2412)) 22 8 0 (S 22 11 0)))) := by
  refine Fn.of [some (oR G 22), none] 1 rfl (by decide +kernel) rfl (Nat.le_of_ble_eq_true rfl) (by decide) ?_

  have loop2 := loopI (fun i => 0 ≤ S 22 11 0 → ∀ S1, S1 = sR (sR S 22 0 (cpR (S 22 0) (S 22 9) 0 402)) 22 7 (cpR (S 22 7) (S 22 10) 0 i.toNat) → Go G k_M_restore 39 [some (oR G 22), some (vI i)] [] S1 (PI (fun z S1 => (S 22 11 0 < 0 ∧ z = -4 ∧ S1 = S) ∨ (0 ≤ S 22 11 0 ∧ z = 1 ∧ S1 = st3 (sR (sR S 22 0 (cpR (S 22 0) (S 22 9) 0 402)) 22 7 (cpR (S 22 7) (S 22 10) 0 2412)) 22 8 0 (S 22 11 0))))) 2412 ?_ ?_
  have loop1 := loopI (fun i => 0 ≤ S 22 11 0 → ∀ S1, S1 = sR S 22 0 (cpR (S 22 0) (S 22 9) 0 i.toNat) → Go G k_M_restore 12 [some (oR G 22), some (vI i)] [] S1 (PI (fun z S1 => (S 22 11 0 < 0 ∧ z = -4 ∧ S1 = S) ∨ (0 ≤ S 22 11 0 ∧ z = 1 ∧ S1 = st3 (sR (sR S 22 0 (cpR (S 22 0) (S 22 9) 0 402)) 22 7 (cpR (S 22 7) (S 22 10) 0 2412)) 22 8 0 (S 22 11 0))))) 402 ?_ ?_
  refine Go_aload d_M_restore_0 lg0 ⟨_, rfl⟩ ?_
  refine Go_get d_M_restore_1 fm_11 ?_
  refine Go_if_ge d_M_restore_4 (by omega) (fun h4 => ?_) (fun h4 => ?_)
  · refine Go_const d_M_restore_10 ?_
    refine Go_istore d_M_restore_11 rfl sa1 ?_
    exact loop1 0 (by omega) (by omega) h4 S (by rw [show (0 : Int).toNat = 0 from rfl, cpR_0, sR_id])
  · refine Go_const d_M_restore_7 ?_
    exact Go_iretI d_M_restore_9 (Or.inl ⟨h4, rfl, rfl⟩)
  · intro hk S1 hS1
    refine Go_iload d_M_restore_12 lg1 ?_
    refine Go_const d_M_restore_13 ?_
    refine Go_icmp_ge d_M_restore_16 (by omega) (by omega) (fun h16 => ?_) (fun h16 => absurd h16 (by omega))
    refine Go_const d_M_restore_37 ?_
    refine Go_istore d_M_restore_38 rfl sa1 ?_
    refine loop2 0 (by omega) (by omega) hk S1 ?_
    have e : (sR S 22 0 (cpR (S 22 0) (S 22 9) 0 402)) 22 7 = S 22 7 := sR_j (by decide)
    rw [show (0 : Int).toNat = 0 from rfl, cpR_0, ← e, sR_id, hS1]
    rfl
  · intro i h0 h1 ih hk S1 hS1
    have e0 : S1 22 9 = S 22 9 := by rw [hS1]; exact sR_j (by decide)
    refine Go_iload d_M_restore_12 lg1 ?_
    refine Go_const d_M_restore_13 ?_
    refine Go_icmp_ge d_M_restore_16 (by omega) (by omega) (fun h16 => absurd h16 (by omega)) (fun h16 => ?_)
    refine Go_aload d_M_restore_19 lg0 ⟨_, rfl⟩ ?_
    refine Go_get d_M_restore_20 fm_0 ?_
    refine Go_iload d_M_restore_23 lg1 ?_
    refine Go_aload d_M_restore_24 lg0 ⟨_, rfl⟩ ?_
    refine Go_get d_M_restore_25 fm_9 ?_
    refine Go_iload d_M_restore_28 lg1 ?_
    refine Go_iald d_M_restore_29 am_9 (by omega) ?_
    refine Go_iast d_M_restore_30 am_0 (by omega) ?_
    refine Go_iinc d_M_restore_31 lg1 rfl sa1 ?_
    refine Go_goto d_M_restore_34 ?_
    refine ih hk _ ?_
    have := cpR_S (S 22 0) (S 22 9) 0 i.toNat
    rw [e0, hS1, st3_sR2, show (i + 1).toNat = i.toNat + 1 by omega, ← this, Nat.zero_add]
  · intro hk S1 hS1
    have e8 : S1 22 11 0 = S 22 11 0 := by rw [hS1, sR_ji (by decide), sR_ji (by decide)]
    refine Go_iload d_M_restore_39 lg1 ?_
    refine Go_const d_M_restore_40 ?_
    refine Go_icmp_ge d_M_restore_43 (by omega) (by omega) (fun h43 => ?_) (fun h43 => absurd h43 (by omega))
    refine Go_aload d_M_restore_64 lg0 ⟨_, rfl⟩ ?_
    refine Go_aload d_M_restore_65 lg0 ⟨_, rfl⟩ ?_
    refine Go_get d_M_restore_66 fm_11 ?_
    refine Go_put d_M_restore_69 (wm_8 _) rfl rfl ?_
    refine Go_const d_M_restore_72 ?_
    exact Go_iretI d_M_restore_73 (Or.inr ⟨hk, rfl, by rw [e8, hS1]; rfl⟩)
  · intro i h0 h1 ih hk S1 hS1
    have e7 : S1 22 10 = S 22 10 := by rw [hS1, sR_j (by decide), sR_j (by decide)]
    refine Go_iload d_M_restore_39 lg1 ?_
    refine Go_const d_M_restore_40 ?_
    refine Go_icmp_ge d_M_restore_43 (by omega) (by omega) (fun h43 => absurd h43 (by omega)) (fun h43 => ?_)
    refine Go_aload d_M_restore_46 lg0 ⟨_, rfl⟩ ?_
    refine Go_get d_M_restore_47 fm_7 ?_
    refine Go_iload d_M_restore_50 lg1 ?_
    refine Go_aload d_M_restore_51 lg0 ⟨_, rfl⟩ ?_
    refine Go_get d_M_restore_52 fm_10 ?_
    refine Go_iload d_M_restore_55 lg1 ?_
    refine Go_iald d_M_restore_56 am_10 (by omega) ?_
    refine Go_iast d_M_restore_57 am_7 (by omega) ?_
    refine Go_iinc d_M_restore_58 lg1 rfl sa1 ?_
    refine Go_goto d_M_restore_61 ?_
    refine ih hk _ ?_
    have := cpR_S (S 22 7) (S 22 10) 0 i.toNat
    rw [e7, hS1, st3_sR2, show (i + 1).toNat = i.toNat + 1 by omega, ← this, Nat.zero_add]
theorem c_M_whole (h : NR (S 22 0)) : Fn G k_M_whole [oR G 22] S (PL (fun z S1 => z = prS (mM (S 22 0)) 0 (S 22 0 6).toNat ∧ HL S S1)) := by
  obtain ⟨hr, i0, i1, i2, i3, i4, i5, i6⟩ := id h

  refine Fn.of [some (oR G 22), none, none, none] 3 rfl (by decide +kernel) rfl (Nat.le_of_ble_eq_true rfl) (by decide) ?_

  have loop := loopI (fun i => ∀ z S1, z = prS (mM (S 22 0)) 0 i.toNat → (∀ q : Nat, (q : Int) < i → S1 22 1 q = mM (S 22 0) q ∧ S1 22 2 q = mJ (S 22 0) q) → (∀ c j, ¬ (c = 22 ∧ (j = 1 ∨ j = 2)) → S1 c j = S c j) → Go G k_M_whole 4 [some (oR G 22), some (vL z), none, some (vI i)] [] S1 (PL (fun z S1 => z = prS (mM (S 22 0)) 0 (S 22 0 6).toNat ∧ HL S S1))) (S 22 0 6) ?_ ?_
  refine Go_lconst d_M_whole_0 ?_
  refine Go_lstore d_M_whole_1 rfl sb1 ?_
  refine Go_const d_M_whole_2 ?_
  refine Go_istore d_M_whole_3 rfl sa3 ?_
  exact loop 0 (by omega) (by omega) 1 S rfl (fun q hq => by omega) (fun _ _ _ => rfl)
  · intro z S1 hz hH hO
    have e0 : S1 22 0 = S 22 0 := hO 22 0 (by decide)
    refine Go_iload d_M_whole_4 lg3 ?_
    refine Go_aload d_M_whole_5 lg0 ⟨_, rfl⟩ ?_
    refine Go_get d_M_whole_6 fm_0 ?_
    refine Go_const d_M_whole_9 ?_
    refine Go_ialdC (k0 := 6) d_M_whole_11 am_0 rfl (by decide) ?_
    refine Go_icmp_ge d_M_whole_12 (by omega) (by rw [e0]; omega) (fun h12 => ?_) (fun h12 => absurd h12 (by rw [e0]; omega))
    refine Go_lload d_M_whole_68 lg1 ?_
    exact Go_lretL d_M_whole_69 ⟨hz, hH, hO⟩
  · intro i h0 h1 ih z S1 hz hH hO
    have e0 : S1 22 0 = S 22 0 := hO 22 0 (by decide)
    have hr1 : ∀ k, -2147483648 ≤ S1 22 0 k ∧ S1 22 0 k < 2147483648 := by rw [e0]; exact hr
    have hb3 := rof_0 (S 22 0) i 3 (S 22 0 5).toNat
    have hb4 := rof_0 (S 22 0) i 4 (S 22 0 5).toNat
    have eM : mM (S 22 0) i.toNat = rof (S 22 0) i 3 (S 22 0 5).toNat := by unfold mM; rw [show ((i.toNat : Nat) : Int) = i by omega]
    have eJ : mJ (S 22 0) i.toNat = rof (S 22 0) i 4 (S 22 0 5).toNat := by unfold mJ; rw [show ((i.toNat : Nat) : Int) = i by omega]
    refine Go_iload d_M_whole_4 lg3 ?_
    refine Go_aload d_M_whole_5 lg0 ⟨_, rfl⟩ ?_
    refine Go_get d_M_whole_6 fm_0 ?_
    refine Go_const d_M_whole_9 ?_
    refine Go_ialdC (k0 := 6) d_M_whole_11 am_0 rfl (by decide) ?_
    refine Go_icmp_ge d_M_whole_12 (by omega) (by rw [e0]; omega) (fun h12 => absurd h12 (by rw [e0]; omega)) (fun h12 => ?_)
    refine Go_aload d_M_whole_15 lg0 ⟨_, rfl⟩ ?_
    refine Go_get d_M_whole_16 fm_1 ?_
    refine Go_iload d_M_whole_19 lg3 ?_
    refine Go_aload d_M_whole_20 lg0 ⟨_, rfl⟩ ?_
    refine Go_iload d_M_whole_21 lg3 ?_
    refine Go_const d_M_whole_22 ?_
    refine Go_V2p d_M_whole_23 kM (c_M_roundOf _ _ (by omega) (by omega) (by rw [e0]; omega) hr1) (Nat.le_of_ble_eq_true rfl) ?_
    rw [e0, ← eM]
    refine Go_iast d_M_whole_26 am_1 (by omega) ?_
    refine Go_aload d_M_whole_27 lg0 ⟨_, rfl⟩ ?_
    refine Go_get d_M_whole_28 fm_2 ?_
    refine Go_iload d_M_whole_31 lg3 ?_
    refine Go_aload d_M_whole_32 lg0 ⟨_, rfl⟩ ?_
    refine Go_iload d_M_whole_33 lg3 ?_
    refine Go_const d_M_whole_34 ?_
    refine Go_V2p d_M_whole_35 kM (c_M_roundOf (S := st3 S1 22 1 i.toNat (mM (S 22 0) i.toNat)) _ _ (by omega) (by omega) (by rw [st3_j (by decide), e0]; omega) (fun k => by rw [st3_j (by decide)]; exact hr1 k)) (Nat.le_of_ble_eq_true rfl) ?_
    have f0 : st3 S1 22 1 i.toNat (mM (S 22 0) i.toNat) 22 0 = S 22 0 := by funext k; rw [st3_j (by decide), e0]
    rw [f0, ← eJ]
    refine Go_iast d_M_whole_38 am_2 (by omega) ?_
    refine Go_lload d_M_whole_39 lg1 ?_
    refine Go_aload d_M_whole_40 lg0 ⟨_, rfl⟩ ?_
    refine Go_get d_M_whole_41 fm_1 ?_
    refine Go_iload d_M_whole_44 lg3 ?_
    refine Go_iald d_M_whole_45 am_1 (by omega) ?_
    rw [st3_j (by decide), st3_s]
    refine Go_if_le d_M_whole_46 (by omega) (fun h46 => ?_) (fun h46 => ?_)
    · refine Go_lconst d_M_whole_59 ?_
      refine Go_lmul d_M_whole_60 ?_
      refine Go_lstore d_M_whole_61 rfl sb1 ?_
      refine Go_iinc d_M_whole_62 lg3 rfl sa3 ?_
      refine Go_goto d_M_whole_65 ?_
      refine ih _ _ ?_ ?_ ?_
      · rw [show (i + 1).toNat = i.toNat + 1 by omega, hz]
        show _ = prS (mM (S 22 0)) 0 i.toNat * sh (mM (S 22 0) (0 + i.toNat))
        unfold sh
        rw [Nat.zero_add]
        first
          | rw [if_pos (by assumption)]
          | rw [if_neg (by omega)]
      · intro q hq
        by_cases hqi : q = i.toNat
        · subst hqi
          exact ⟨by rw [st3_j (by decide), st3_s], by rw [st3_s]⟩
        · obtain ⟨a1, a2⟩ := hH q (by omega)
          exact ⟨by rw [st3_j (by decide), st3_i hqi]; exact a1, by rw [st3_i hqi, st3_j (by decide)]; exact a2⟩
      · intro c j hcj
        funext k
        rw [← hO c j hcj]
        unfold st3
        rw [if_neg (by omega), if_neg (by omega)]
    · refine Go_aload d_M_whole_49 lg0 ⟨_, rfl⟩ ?_
      refine Go_get d_M_whole_50 fm_1 ?_
      refine Go_iload d_M_whole_53 lg3 ?_
      refine Go_iald d_M_whole_54 am_1 (by omega) ?_
      rw [st3_j (by decide), st3_s]
      refine Go_i2l d_M_whole_55 (by omega) ?_
      refine Go_goto d_M_whole_56 ?_
      refine Go_lmul d_M_whole_60 ?_
      refine Go_lstore d_M_whole_61 rfl sb1 ?_
      refine Go_iinc d_M_whole_62 lg3 rfl sa3 ?_
      refine Go_goto d_M_whole_65 ?_
      refine ih _ _ ?_ ?_ ?_
      · rw [show (i + 1).toNat = i.toNat + 1 by omega, hz]
        show _ = prS (mM (S 22 0)) 0 i.toNat * sh (mM (S 22 0) (0 + i.toNat))
        unfold sh
        rw [Nat.zero_add]
        first
          | rw [if_pos (by assumption)]
          | rw [if_neg (by omega)]
      · intro q hq
        by_cases hqi : q = i.toNat
        · subst hqi
          exact ⟨by rw [st3_j (by decide), st3_s], by rw [st3_s]⟩
        · obtain ⟨a1, a2⟩ := hH q (by omega)
          exact ⟨by rw [st3_j (by decide), st3_i hqi]; exact a1, by rw [st3_i hqi, st3_j (by decide)]; exact a2⟩
      · intro c j hcj
        funext k
        rw [← hO c j hcj]
        unfold st3
        rw [if_neg (by omega), if_neg (by omega)]
theorem c_M_leftOf (a i r : Int) (ha : 0 ≤ a ∧ a ≤ 1000000000000000) (hi : 0 ≤ i ∧ i < S 22 0 5) (ho : lf (S 22 0) i 0 ≠ 9) (hr0 : 0 ≤ r ∧ r ≤ S 22 0 6) (hW : WR (S 22 0) (S 22 1) (S 22 2)) : Fn G k_M_leftOf [oR G 22, vL a, vI i, vI r] S (PV (vL (lfN (S 22 1) (S 22 2) a (lf (S 22 0) i 2).toNat (r - lf (S 22 0) i 2).toNat)) S) := by
  obtain ⟨h, w2, w3, w4⟩ := id hW
  obtain ⟨hr, i0, i1, i2, i3, i4, i5, i6⟩ := id h
  have hf := w2 i hi.1 hi.2
  have w4' := fun k => w4 i a k hi.1 hi.2 ho
  generalize hfe : lf (S 22 0) i 2 = f at *
  refine Fn.of [some (oR G 22), some (vL a), none, some (vI i), some (vI r), none, none, none] 3 rfl (by decide +kernel) rfl (Nat.le_of_ble_eq_true rfl) (by decide) ?_

  have loop := loopF (fun q => ∀ z, z = lfN (S 22 1) (S 22 2) a f.toNat (q - f).toNat → Go G k_M_leftOf 11 [some (oR G 22), some (vL a), none, some (vI i), some (vI r), some (vL z), none, some (vI q)] [] S (PV (vL (lfN (S 22 1) (S 22 2) a f.toNat (r - f).toNat)) S)) f (if f ≤ r then r else f) ?_ ?_
  refine Go_lload d_M_leftOf_0 lg1 ?_
  refine Go_lstore d_M_leftOf_1 rfl sb5 ?_
  refine Go_aload d_M_leftOf_3 lg0 ⟨_, rfl⟩ ?_
  refine Go_iload d_M_leftOf_4 lg3 ?_
  refine Go_const d_M_leftOf_5 ?_
  refine Go_V2p d_M_leftOf_6 kM (c_M_of _ _ (by omega)) (Nat.le_of_ble_eq_true rfl) ?_
  rw [hfe]
  refine Go_istore d_M_leftOf_9 rfl sa7 ?_
  exact loop f (by omega) (by split <;> omega) a (by rw [show (f - f).toNat = 0 by omega]; rfl)
  · intro z hz
    refine Go_iload d_M_leftOf_11 lg7 ?_
    refine Go_iload d_M_leftOf_13 lg4 ?_
    refine Go_icmp_ge d_M_leftOf_15 (by split <;> omega) (by omega) (fun h15 => ?_) (fun h15 => absurd h15 (by split <;> omega))
    refine Go_lload d_M_leftOf_61 lg5 ?_
    exact Go_lretV d_M_leftOf_63 (by rw [hz]; split <;> first | rfl | rw [show (f - f).toNat = 0 by omega, show (r - f).toNat = 0 by omega])
  · intro q h0 h1 ih z hz
    have hqr : q < r := by split at h1 <;> omega
    have hq3 := w3 q.toNat (by omega)
    obtain ⟨l1, l2⟩ := lfN_rg (H := S 22 1) (J := S 22 2) (f := f.toNat) ha.1 (q - f).toNat (fun x a b => by have := w3 x (by omega); omega)
    have hfq : f.toNat + (q - f).toNat = q.toNat := by omega
    have hpos := w4' (q - f).toNat (by omega)
    rw [hfq, ← hz] at hpos
    refine Go_iload d_M_leftOf_11 lg7 ?_
    refine Go_iload d_M_leftOf_13 lg4 ?_
    refine Go_icmp_ge d_M_leftOf_15 (by first | omega | exact hr _) (by first | omega | exact hr _) (fun h15 => absurd h15 (by omega)) (fun h15 => ?_)
    refine Go_lload d_M_leftOf_18 lg5 ?_
    refine Go_lconst d_M_leftOf_20 ?_
    refine Go_lcmp d_M_leftOf_21 (by first | omega | exact hr _) (by first | omega | exact hr _) ?_
    refine Go_ifc_le d_M_leftOf_22 (fun h22 => ?_) (fun h22 => ?_)
    · refine Go_lload d_M_leftOf_61 lg5 ?_
      exact Go_lretV d_M_leftOf_63 (by
        have e0 : lfN (S 22 1) (S 22 2) a f.toNat (q - f).toNat = 0 := by omega
        rw [hz, e0, show (r - f).toNat = (q - f).toNat + (r - q).toNat by omega, lfN_z e0])
    · refine Go_lload d_M_leftOf_25 lg5 ?_
      refine Go_aload d_M_leftOf_27 lg0 ⟨_, rfl⟩ ?_
      refine Go_get d_M_leftOf_28 fm_1 ?_
      refine Go_iload d_M_leftOf_31 lg7 ?_
      refine Go_iald d_M_leftOf_33 am_1 (by first | omega | exact hr _) ?_
      refine Go_i2l d_M_leftOf_34 (by first | omega | exact hr _) ?_
      refine Go_ldiv d_M_leftOf_35 (by omega) (by have := hpos h22; omega) ?_
      refine Go_aload d_M_leftOf_36 lg0 ⟨_, rfl⟩ ?_
      refine Go_get d_M_leftOf_37 fm_1 ?_
      refine Go_iload d_M_leftOf_40 lg7 ?_
      refine Go_iald d_M_leftOf_42 am_1 (by first | omega | exact hr _) ?_
      refine Go_aload d_M_leftOf_43 lg0 ⟨_, rfl⟩ ?_
      refine Go_get d_M_leftOf_44 fm_2 ?_
      refine Go_iload d_M_leftOf_47 lg7 ?_
      refine Go_iald d_M_leftOf_49 am_2 (by first | omega | exact hr _) ?_
      refine Go_isub d_M_leftOf_50 ?_
      refine Go_i2l d_M_leftOf_51 (by first | omega | exact hr _) ?_
      refine Go_lmul d_M_leftOf_52 ?_
      refine Go_lstore d_M_leftOf_53 rfl sb5 ?_
      refine Go_iinc d_M_leftOf_55 lg7 rfl sa7 ?_
      refine Go_goto d_M_leftOf_58 ?_
      refine ih _ ?_
      rw [show (q + 1 - f).toNat = (q - f).toNat + 1 by omega, hz]
      show _ = lfN (S 22 1) (S 22 2) a f.toNat (q - f).toNat / S 22 1 (f.toNat + (q - f).toNat) * (S 22 1 (f.toNat + (q - f).toNat) - S 22 2 (f.toNat + (q - f).toNat))
      rw [hfq]
theorem c_M_chanceOf (a g r i : Int) (ha : 0 ≤ a ∧ a ≤ 1000000000000000) (hg : 0 ≤ g ∧ g < S 22 0 5) (hi : 0 ≤ i ∧ i < S 22 0 5) (hr0 : 0 ≤ r ∧ r < S 22 0 6) (hp : lf (S 22 0) g 0 ≠ 9 → 0 < S 22 1 r.toNat) (hW : WR (S 22 0) (S 22 1) (S 22 2)) : Fn G k_M_chanceOf [oR G 22, vL a, vI g, vI r, vI i] S (PV (vL (chV (S 22 0) (S 22 1) (S 22 2) a g r i)) S) := by
  obtain ⟨h, w2, w3, w4⟩ := id hW
  obtain ⟨hr, i0, i1, i2, i3, i4, i5, i6⟩ := id h
  have hf := w2 i hi.1 hi.2
  have hH := w3 r.toNat (by omega)
  have hl := lfN_rg (H := S 22 1) (J := S 22 2) (w := a) (f := (lf (S 22 0) i 2).toNat) ha.1 (r - lf (S 22 0) i 2).toNat (fun q a b => by have := w3 q (by omega); omega)
  refine Fn.of [some (oR G 22), some (vL a), none, some (vI g), some (vI r), some (vI i)] 0 rfl (by decide +kernel) rfl (Nat.le_of_ble_eq_true rfl) (by decide) ?_
  refine Go_aload d_M_chanceOf_0 lg0 ⟨_, rfl⟩ ?_
  refine Go_iload d_M_chanceOf_1 lg3 ?_
  refine Go_V1p d_M_chanceOf_2 kM (c_M_isOwn _ (by omega) hr) (Nat.le_of_ble_eq_true rfl) ?_
  refine Go_ifeq_d d_M_chanceOf_5 (fun h5 => ?_) (fun h5 => ?_)
  · refine Go_aload d_M_chanceOf_20 lg0 ⟨_, rfl⟩ ?_
    refine Go_iload d_M_chanceOf_21 lg5 ?_
    refine Go_V1p d_M_chanceOf_23 kM (c_M_isOwn _ (by omega) hr) (Nat.le_of_ble_eq_true rfl) ?_
    refine Go_ifne_d d_M_chanceOf_26 (fun h26 => ?_) (fun h26 => ?_)
    · refine Go_lconst d_M_chanceOf_41 ?_
      exact Go_lretV d_M_chanceOf_42 (by unfold chV; (repeat' split) <;> first | rfl | omega)
    · refine Go_aload d_M_chanceOf_29 lg0 ⟨_, rfl⟩ ?_
      refine Go_iload d_M_chanceOf_30 lg5 ?_
      refine Go_const d_M_chanceOf_32 ?_
      refine Go_V2p d_M_chanceOf_33 kM (c_M_of _ _ (by omega)) (Nat.le_of_ble_eq_true rfl) ?_
      refine Go_iload d_M_chanceOf_36 lg4 ?_
      refine Go_icmp_le d_M_chanceOf_38 (by first | omega | exact hr _) (by first | omega | exact hr _) (fun h38 => ?_) (fun h38 => ?_)
      · refine Go_aload d_M_chanceOf_43 lg0 ⟨_, rfl⟩ ?_
        refine Go_lload d_M_chanceOf_44 lg1 ?_
        refine Go_iload d_M_chanceOf_45 lg5 ?_
        refine Go_iload d_M_chanceOf_47 lg4 ?_
        refine Go_V3p d_M_chanceOf_49 kM (c_M_leftOf _ _ _ ha hi h26 (by omega) hW) (Nat.le_of_ble_eq_true rfl) ?_
        refine Go_aload d_M_chanceOf_52 lg0 ⟨_, rfl⟩ ?_
        refine Go_get d_M_chanceOf_53 fm_1 ?_
        refine Go_iload d_M_chanceOf_56 lg4 ?_
        refine Go_iald d_M_chanceOf_58 am_1 (by first | omega | exact hr _) ?_
        refine Go_i2l d_M_chanceOf_59 (by first | omega | exact hr _) ?_
        refine Go_ldiv d_M_chanceOf_60 (by omega) (by have := hp h5; omega) ?_
        exact Go_lretV d_M_chanceOf_61 (by unfold chV; (repeat' split) <;> first | rfl | omega)
      · refine Go_lconst d_M_chanceOf_41 ?_
        exact Go_lretV d_M_chanceOf_42 (by unfold chV; (repeat' split) <;> first | rfl | omega)
  · refine Go_iload d_M_chanceOf_8 lg5 ?_
    refine Go_iload d_M_chanceOf_10 lg3 ?_
    refine Go_icmp_ne d_M_chanceOf_11 (by first | omega | exact hr _) (by first | omega | exact hr _) (fun h11 => ?_) (fun h11 => ?_)
    · refine Go_lconst d_M_chanceOf_18 ?_
      exact Go_lretV d_M_chanceOf_19 (by unfold chV; (repeat' split) <;> first | rfl | omega)
    · refine Go_lload d_M_chanceOf_14 lg1 ?_
      refine Go_goto d_M_chanceOf_15 ?_
      exact Go_lretV d_M_chanceOf_19 (by unfold chV; (repeat' split) <;> first | rfl | omega)
theorem c_M_senderOf (a g r u : Int) (ha : 0 ≤ a ∧ a ≤ 1000000000000000) (hg : 0 ≤ g ∧ g < S 22 0 5) (hu : -2147483648 ≤ u ∧ u < 2147483648) (hr0 : 0 ≤ r ∧ r < S 22 0 6) (hp : lf (S 22 0) g 0 ≠ 9 → 0 < S 22 1 r.toNat) (hW : WR (S 22 0) (S 22 1) (S 22 2)) : Fn G k_M_senderOf [oR G 22, vL a, vI g, vI r, vI u] S (PV (vL (seV (S 22 0) (S 22 1) (S 22 2) a g r u (S 22 0 5).toNat)) S) := by
  obtain ⟨h, w2, w3, w4⟩ := id hW
  obtain ⟨hr, i0, i1, i2, i3, i4, i5, i6⟩ := id h
  refine Fn.of [some (oR G 22), some (vL a), none, some (vI g), some (vI r), some (vI u), none, none, none] 3 rfl (by decide +kernel) rfl (Nat.le_of_ble_eq_true rfl) (by decide) ?_

  have loop := loopI (fun i => ∀ z, z = seV (S 22 0) (S 22 1) (S 22 2) a g r u i.toNat → Go G k_M_senderOf 6 [some (oR G 22), some (vL a), none, some (vI g), some (vI r), some (vI u), some (vL z), none, some (vI i)] [] S (PV (vL (seV (S 22 0) (S 22 1) (S 22 2) a g r u (S 22 0 5).toNat)) S)) (S 22 0 5) ?_ ?_
  refine Go_lconst d_M_senderOf_0 ?_
  refine Go_lstore d_M_senderOf_1 rfl sb6 ?_
  refine Go_const d_M_senderOf_3 ?_
  refine Go_istore d_M_senderOf_4 rfl sa8 ?_
  exact loop 0 (by omega) (by omega) 0 rfl
  · intro z hz
    refine Go_iload d_M_senderOf_6 lg8 ?_
    refine Go_aload d_M_senderOf_8 lg0 ⟨_, rfl⟩ ?_
    refine Go_get d_M_senderOf_9 fm_0 ?_
    refine Go_const d_M_senderOf_12 ?_
    refine Go_ialdC (k0 := 5) d_M_senderOf_13 am_0 rfl (by decide) ?_
    refine Go_icmp_ge d_M_senderOf_14 (by first | omega | exact hr _) (by first | omega | exact hr _) (fun h14 => ?_) (fun h14 => absurd h14 (by omega))
    refine Go_lload d_M_senderOf_54 lg6 ?_
    exact Go_lretV d_M_senderOf_56 hz
  · intro i h0 h1 ih z hz
    refine Go_iload d_M_senderOf_6 lg8 ?_
    refine Go_aload d_M_senderOf_8 lg0 ⟨_, rfl⟩ ?_
    refine Go_get d_M_senderOf_9 fm_0 ?_
    refine Go_const d_M_senderOf_12 ?_
    refine Go_ialdC (k0 := 5) d_M_senderOf_13 am_0 rfl (by decide) ?_
    refine Go_icmp_ge d_M_senderOf_14 (by first | omega | exact hr _) (by first | omega | exact hr _) (fun h14 => absurd h14 (by omega)) (fun h14 => ?_)
    refine Go_lload d_M_senderOf_17 lg6 ?_
    refine Go_aload d_M_senderOf_19 lg0 ⟨_, rfl⟩ ?_
    refine Go_iload d_M_senderOf_20 lg8 ?_
    refine Go_const d_M_senderOf_22 ?_
    refine Go_V2p d_M_senderOf_23 kM (c_M_of _ _ (by omega)) (Nat.le_of_ble_eq_true rfl) ?_
    refine Go_iload d_M_senderOf_26 lg5 ?_
    refine Go_icmp_ne d_M_senderOf_28 (by first | omega | exact hr _) (by first | omega | exact hr _) (fun h28 => ?_) (fun h28 => ?_)
    · refine Go_lconst d_M_senderOf_44 ?_
      refine Go_ladd d_M_senderOf_45 ?_
      refine Go_lstore d_M_senderOf_46 rfl sb6 ?_
      refine Go_iinc d_M_senderOf_48 lg8 rfl sa8 ?_
      refine Go_goto d_M_senderOf_51 ?_
      exact ih _ (by rw [seV_S _ _ _ _ _ _ _ _ h0, hz]; first | rw [if_pos (by assumption)] | rw [if_neg (by assumption)])
    · refine Go_aload d_M_senderOf_31 lg0 ⟨_, rfl⟩ ?_
      refine Go_lload d_M_senderOf_32 lg1 ?_
      refine Go_iload d_M_senderOf_33 lg3 ?_
      refine Go_iload d_M_senderOf_34 lg4 ?_
      refine Go_iload d_M_senderOf_36 lg8 ?_
      refine Go_V4p d_M_senderOf_38 kM (c_M_chanceOf _ _ _ _ ha hg (by omega) hr0 hp hW) (Nat.le_of_ble_eq_true rfl) ?_
      refine Go_goto d_M_senderOf_41 ?_
      refine Go_ladd d_M_senderOf_45 ?_
      refine Go_lstore d_M_senderOf_46 rfl sb6 ?_
      refine Go_iinc d_M_senderOf_48 lg8 rfl sa8 ?_
      refine Go_goto d_M_senderOf_51 ?_
      exact ih _ (by rw [seV_S _ _ _ _ _ _ _ _ h0, hz]; first | rw [if_pos (by assumption)] | rw [if_neg (by assumption)])
theorem gcd_st {x y : Int} (hx : 0 ≤ x) (hy : 0 < y) : Int.gcd y (x % y) = Int.gcd x y := by
  obtain ⟨m, rfl⟩ := Int.eq_ofNat_of_zero_le hx
  obtain ⟨n, rfl⟩ := Int.eq_ofNat_of_zero_le (Int.le_of_lt hy)
  rw [← Int.natCast_emod]
  show Nat.gcd n (m % n) = Nat.gcd m n
  rw [Nat.gcd_comm m n, Nat.gcd_rec n m, Nat.gcd_comm]
theorem c_M_fraction (a b v : Int) (ha : 0 ≤ a ∧ a < 9223372036854775808) (hb : 0 < b ∧ b < 9223372036854775808) (hv : -2147483648 ≤ v ∧ v < 2147483648) : Fn G k_M_fraction [vL a, vL b, vI v] S (PV (vL (frV a b v)) S) := by
  refine Fn.of [some (vL a), none, some (vL b), none, some (vI v), none, none, none, none, none, none] 6 rfl (by decide +kernel) rfl (Nat.le_of_ble_eq_true rfl) (by decide) ?_

  have loop : ∀ (n : Nat) (x y : Int), y.toNat < n → (0 ≤ x ∧ x < 9223372036854775808) → (0 ≤ y ∧ y < 9223372036854775808) → (0 < x ∨ 0 < y) → Int.gcd x y = Int.gcd a b → Go G k_M_fraction 6 [some (vL a), none, some (vL b), none, some (vI v), some (vL x), none, some (vL y), none, none, none] [] S (PV (vL (frV a b v)) S) := by
    intro n
    induction n with
    | zero => intro x y hn; omega
    | succ n ih =>
      intro x y hn hx hy hp hg
      refine Go_lload d_M_fraction_6 lg7 ?_
      refine Go_lconst d_M_fraction_8 ?_
      refine Go_lcmp d_M_fraction_9 (by omega) (by omega) ?_
      refine Go_ifc_eq d_M_fraction_10 (fun h10 => ?_) (fun h10 => ?_)
      · refine Go_iload d_M_fraction_31 lg4 ?_
        refine Go_if_ne d_M_fraction_33 (by omega) (fun h33 => ?_) (fun h33 => ?_)
        · refine Go_lload d_M_fraction_40 lg2 ?_
          refine Go_lload d_M_fraction_41 lg5 ?_
          refine Go_ldiv d_M_fraction_43 (by omega) (by omega) ?_
          exact Go_lretV d_M_fraction_44 (by
            unfold frV
            have e : (Int.gcd a b : Int) = x := by
              rw [← hg, h10]
              show ((Int.gcd x 0 : Nat) : Int) = x
              rw [Int.gcd_zero_right]
              omega
            rw [e]
            first | rw [if_pos (by assumption)] | rw [if_neg (by assumption)])
        · refine Go_lload d_M_fraction_36 lg0 ?_
          refine Go_goto d_M_fraction_37 ?_
          refine Go_lload d_M_fraction_41 lg5 ?_
          refine Go_ldiv d_M_fraction_43 (by omega) (by omega) ?_
          exact Go_lretV d_M_fraction_44 (by
            unfold frV
            have e : (Int.gcd a b : Int) = x := by
              rw [← hg, h10]
              show ((Int.gcd x 0 : Nat) : Int) = x
              rw [Int.gcd_zero_right]
              omega
            rw [e]
            first | rw [if_pos (by assumption)] | rw [if_neg (by assumption)])
      · refine Go_lload d_M_fraction_13 lg5 ?_
        refine Go_lload d_M_fraction_15 lg7 ?_
        refine Go_lrem d_M_fraction_17 (by omega) (by omega) ?_
        refine Go_lstore d_M_fraction_18 rfl sb9 ?_
        refine Go_lload d_M_fraction_20 lg7 ?_
        refine Go_lstore d_M_fraction_22 rfl sb5 ?_
        refine Go_lload d_M_fraction_24 lg9 ?_
        refine Go_lstore d_M_fraction_26 rfl sb7 ?_
        refine Go_goto d_M_fraction_28 ?_
        refine fg9 (ih y (x % y) ?_ hy ?_ (Or.inl ?_) ?_)
        · have := Int.emod_lt_of_pos x (show 0 < y by omega); have := Int.emod_nonneg x (show y ≠ 0 by omega); omega
        · have := Int.emod_lt_of_pos x (show 0 < y by omega); have := Int.emod_nonneg x (show y ≠ 0 by omega); omega
        · omega
        · rw [gcd_st hx.1 (by omega), hg]
  refine Go_lload d_M_fraction_0 lg0 ?_
  refine Go_lstore d_M_fraction_1 rfl sb5 ?_
  refine Go_lload d_M_fraction_3 lg2 ?_
  refine Go_lstore d_M_fraction_4 rfl sb7 ?_
  exact loop (b.toNat + 1) a b (by omega) ha (by omega) (by omega) rfl
end Model4
